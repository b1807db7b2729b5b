/-! THE REFERENCE'S CHECK -/
def stO (Q : Nat → Option PcR) (o : Option (Nat × Nat)) : Option PcR := match o with
  | none => none
  | some x => Q x.1
def lostO (Q : Nat → Option PcR) (o : Option (Nat × Nat)) : Bool := match o with
  | none => false
  | some x => (match Q x.1 with
    | none => true
    | some R => decide (R.2.1.1 < x.2))
def spO (v w : Int32) (o : Option (Nat × Nat)) : Prop := (v = 0 ∧ o = none) ∨ ∃ x y : Nat, v = nI x ∧ w = nI y ∧ o = some (x, y) ∧ 1 ≤ x ∧ x ≤ 60 ∧ y ≤ 9999
def gmt (R : PcR) (a b : Nat) : Bool := decide (((a = 0 ∨ R.1.1 = a) ∧ (b = 0 ∨ R.1.2.2 = b)) ∨ (R.1.2.1 = false ∧ (a = 0 ∨ R.1.2.2 = a) ∧ (b = 0 ∨ R.1.1 = b)))
def goQ (Q : Nat → Option PcR) (w a b : Nat) : Nat → Bool
  | 0 => false
  | k + 1 => goQ Q w a b k || (match Q (k + 1) with
    | none => false
    | some R => (decide (w = 0) || whl R.2.1.2.1) && gmt R a b)
theorem goQ_n {Q : Nat → Option PcR} {w a b k : Nat} (h : Q (k + 1) = none) : goQ Q w a b (k + 1) = goQ Q w a b k := by simp [goQ, h]
theorem goQ_s {Q : Nat → Option PcR} {w a b k : Nat} {R : PcR} (h : Q (k + 1) = some R) : goQ Q w a b (k + 1) = (goQ Q w a b k || ((decide (w = 0) || whl R.2.1.2.1) && gmt R a b)) := by simp [goQ, h]
theorem goQ_mono {Q : Nat → Option PcR} {w a b i : Nat} (h : goQ Q w a b i = true) : ∀ k, i ≤ k → goQ Q w a b k = true
  | 0, hk => by rw [show i = 0 by omega] at h; exact h
  | k + 1, hk => by
    by_cases he : i = k + 1
    · rw [← he]; exact h
    · simp [goQ, goQ_mono h k (by omega)]
theorem qF_is {Q : Nat → Option PcR} {x : Int32} {j : Nat} (hx : x = nI j) (h1 : 1 ≤ j) (h2 : j ≤ 60) : (qF Q x).isSome = (Q j).isSome := by rw [hx, qF_in h1 h2]
theorem mpA_s {P : Nat → Int32} {Q : Nat → Option PcR} {j : Nat} (hM : mpA P Q) (h1 : 1 ≤ j) (h2 : j ≤ 60) (h : (qF Q (nI j)).isSome = true) : ∃ R, Q j = some R ∧ mpR P (29 * j) R ∧ pcV R := by
  rw [qF_in h1 h2] at h
  obtain ⟨R, hR⟩ := Option.isSome_iff_exists.mp h
  exact ⟨R, hR, mpA_at hM h1 h2 hR⟩
theorem mpA_n {Q : Nat → Option PcR} {j : Nat} (h1 : 1 ≤ j) (h2 : j ≤ 60) (h : (qF Q (nI j)).isSome = false) : Q j = none := by
  rw [qF_in h1 h2] at h
  exact Option.isNone_iff_eq_none.mp (by simpa using h)

theorem d_Mo_tells_0 : decode b_Mo_tells 0 = .ok (.iload_n 3, 1) := by decide +kernel
theorem d_Mo_tells_1 : decode b_Mo_tells 1 = .ok (.ifCond .ne 4, 3) := by decide +kernel
theorem d_Mo_tells_4 : decode b_Mo_tells 4 = .ok (.return_, 1) := by decide +kernel
theorem d_Mo_tells_5 : decode b_Mo_tells 5 = .ok (.aload_n 0, 1) := by decide +kernel
theorem d_Mo_tells_6 : decode b_Mo_tells 6 = .ok (.getfield 38, 3) := by decide +kernel
theorem d_Mo_tells_9 : decode b_Mo_tells 9 = .ok (.aload_n 0, 1) := by decide +kernel
theorem d_Mo_tells_10 : decode b_Mo_tells 10 = .ok (.getfield 145, 3) := by decide +kernel
theorem d_Mo_tells_13 : decode b_Mo_tells 13 = .ok (.iload_n 1, 1) := by decide +kernel
theorem d_Mo_tells_14 : decode b_Mo_tells 14 = .ok (.iastore, 1) := by decide +kernel
theorem d_Mo_tells_15 : decode b_Mo_tells 15 = .ok (.aload_n 0, 1) := by decide +kernel
theorem d_Mo_tells_16 : decode b_Mo_tells 16 = .ok (.getfield 41, 3) := by decide +kernel
theorem d_Mo_tells_19 : decode b_Mo_tells 19 = .ok (.aload_n 0, 1) := by decide +kernel
theorem d_Mo_tells_20 : decode b_Mo_tells 20 = .ok (.getfield 145, 3) := by decide +kernel
theorem d_Mo_tells_23 : decode b_Mo_tells 23 = .ok (.iload_n 2, 1) := by decide +kernel
theorem d_Mo_tells_24 : decode b_Mo_tells 24 = .ok (.iastore, 1) := by decide +kernel
theorem d_Mo_tells_25 : decode b_Mo_tells 25 = .ok (.aload_n 0, 1) := by decide +kernel
theorem d_Mo_tells_26 : decode b_Mo_tells 26 = .ok (.dup, 1) := by decide +kernel
theorem d_Mo_tells_27 : decode b_Mo_tells 27 = .ok (.getfield 145, 3) := by decide +kernel
theorem d_Mo_tells_30 : decode b_Mo_tells 30 = .ok (.iconst 1, 1) := by decide +kernel
theorem d_Mo_tells_31 : decode b_Mo_tells 31 = .ok (.iadd, 1) := by decide +kernel
theorem d_Mo_tells_32 : decode b_Mo_tells 32 = .ok (.putfield 145, 3) := by decide +kernel
theorem d_Mo_tells_35 : decode b_Mo_tells 35 = .ok (.return_, 1) := by decide +kernel
theorem d_Mo_stands_0 : decode b_Mo_stands 0 = .ok (.aload_n 0, 1) := by decide +kernel
theorem d_Mo_stands_1 : decode b_Mo_stands 1 = .ok (.getfield 20, 3) := by decide +kernel
theorem d_Mo_stands_4 : decode b_Mo_stands 4 = .ok (.iload_n 1, 1) := by decide +kernel
theorem d_Mo_stands_5 : decode b_Mo_stands 5 = .ok (.iaload, 1) := by decide +kernel
theorem d_Mo_stands_6 : decode b_Mo_stands 6 = .ok (.ifCond .le 20, 3) := by decide +kernel
theorem d_Mo_stands_9 : decode b_Mo_stands 9 = .ok (.aload_n 0, 1) := by decide +kernel
theorem d_Mo_stands_10 : decode b_Mo_stands 10 = .ok (.aload_n 0, 1) := by decide +kernel
theorem d_Mo_stands_11 : decode b_Mo_stands 11 = .ok (.getfield 20, 3) := by decide +kernel
theorem d_Mo_stands_14 : decode b_Mo_stands 14 = .ok (.iload_n 1, 1) := by decide +kernel
theorem d_Mo_stands_15 : decode b_Mo_stands 15 = .ok (.iaload, 1) := by decide +kernel
theorem d_Mo_stands_16 : decode b_Mo_stands 16 = .ok (.invokevirtual 129, 3) := by decide +kernel
theorem d_Mo_stands_19 : decode b_Mo_stands 19 = .ok (.ifCond .eq 7, 3) := by decide +kernel
theorem d_Mo_stands_22 : decode b_Mo_stands 22 = .ok (.iconst 1, 1) := by decide +kernel
theorem d_Mo_stands_23 : decode b_Mo_stands 23 = .ok (.goto 4, 3) := by decide +kernel
theorem d_Mo_stands_26 : decode b_Mo_stands 26 = .ok (.iconst 0, 1) := by decide +kernel
theorem d_Mo_stands_27 : decode b_Mo_stands 27 = .ok (.ireturn, 1) := by decide +kernel
theorem d_Mo_isBad_0 : decode b_Mo_isBad 0 = .ok (.aload_n 0, 1) := by decide +kernel
theorem d_Mo_isBad_1 : decode b_Mo_isBad 1 = .ok (.getfield 20, 3) := by decide +kernel
theorem d_Mo_isBad_4 : decode b_Mo_isBad 4 = .ok (.iload_n 1, 1) := by decide +kernel
theorem d_Mo_isBad_5 : decode b_Mo_isBad 5 = .ok (.iaload, 1) := by decide +kernel
theorem d_Mo_isBad_6 : decode b_Mo_isBad 6 = .ok (.ifCond .le 45, 3) := by decide +kernel
theorem d_Mo_isBad_9 : decode b_Mo_isBad 9 = .ok (.aload_n 0, 1) := by decide +kernel
theorem d_Mo_isBad_10 : decode b_Mo_isBad 10 = .ok (.aload_n 0, 1) := by decide +kernel
theorem d_Mo_isBad_11 : decode b_Mo_isBad 11 = .ok (.getfield 20, 3) := by decide +kernel
theorem d_Mo_isBad_14 : decode b_Mo_isBad 14 = .ok (.iload_n 1, 1) := by decide +kernel
theorem d_Mo_isBad_15 : decode b_Mo_isBad 15 = .ok (.iaload, 1) := by decide +kernel
theorem d_Mo_isBad_16 : decode b_Mo_isBad 16 = .ok (.invokevirtual 129, 3) := by decide +kernel
theorem d_Mo_isBad_19 : decode b_Mo_isBad 19 = .ok (.ifCond .eq 28, 3) := by decide +kernel
theorem d_Mo_isBad_22 : decode b_Mo_isBad 22 = .ok (.aload_n 0, 1) := by decide +kernel
theorem d_Mo_isBad_23 : decode b_Mo_isBad 23 = .ok (.getfield 23, 3) := by decide +kernel
theorem d_Mo_isBad_26 : decode b_Mo_isBad 26 = .ok (.iload_n 1, 1) := by decide +kernel
theorem d_Mo_isBad_27 : decode b_Mo_isBad 27 = .ok (.iaload, 1) := by decide +kernel
theorem d_Mo_isBad_28 : decode b_Mo_isBad 28 = .ok (.aload_n 0, 1) := by decide +kernel
theorem d_Mo_isBad_29 : decode b_Mo_isBad 29 = .ok (.getfield 17, 3) := by decide +kernel
theorem d_Mo_isBad_32 : decode b_Mo_isBad 32 = .ok (.aload_n 0, 1) := by decide +kernel
theorem d_Mo_isBad_33 : decode b_Mo_isBad 33 = .ok (.getfield 20, 3) := by decide +kernel
theorem d_Mo_isBad_36 : decode b_Mo_isBad 36 = .ok (.iload_n 1, 1) := by decide +kernel
theorem d_Mo_isBad_37 : decode b_Mo_isBad 37 = .ok (.iaload, 1) := by decide +kernel
theorem d_Mo_isBad_38 : decode b_Mo_isBad 38 = .ok (.bipush 29, 2) := by decide +kernel
theorem d_Mo_isBad_40 : decode b_Mo_isBad 40 = .ok (.imul, 1) := by decide +kernel
theorem d_Mo_isBad_41 : decode b_Mo_isBad 41 = .ok (.iconst 4, 1) := by decide +kernel
theorem d_Mo_isBad_42 : decode b_Mo_isBad 42 = .ok (.iadd, 1) := by decide +kernel
theorem d_Mo_isBad_43 : decode b_Mo_isBad 43 = .ok (.iaload, 1) := by decide +kernel
theorem d_Mo_isBad_44 : decode b_Mo_isBad 44 = .ok (.if_icmp .le 7, 3) := by decide +kernel
theorem d_Mo_isBad_47 : decode b_Mo_isBad 47 = .ok (.iconst 1, 1) := by decide +kernel
theorem d_Mo_isBad_48 : decode b_Mo_isBad 48 = .ok (.goto 4, 3) := by decide +kernel
theorem d_Mo_isBad_51 : decode b_Mo_isBad 51 = .ok (.iconst 0, 1) := by decide +kernel
theorem d_Mo_isBad_52 : decode b_Mo_isBad 52 = .ok (.ireturn, 1) := by decide +kernel
theorem d_Mo_isForWheels_0 : decode b_Mo_isForWheels 0 = .ok (.aload_n 0, 1) := by decide +kernel
theorem d_Mo_isForWheels_1 : decode b_Mo_isForWheels 1 = .ok (.getfield 17, 3) := by decide +kernel
theorem d_Mo_isForWheels_4 : decode b_Mo_isForWheels 4 = .ok (.iload_n 1, 1) := by decide +kernel
theorem d_Mo_isForWheels_5 : decode b_Mo_isForWheels 5 = .ok (.bipush 29, 2) := by decide +kernel
theorem d_Mo_isForWheels_7 : decode b_Mo_isForWheels 7 = .ok (.imul, 1) := by decide +kernel
theorem d_Mo_isForWheels_8 : decode b_Mo_isForWheels 8 = .ok (.iconst 5, 1) := by decide +kernel
theorem d_Mo_isForWheels_9 : decode b_Mo_isForWheels 9 = .ok (.iadd, 1) := by decide +kernel
theorem d_Mo_isForWheels_10 : decode b_Mo_isForWheels 10 = .ok (.iaload, 1) := by decide +kernel
theorem d_Mo_isForWheels_11 : decode b_Mo_isForWheels 11 = .ok (.iconst 3, 1) := by decide +kernel
theorem d_Mo_isForWheels_12 : decode b_Mo_isForWheels 12 = .ok (.if_icmp .ge 7, 3) := by decide +kernel
theorem d_Mo_isForWheels_15 : decode b_Mo_isForWheels 15 = .ok (.iconst 1, 1) := by decide +kernel
theorem d_Mo_isForWheels_16 : decode b_Mo_isForWheels 16 = .ok (.goto 4, 3) := by decide +kernel
theorem d_Mo_isForWheels_19 : decode b_Mo_isForWheels 19 = .ok (.iconst 0, 1) := by decide +kernel
theorem d_Mo_isForWheels_20 : decode b_Mo_isForWheels 20 = .ok (.ireturn, 1) := by decide +kernel
theorem d_Mo_goes_0 : decode b_Mo_goes 0 = .ok (.iconst 1, 1) := by decide +kernel
theorem d_Mo_goes_1 : decode b_Mo_goes 1 = .ok (.istore 4, 2) := by decide +kernel
theorem d_Mo_goes_3 : decode b_Mo_goes 3 = .ok (.iload 4, 2) := by decide +kernel
theorem d_Mo_goes_5 : decode b_Mo_goes 5 = .ok (.bipush 61, 2) := by decide +kernel
theorem d_Mo_goes_7 : decode b_Mo_goes 7 = .ok (.if_icmp .ge 123, 3) := by decide +kernel
theorem d_Mo_goes_10 : decode b_Mo_goes 10 = .ok (.iload 4, 2) := by decide +kernel
theorem d_Mo_goes_12 : decode b_Mo_goes 12 = .ok (.bipush 29, 2) := by decide +kernel
theorem d_Mo_goes_14 : decode b_Mo_goes 14 = .ok (.imul, 1) := by decide +kernel
theorem d_Mo_goes_15 : decode b_Mo_goes 15 = .ok (.istore 5, 2) := by decide +kernel
theorem d_Mo_goes_17 : decode b_Mo_goes 17 = .ok (.aload_n 0, 1) := by decide +kernel
theorem d_Mo_goes_18 : decode b_Mo_goes 18 = .ok (.iload 4, 2) := by decide +kernel
theorem d_Mo_goes_20 : decode b_Mo_goes 20 = .ok (.invokevirtual 129, 3) := by decide +kernel
theorem d_Mo_goes_23 : decode b_Mo_goes 23 = .ok (.ifCond .eq 101, 3) := by decide +kernel
theorem d_Mo_goes_26 : decode b_Mo_goes 26 = .ok (.iload_n 3, 1) := by decide +kernel
theorem d_Mo_goes_27 : decode b_Mo_goes 27 = .ok (.ifCond .eq 19, 3) := by decide +kernel
theorem d_Mo_goes_30 : decode b_Mo_goes 30 = .ok (.aload_n 0, 1) := by decide +kernel
theorem d_Mo_goes_31 : decode b_Mo_goes 31 = .ok (.getfield 17, 3) := by decide +kernel
theorem d_Mo_goes_34 : decode b_Mo_goes 34 = .ok (.iload 5, 2) := by decide +kernel
theorem d_Mo_goes_36 : decode b_Mo_goes 36 = .ok (.iconst 5, 1) := by decide +kernel
theorem d_Mo_goes_37 : decode b_Mo_goes 37 = .ok (.iadd, 1) := by decide +kernel
theorem d_Mo_goes_38 : decode b_Mo_goes 38 = .ok (.iaload, 1) := by decide +kernel
theorem d_Mo_goes_39 : decode b_Mo_goes 39 = .ok (.iconst 2, 1) := by decide +kernel
theorem d_Mo_goes_40 : decode b_Mo_goes 40 = .ok (.if_icmp .le 6, 3) := by decide +kernel
theorem d_Mo_goes_43 : decode b_Mo_goes 43 = .ok (.goto 81, 3) := by decide +kernel
theorem d_Mo_goes_46 : decode b_Mo_goes 46 = .ok (.aload_n 0, 1) := by decide +kernel
theorem d_Mo_goes_47 : decode b_Mo_goes 47 = .ok (.getfield 17, 3) := by decide +kernel
theorem d_Mo_goes_50 : decode b_Mo_goes 50 = .ok (.iload 5, 2) := by decide +kernel
theorem d_Mo_goes_52 : decode b_Mo_goes 52 = .ok (.iconst 1, 1) := by decide +kernel
theorem d_Mo_goes_53 : decode b_Mo_goes 53 = .ok (.iadd, 1) := by decide +kernel
theorem d_Mo_goes_54 : decode b_Mo_goes 54 = .ok (.iaload, 1) := by decide +kernel
theorem d_Mo_goes_55 : decode b_Mo_goes 55 = .ok (.istore 6, 2) := by decide +kernel
theorem d_Mo_goes_57 : decode b_Mo_goes 57 = .ok (.aload_n 0, 1) := by decide +kernel
theorem d_Mo_goes_58 : decode b_Mo_goes 58 = .ok (.getfield 17, 3) := by decide +kernel
theorem d_Mo_goes_61 : decode b_Mo_goes 61 = .ok (.iload 5, 2) := by decide +kernel
theorem d_Mo_goes_63 : decode b_Mo_goes 63 = .ok (.iconst 2, 1) := by decide +kernel
theorem d_Mo_goes_64 : decode b_Mo_goes 64 = .ok (.iadd, 1) := by decide +kernel
theorem d_Mo_goes_65 : decode b_Mo_goes 65 = .ok (.iaload, 1) := by decide +kernel
theorem d_Mo_goes_66 : decode b_Mo_goes 66 = .ok (.istore 7, 2) := by decide +kernel
theorem d_Mo_goes_68 : decode b_Mo_goes 68 = .ok (.iload_n 1, 1) := by decide +kernel
theorem d_Mo_goes_69 : decode b_Mo_goes 69 = .ok (.ifCond .eq 9, 3) := by decide +kernel
theorem d_Mo_goes_72 : decode b_Mo_goes 72 = .ok (.iload 6, 2) := by decide +kernel
theorem d_Mo_goes_74 : decode b_Mo_goes 74 = .ok (.iload_n 1, 1) := by decide +kernel
theorem d_Mo_goes_75 : decode b_Mo_goes 75 = .ok (.if_icmp .ne 15, 3) := by decide +kernel
theorem d_Mo_goes_78 : decode b_Mo_goes 78 = .ok (.iload_n 2, 1) := by decide +kernel
theorem d_Mo_goes_79 : decode b_Mo_goes 79 = .ok (.ifCond .eq 9, 3) := by decide +kernel
theorem d_Mo_goes_82 : decode b_Mo_goes 82 = .ok (.iload 7, 2) := by decide +kernel
theorem d_Mo_goes_84 : decode b_Mo_goes 84 = .ok (.iload_n 2, 1) := by decide +kernel
theorem d_Mo_goes_85 : decode b_Mo_goes 85 = .ok (.if_icmp .ne 5, 3) := by decide +kernel
theorem d_Mo_goes_88 : decode b_Mo_goes 88 = .ok (.iconst 1, 1) := by decide +kernel
theorem d_Mo_goes_89 : decode b_Mo_goes 89 = .ok (.ireturn, 1) := by decide +kernel
theorem d_Mo_goes_90 : decode b_Mo_goes 90 = .ok (.aload_n 0, 1) := by decide +kernel
theorem d_Mo_goes_91 : decode b_Mo_goes 91 = .ok (.getfield 17, 3) := by decide +kernel
theorem d_Mo_goes_94 : decode b_Mo_goes 94 = .ok (.iload 5, 2) := by decide +kernel
theorem d_Mo_goes_96 : decode b_Mo_goes 96 = .ok (.iconst 3, 1) := by decide +kernel
theorem d_Mo_goes_97 : decode b_Mo_goes 97 = .ok (.iadd, 1) := by decide +kernel
theorem d_Mo_goes_98 : decode b_Mo_goes 98 = .ok (.iaload, 1) := by decide +kernel
theorem d_Mo_goes_99 : decode b_Mo_goes 99 = .ok (.ifCond .ne 25, 3) := by decide +kernel
theorem d_Mo_goes_102 : decode b_Mo_goes 102 = .ok (.iload_n 1, 1) := by decide +kernel
theorem d_Mo_goes_103 : decode b_Mo_goes 103 = .ok (.ifCond .eq 9, 3) := by decide +kernel
theorem d_Mo_goes_106 : decode b_Mo_goes 106 = .ok (.iload 7, 2) := by decide +kernel
theorem d_Mo_goes_108 : decode b_Mo_goes 108 = .ok (.iload_n 1, 1) := by decide +kernel
theorem d_Mo_goes_109 : decode b_Mo_goes 109 = .ok (.if_icmp .ne 15, 3) := by decide +kernel
theorem d_Mo_goes_112 : decode b_Mo_goes 112 = .ok (.iload_n 2, 1) := by decide +kernel
theorem d_Mo_goes_113 : decode b_Mo_goes 113 = .ok (.ifCond .eq 9, 3) := by decide +kernel
theorem d_Mo_goes_116 : decode b_Mo_goes 116 = .ok (.iload 6, 2) := by decide +kernel
theorem d_Mo_goes_118 : decode b_Mo_goes 118 = .ok (.iload_n 2, 1) := by decide +kernel
theorem d_Mo_goes_119 : decode b_Mo_goes 119 = .ok (.if_icmp .ne 5, 3) := by decide +kernel
theorem d_Mo_goes_122 : decode b_Mo_goes 122 = .ok (.iconst 1, 1) := by decide +kernel
theorem d_Mo_goes_123 : decode b_Mo_goes 123 = .ok (.ireturn, 1) := by decide +kernel
theorem d_Mo_goes_124 : decode b_Mo_goes 124 = .ok (.iinc 4 1, 3) := by decide +kernel
theorem d_Mo_goes_127 : decode b_Mo_goes 127 = .ok (.goto (-124), 3) := by decide +kernel
theorem d_Mo_goes_130 : decode b_Mo_goes 130 = .ok (.iconst 0, 1) := by decide +kernel
theorem d_Mo_goes_131 : decode b_Mo_goes 131 = .ok (.ireturn, 1) := by decide +kernel
theorem d_Mo_isWall_0 : decode b_Mo_isWall 0 = .ok (.iconst 0, 1) := by decide +kernel
theorem d_Mo_isWall_1 : decode b_Mo_isWall 1 = .ok (.istore_n 2, 1) := by decide +kernel
theorem d_Mo_isWall_2 : decode b_Mo_isWall 2 = .ok (.iload_n 2, 1) := by decide +kernel
theorem d_Mo_isWall_3 : decode b_Mo_isWall 3 = .ok (.aload_n 0, 1) := by decide +kernel
theorem d_Mo_isWall_4 : decode b_Mo_isWall 4 = .ok (.getfield 111, 3) := by decide +kernel
theorem d_Mo_isWall_7 : decode b_Mo_isWall 7 = .ok (.if_icmp .ge 79, 3) := by decide +kernel
theorem d_Mo_isWall_10 : decode b_Mo_isWall 10 = .ok (.aload_n 0, 1) := by decide +kernel
theorem d_Mo_isWall_11 : decode b_Mo_isWall 11 = .ok (.getfield 26, 3) := by decide +kernel
theorem d_Mo_isWall_14 : decode b_Mo_isWall 14 = .ok (.iconst 3, 1) := by decide +kernel
theorem d_Mo_isWall_15 : decode b_Mo_isWall 15 = .ok (.iload_n 2, 1) := by decide +kernel
theorem d_Mo_isWall_16 : decode b_Mo_isWall 16 = .ok (.imul, 1) := by decide +kernel
theorem d_Mo_isWall_17 : decode b_Mo_isWall 17 = .ok (.iconst 1, 1) := by decide +kernel
theorem d_Mo_isWall_18 : decode b_Mo_isWall 18 = .ok (.iadd, 1) := by decide +kernel
theorem d_Mo_isWall_19 : decode b_Mo_isWall 19 = .ok (.iaload, 1) := by decide +kernel
theorem d_Mo_isWall_20 : decode b_Mo_isWall 20 = .ok (.iload_n 1, 1) := by decide +kernel
theorem d_Mo_isWall_21 : decode b_Mo_isWall 21 = .ok (.if_icmp .ne 59, 3) := by decide +kernel
theorem d_Mo_isWall_24 : decode b_Mo_isWall 24 = .ok (.aload_n 0, 1) := by decide +kernel
theorem d_Mo_isWall_25 : decode b_Mo_isWall 25 = .ok (.getfield 26, 3) := by decide +kernel
theorem d_Mo_isWall_28 : decode b_Mo_isWall 28 = .ok (.iconst 3, 1) := by decide +kernel
theorem d_Mo_isWall_29 : decode b_Mo_isWall 29 = .ok (.iload_n 2, 1) := by decide +kernel
theorem d_Mo_isWall_30 : decode b_Mo_isWall 30 = .ok (.imul, 1) := by decide +kernel
theorem d_Mo_isWall_31 : decode b_Mo_isWall 31 = .ok (.iaload, 1) := by decide +kernel
theorem d_Mo_isWall_32 : decode b_Mo_isWall 32 = .ok (.aload_n 0, 1) := by decide +kernel
theorem d_Mo_isWall_33 : decode b_Mo_isWall 33 = .ok (.getfield 26, 3) := by decide +kernel
theorem d_Mo_isWall_36 : decode b_Mo_isWall 36 = .ok (.iconst 3, 1) := by decide +kernel
theorem d_Mo_isWall_37 : decode b_Mo_isWall 37 = .ok (.iload_n 2, 1) := by decide +kernel
theorem d_Mo_isWall_38 : decode b_Mo_isWall 38 = .ok (.imul, 1) := by decide +kernel
theorem d_Mo_isWall_39 : decode b_Mo_isWall 39 = .ok (.iconst 2, 1) := by decide +kernel
theorem d_Mo_isWall_40 : decode b_Mo_isWall 40 = .ok (.iadd, 1) := by decide +kernel
theorem d_Mo_isWall_41 : decode b_Mo_isWall 41 = .ok (.iaload, 1) := by decide +kernel
theorem d_Mo_isWall_42 : decode b_Mo_isWall 42 = .ok (.if_icmp .ne 6, 3) := by decide +kernel
theorem d_Mo_isWall_45 : decode b_Mo_isWall 45 = .ok (.goto 35, 3) := by decide +kernel
theorem d_Mo_isWall_48 : decode b_Mo_isWall 48 = .ok (.aload_n 0, 1) := by decide +kernel
theorem d_Mo_isWall_49 : decode b_Mo_isWall 49 = .ok (.aload_n 0, 1) := by decide +kernel
theorem d_Mo_isWall_50 : decode b_Mo_isWall 50 = .ok (.getfield 111, 3) := by decide +kernel
theorem d_Mo_isWall_53 : decode b_Mo_isWall 53 = .ok (.aload_n 0, 1) := by decide +kernel
theorem d_Mo_isWall_54 : decode b_Mo_isWall 54 = .ok (.getfield 26, 3) := by decide +kernel
theorem d_Mo_isWall_57 : decode b_Mo_isWall 57 = .ok (.iconst 3, 1) := by decide +kernel
theorem d_Mo_isWall_58 : decode b_Mo_isWall 58 = .ok (.iload_n 2, 1) := by decide +kernel
theorem d_Mo_isWall_59 : decode b_Mo_isWall 59 = .ok (.imul, 1) := by decide +kernel
theorem d_Mo_isWall_60 : decode b_Mo_isWall 60 = .ok (.iconst 2, 1) := by decide +kernel
theorem d_Mo_isWall_61 : decode b_Mo_isWall 61 = .ok (.iadd, 1) := by decide +kernel
theorem d_Mo_isWall_62 : decode b_Mo_isWall 62 = .ok (.iaload, 1) := by decide +kernel
theorem d_Mo_isWall_63 : decode b_Mo_isWall 63 = .ok (.iload_n 1, 1) := by decide +kernel
theorem d_Mo_isWall_64 : decode b_Mo_isWall 64 = .ok (.aload_n 0, 1) := by decide +kernel
theorem d_Mo_isWall_65 : decode b_Mo_isWall 65 = .ok (.getfield 26, 3) := by decide +kernel
theorem d_Mo_isWall_68 : decode b_Mo_isWall 68 = .ok (.iconst 3, 1) := by decide +kernel
theorem d_Mo_isWall_69 : decode b_Mo_isWall 69 = .ok (.iload_n 2, 1) := by decide +kernel
theorem d_Mo_isWall_70 : decode b_Mo_isWall 70 = .ok (.imul, 1) := by decide +kernel
theorem d_Mo_isWall_71 : decode b_Mo_isWall 71 = .ok (.iaload, 1) := by decide +kernel
theorem d_Mo_isWall_72 : decode b_Mo_isWall 72 = .ok (.invokevirtual 107, 3) := by decide +kernel
theorem d_Mo_isWall_75 : decode b_Mo_isWall 75 = .ok (.ifCond .eq 5, 3) := by decide +kernel
theorem d_Mo_isWall_78 : decode b_Mo_isWall 78 = .ok (.iconst 1, 1) := by decide +kernel
theorem d_Mo_isWall_79 : decode b_Mo_isWall 79 = .ok (.ireturn, 1) := by decide +kernel
theorem d_Mo_isWall_80 : decode b_Mo_isWall 80 = .ok (.iinc 2 1, 3) := by decide +kernel
theorem d_Mo_isWall_83 : decode b_Mo_isWall 83 = .ok (.goto (-81), 3) := by decide +kernel
theorem d_Mo_isWall_86 : decode b_Mo_isWall 86 = .ok (.iconst 0, 1) := by decide +kernel
theorem d_Mo_isWall_87 : decode b_Mo_isWall 87 = .ok (.ireturn, 1) := by decide +kernel
theorem d_Mo_hasTwin_0 : decode b_Mo_hasTwin 0 = .ok (.iload_n 1, 1) := by decide +kernel
theorem d_Mo_hasTwin_1 : decode b_Mo_hasTwin 1 = .ok (.bipush 29, 2) := by decide +kernel
theorem d_Mo_hasTwin_3 : decode b_Mo_hasTwin 3 = .ok (.imul, 1) := by decide +kernel
theorem d_Mo_hasTwin_4 : decode b_Mo_hasTwin 4 = .ok (.istore_n 2, 1) := by decide +kernel
theorem d_Mo_hasTwin_5 : decode b_Mo_hasTwin 5 = .ok (.iconst 1, 1) := by decide +kernel
theorem d_Mo_hasTwin_6 : decode b_Mo_hasTwin 6 = .ok (.istore_n 3, 1) := by decide +kernel
theorem d_Mo_hasTwin_7 : decode b_Mo_hasTwin 7 = .ok (.iload_n 3, 1) := by decide +kernel
theorem d_Mo_hasTwin_8 : decode b_Mo_hasTwin 8 = .ok (.iload_n 1, 1) := by decide +kernel
theorem d_Mo_hasTwin_9 : decode b_Mo_hasTwin 9 = .ok (.if_icmp .ge 156, 3) := by decide +kernel
theorem d_Mo_hasTwin_12 : decode b_Mo_hasTwin 12 = .ok (.iload_n 3, 1) := by decide +kernel
theorem d_Mo_hasTwin_13 : decode b_Mo_hasTwin 13 = .ok (.bipush 29, 2) := by decide +kernel
theorem d_Mo_hasTwin_15 : decode b_Mo_hasTwin 15 = .ok (.imul, 1) := by decide +kernel
theorem d_Mo_hasTwin_16 : decode b_Mo_hasTwin 16 = .ok (.istore 4, 2) := by decide +kernel
theorem d_Mo_hasTwin_18 : decode b_Mo_hasTwin 18 = .ok (.aload_n 0, 1) := by decide +kernel
theorem d_Mo_hasTwin_19 : decode b_Mo_hasTwin 19 = .ok (.iload_n 3, 1) := by decide +kernel
theorem d_Mo_hasTwin_20 : decode b_Mo_hasTwin 20 = .ok (.invokevirtual 129, 3) := by decide +kernel
theorem d_Mo_hasTwin_23 : decode b_Mo_hasTwin 23 = .ok (.ifCond .eq 63, 3) := by decide +kernel
theorem d_Mo_hasTwin_26 : decode b_Mo_hasTwin 26 = .ok (.aload_n 0, 1) := by decide +kernel
theorem d_Mo_hasTwin_27 : decode b_Mo_hasTwin 27 = .ok (.getfield 17, 3) := by decide +kernel
theorem d_Mo_hasTwin_30 : decode b_Mo_hasTwin 30 = .ok (.iload_n 2, 1) := by decide +kernel
theorem d_Mo_hasTwin_31 : decode b_Mo_hasTwin 31 = .ok (.bipush 20, 2) := by decide +kernel
theorem d_Mo_hasTwin_33 : decode b_Mo_hasTwin 33 = .ok (.iadd, 1) := by decide +kernel
theorem d_Mo_hasTwin_34 : decode b_Mo_hasTwin 34 = .ok (.iaload, 1) := by decide +kernel
theorem d_Mo_hasTwin_35 : decode b_Mo_hasTwin 35 = .ok (.ifCond .le 51, 3) := by decide +kernel
theorem d_Mo_hasTwin_38 : decode b_Mo_hasTwin 38 = .ok (.aload_n 0, 1) := by decide +kernel
theorem d_Mo_hasTwin_39 : decode b_Mo_hasTwin 39 = .ok (.getfield 17, 3) := by decide +kernel
theorem d_Mo_hasTwin_42 : decode b_Mo_hasTwin 42 = .ok (.iload 4, 2) := by decide +kernel
theorem d_Mo_hasTwin_44 : decode b_Mo_hasTwin 44 = .ok (.bipush 20, 2) := by decide +kernel
theorem d_Mo_hasTwin_46 : decode b_Mo_hasTwin 46 = .ok (.iadd, 1) := by decide +kernel
theorem d_Mo_hasTwin_47 : decode b_Mo_hasTwin 47 = .ok (.iaload, 1) := by decide +kernel
theorem d_Mo_hasTwin_48 : decode b_Mo_hasTwin 48 = .ok (.aload_n 0, 1) := by decide +kernel
theorem d_Mo_hasTwin_49 : decode b_Mo_hasTwin 49 = .ok (.getfield 17, 3) := by decide +kernel
theorem d_Mo_hasTwin_52 : decode b_Mo_hasTwin 52 = .ok (.iload_n 2, 1) := by decide +kernel
theorem d_Mo_hasTwin_53 : decode b_Mo_hasTwin 53 = .ok (.bipush 20, 2) := by decide +kernel
theorem d_Mo_hasTwin_55 : decode b_Mo_hasTwin 55 = .ok (.iadd, 1) := by decide +kernel
theorem d_Mo_hasTwin_56 : decode b_Mo_hasTwin 56 = .ok (.iaload, 1) := by decide +kernel
theorem d_Mo_hasTwin_57 : decode b_Mo_hasTwin 57 = .ok (.if_icmp .ne 29, 3) := by decide +kernel
theorem d_Mo_hasTwin_60 : decode b_Mo_hasTwin 60 = .ok (.aload_n 0, 1) := by decide +kernel
theorem d_Mo_hasTwin_61 : decode b_Mo_hasTwin 61 = .ok (.getfield 17, 3) := by decide +kernel
theorem d_Mo_hasTwin_64 : decode b_Mo_hasTwin 64 = .ok (.iload 4, 2) := by decide +kernel
theorem d_Mo_hasTwin_66 : decode b_Mo_hasTwin 66 = .ok (.bipush 19, 2) := by decide +kernel
theorem d_Mo_hasTwin_68 : decode b_Mo_hasTwin 68 = .ok (.iadd, 1) := by decide +kernel
theorem d_Mo_hasTwin_69 : decode b_Mo_hasTwin 69 = .ok (.iaload, 1) := by decide +kernel
theorem d_Mo_hasTwin_70 : decode b_Mo_hasTwin 70 = .ok (.aload_n 0, 1) := by decide +kernel
theorem d_Mo_hasTwin_71 : decode b_Mo_hasTwin 71 = .ok (.getfield 17, 3) := by decide +kernel
theorem d_Mo_hasTwin_74 : decode b_Mo_hasTwin 74 = .ok (.iload_n 2, 1) := by decide +kernel
theorem d_Mo_hasTwin_75 : decode b_Mo_hasTwin 75 = .ok (.bipush 19, 2) := by decide +kernel
theorem d_Mo_hasTwin_77 : decode b_Mo_hasTwin 77 = .ok (.iadd, 1) := by decide +kernel
theorem d_Mo_hasTwin_78 : decode b_Mo_hasTwin 78 = .ok (.iaload, 1) := by decide +kernel
theorem d_Mo_hasTwin_79 : decode b_Mo_hasTwin 79 = .ok (.if_icmp .ne 7, 3) := by decide +kernel
theorem d_Mo_hasTwin_82 : decode b_Mo_hasTwin 82 = .ok (.iconst 1, 1) := by decide +kernel
theorem d_Mo_hasTwin_83 : decode b_Mo_hasTwin 83 = .ok (.goto 4, 3) := by decide +kernel
theorem d_Mo_hasTwin_86 : decode b_Mo_hasTwin 86 = .ok (.iconst 0, 1) := by decide +kernel
theorem d_Mo_hasTwin_87 : decode b_Mo_hasTwin 87 = .ok (.istore 5, 2) := by decide +kernel
theorem d_Mo_hasTwin_89 : decode b_Mo_hasTwin 89 = .ok (.iconst 0, 1) := by decide +kernel
theorem d_Mo_hasTwin_90 : decode b_Mo_hasTwin 90 = .ok (.istore 6, 2) := by decide +kernel
theorem d_Mo_hasTwin_92 : decode b_Mo_hasTwin 92 = .ok (.iload 6, 2) := by decide +kernel
theorem d_Mo_hasTwin_94 : decode b_Mo_hasTwin 94 = .ok (.aload_n 0, 1) := by decide +kernel
theorem d_Mo_hasTwin_95 : decode b_Mo_hasTwin 95 = .ok (.getfield 17, 3) := by decide +kernel
theorem d_Mo_hasTwin_98 : decode b_Mo_hasTwin 98 = .ok (.iload_n 2, 1) := by decide +kernel
theorem d_Mo_hasTwin_99 : decode b_Mo_hasTwin 99 = .ok (.bipush 20, 2) := by decide +kernel
theorem d_Mo_hasTwin_101 : decode b_Mo_hasTwin 101 = .ok (.iadd, 1) := by decide +kernel
theorem d_Mo_hasTwin_102 : decode b_Mo_hasTwin 102 = .ok (.iaload, 1) := by decide +kernel
theorem d_Mo_hasTwin_103 : decode b_Mo_hasTwin 103 = .ok (.if_icmp .ge 49, 3) := by decide +kernel
theorem d_Mo_hasTwin_106 : decode b_Mo_hasTwin 106 = .ok (.iload 5, 2) := by decide +kernel
theorem d_Mo_hasTwin_108 : decode b_Mo_hasTwin 108 = .ok (.ifCond .eq 44, 3) := by decide +kernel
theorem d_Mo_hasTwin_111 : decode b_Mo_hasTwin 111 = .ok (.aload_n 0, 1) := by decide +kernel
theorem d_Mo_hasTwin_112 : decode b_Mo_hasTwin 112 = .ok (.getfield 17, 3) := by decide +kernel
theorem d_Mo_hasTwin_115 : decode b_Mo_hasTwin 115 = .ok (.iload_n 2, 1) := by decide +kernel
theorem d_Mo_hasTwin_116 : decode b_Mo_hasTwin 116 = .ok (.bipush 21, 2) := by decide +kernel
theorem d_Mo_hasTwin_118 : decode b_Mo_hasTwin 118 = .ok (.iadd, 1) := by decide +kernel
theorem d_Mo_hasTwin_119 : decode b_Mo_hasTwin 119 = .ok (.iload 6, 2) := by decide +kernel
theorem d_Mo_hasTwin_121 : decode b_Mo_hasTwin 121 = .ok (.iadd, 1) := by decide +kernel
theorem d_Mo_hasTwin_122 : decode b_Mo_hasTwin 122 = .ok (.iaload, 1) := by decide +kernel
theorem d_Mo_hasTwin_123 : decode b_Mo_hasTwin 123 = .ok (.aload_n 0, 1) := by decide +kernel
theorem d_Mo_hasTwin_124 : decode b_Mo_hasTwin 124 = .ok (.getfield 17, 3) := by decide +kernel
theorem d_Mo_hasTwin_127 : decode b_Mo_hasTwin 127 = .ok (.iload 4, 2) := by decide +kernel
theorem d_Mo_hasTwin_129 : decode b_Mo_hasTwin 129 = .ok (.bipush 21, 2) := by decide +kernel
theorem d_Mo_hasTwin_131 : decode b_Mo_hasTwin 131 = .ok (.iadd, 1) := by decide +kernel
theorem d_Mo_hasTwin_132 : decode b_Mo_hasTwin 132 = .ok (.iload 6, 2) := by decide +kernel
theorem d_Mo_hasTwin_134 : decode b_Mo_hasTwin 134 = .ok (.iadd, 1) := by decide +kernel
theorem d_Mo_hasTwin_135 : decode b_Mo_hasTwin 135 = .ok (.iaload, 1) := by decide +kernel
theorem d_Mo_hasTwin_136 : decode b_Mo_hasTwin 136 = .ok (.if_icmp .ne 7, 3) := by decide +kernel
theorem d_Mo_hasTwin_139 : decode b_Mo_hasTwin 139 = .ok (.iconst 1, 1) := by decide +kernel
theorem d_Mo_hasTwin_140 : decode b_Mo_hasTwin 140 = .ok (.goto 4, 3) := by decide +kernel
theorem d_Mo_hasTwin_143 : decode b_Mo_hasTwin 143 = .ok (.iconst 0, 1) := by decide +kernel
theorem d_Mo_hasTwin_144 : decode b_Mo_hasTwin 144 = .ok (.istore 5, 2) := by decide +kernel
theorem d_Mo_hasTwin_146 : decode b_Mo_hasTwin 146 = .ok (.iinc 6 1, 3) := by decide +kernel
theorem d_Mo_hasTwin_149 : decode b_Mo_hasTwin 149 = .ok (.goto (-57), 3) := by decide +kernel
theorem d_Mo_hasTwin_152 : decode b_Mo_hasTwin 152 = .ok (.iload 5, 2) := by decide +kernel
theorem d_Mo_hasTwin_154 : decode b_Mo_hasTwin 154 = .ok (.ifCond .eq 5, 3) := by decide +kernel
theorem d_Mo_hasTwin_157 : decode b_Mo_hasTwin 157 = .ok (.iconst 1, 1) := by decide +kernel
theorem d_Mo_hasTwin_158 : decode b_Mo_hasTwin 158 = .ok (.ireturn, 1) := by decide +kernel
theorem d_Mo_hasTwin_159 : decode b_Mo_hasTwin 159 = .ok (.iinc 3 1, 3) := by decide +kernel
theorem d_Mo_hasTwin_162 : decode b_Mo_hasTwin 162 = .ok (.goto (-155), 3) := by decide +kernel
theorem d_Mo_hasTwin_165 : decode b_Mo_hasTwin 165 = .ok (.iconst 0, 1) := by decide +kernel
theorem d_Mo_hasTwin_166 : decode b_Mo_hasTwin 166 = .ok (.ireturn, 1) := by decide +kernel
theorem d_Mo_spreads_0 : decode b_Mo_spreads 0 = .ok (.iconst 0, 1) := by decide +kernel
theorem d_Mo_spreads_1 : decode b_Mo_spreads 1 = .ok (.istore_n 2, 1) := by decide +kernel
theorem d_Mo_spreads_2 : decode b_Mo_spreads 2 = .ok (.iload_n 2, 1) := by decide +kernel
theorem d_Mo_spreads_3 : decode b_Mo_spreads 3 = .ok (.bipush 41, 2) := by decide +kernel
theorem d_Mo_spreads_5 : decode b_Mo_spreads 5 = .ok (.if_icmp .ge 16, 3) := by decide +kernel
theorem d_Mo_spreads_8 : decode b_Mo_spreads 8 = .ok (.aload_n 0, 1) := by decide +kernel
theorem d_Mo_spreads_9 : decode b_Mo_spreads 9 = .ok (.getfield 44, 3) := by decide +kernel
theorem d_Mo_spreads_12 : decode b_Mo_spreads 12 = .ok (.iload_n 2, 1) := by decide +kernel
theorem d_Mo_spreads_13 : decode b_Mo_spreads 13 = .ok (.iconst 0, 1) := by decide +kernel
theorem d_Mo_spreads_14 : decode b_Mo_spreads 14 = .ok (.bastore, 1) := by decide +kernel
theorem d_Mo_spreads_15 : decode b_Mo_spreads 15 = .ok (.iinc 2 1, 3) := by decide +kernel
theorem d_Mo_spreads_18 : decode b_Mo_spreads 18 = .ok (.goto (-16), 3) := by decide +kernel
theorem d_Mo_spreads_21 : decode b_Mo_spreads 21 = .ok (.aload_n 0, 1) := by decide +kernel
theorem d_Mo_spreads_22 : decode b_Mo_spreads 22 = .ok (.getfield 44, 3) := by decide +kernel
theorem d_Mo_spreads_25 : decode b_Mo_spreads 25 = .ok (.aload_n 0, 1) := by decide +kernel
theorem d_Mo_spreads_26 : decode b_Mo_spreads 26 = .ok (.getfield 17, 3) := by decide +kernel
theorem d_Mo_spreads_29 : decode b_Mo_spreads 29 = .ok (.iload_n 1, 1) := by decide +kernel
theorem d_Mo_spreads_30 : decode b_Mo_spreads 30 = .ok (.bipush 29, 2) := by decide +kernel
theorem d_Mo_spreads_32 : decode b_Mo_spreads 32 = .ok (.imul, 1) := by decide +kernel
theorem d_Mo_spreads_33 : decode b_Mo_spreads 33 = .ok (.iconst 1, 1) := by decide +kernel
theorem d_Mo_spreads_34 : decode b_Mo_spreads 34 = .ok (.iadd, 1) := by decide +kernel
theorem d_Mo_spreads_35 : decode b_Mo_spreads 35 = .ok (.iaload, 1) := by decide +kernel
theorem d_Mo_spreads_36 : decode b_Mo_spreads 36 = .ok (.iconst 1, 1) := by decide +kernel
theorem d_Mo_spreads_37 : decode b_Mo_spreads 37 = .ok (.bastore, 1) := by decide +kernel
theorem d_Mo_spreads_38 : decode b_Mo_spreads 38 = .ok (.aload_n 0, 1) := by decide +kernel
theorem d_Mo_spreads_39 : decode b_Mo_spreads 39 = .ok (.getfield 44, 3) := by decide +kernel
theorem d_Mo_spreads_42 : decode b_Mo_spreads 42 = .ok (.aload_n 0, 1) := by decide +kernel
theorem d_Mo_spreads_43 : decode b_Mo_spreads 43 = .ok (.getfield 17, 3) := by decide +kernel
theorem d_Mo_spreads_46 : decode b_Mo_spreads 46 = .ok (.iload_n 1, 1) := by decide +kernel
theorem d_Mo_spreads_47 : decode b_Mo_spreads 47 = .ok (.bipush 29, 2) := by decide +kernel
theorem d_Mo_spreads_49 : decode b_Mo_spreads 49 = .ok (.imul, 1) := by decide +kernel
theorem d_Mo_spreads_50 : decode b_Mo_spreads 50 = .ok (.iconst 2, 1) := by decide +kernel
theorem d_Mo_spreads_51 : decode b_Mo_spreads 51 = .ok (.iadd, 1) := by decide +kernel
theorem d_Mo_spreads_52 : decode b_Mo_spreads 52 = .ok (.iaload, 1) := by decide +kernel
theorem d_Mo_spreads_53 : decode b_Mo_spreads 53 = .ok (.iconst 1, 1) := by decide +kernel
theorem d_Mo_spreads_54 : decode b_Mo_spreads 54 = .ok (.bastore, 1) := by decide +kernel
theorem d_Mo_spreads_55 : decode b_Mo_spreads 55 = .ok (.iconst 1, 1) := by decide +kernel
theorem d_Mo_spreads_56 : decode b_Mo_spreads 56 = .ok (.istore_n 2, 1) := by decide +kernel
theorem d_Mo_spreads_57 : decode b_Mo_spreads 57 = .ok (.iload_n 2, 1) := by decide +kernel
theorem d_Mo_spreads_58 : decode b_Mo_spreads 58 = .ok (.ifCond .eq 81, 3) := by decide +kernel
theorem d_Mo_spreads_61 : decode b_Mo_spreads 61 = .ok (.iconst 0, 1) := by decide +kernel
theorem d_Mo_spreads_62 : decode b_Mo_spreads 62 = .ok (.istore_n 2, 1) := by decide +kernel
theorem d_Mo_spreads_63 : decode b_Mo_spreads 63 = .ok (.iconst 1, 1) := by decide +kernel
theorem d_Mo_spreads_64 : decode b_Mo_spreads 64 = .ok (.istore_n 3, 1) := by decide +kernel
theorem d_Mo_spreads_65 : decode b_Mo_spreads 65 = .ok (.iload_n 3, 1) := by decide +kernel
theorem d_Mo_spreads_66 : decode b_Mo_spreads 66 = .ok (.bipush 41, 2) := by decide +kernel
theorem d_Mo_spreads_68 : decode b_Mo_spreads 68 = .ok (.if_icmp .ge 68, 3) := by decide +kernel
theorem d_Mo_spreads_71 : decode b_Mo_spreads 71 = .ok (.iconst 1, 1) := by decide +kernel
theorem d_Mo_spreads_72 : decode b_Mo_spreads 72 = .ok (.istore 4, 2) := by decide +kernel
theorem d_Mo_spreads_74 : decode b_Mo_spreads 74 = .ok (.iload 4, 2) := by decide +kernel
theorem d_Mo_spreads_76 : decode b_Mo_spreads 76 = .ok (.bipush 41, 2) := by decide +kernel
theorem d_Mo_spreads_78 : decode b_Mo_spreads 78 = .ok (.if_icmp .ge 52, 3) := by decide +kernel
theorem d_Mo_spreads_81 : decode b_Mo_spreads 81 = .ok (.aload_n 0, 1) := by decide +kernel
theorem d_Mo_spreads_82 : decode b_Mo_spreads 82 = .ok (.getfield 44, 3) := by decide +kernel
theorem d_Mo_spreads_85 : decode b_Mo_spreads 85 = .ok (.iload_n 3, 1) := by decide +kernel
theorem d_Mo_spreads_86 : decode b_Mo_spreads 86 = .ok (.baload, 1) := by decide +kernel
theorem d_Mo_spreads_87 : decode b_Mo_spreads 87 = .ok (.ifCond .eq 43, 3) := by decide +kernel
theorem d_Mo_spreads_90 : decode b_Mo_spreads 90 = .ok (.aload_n 0, 1) := by decide +kernel
theorem d_Mo_spreads_91 : decode b_Mo_spreads 91 = .ok (.getfield 44, 3) := by decide +kernel
theorem d_Mo_spreads_94 : decode b_Mo_spreads 94 = .ok (.iload 4, 2) := by decide +kernel
theorem d_Mo_spreads_96 : decode b_Mo_spreads 96 = .ok (.baload, 1) := by decide +kernel
theorem d_Mo_spreads_97 : decode b_Mo_spreads 97 = .ok (.ifCond .ne 27, 3) := by decide +kernel
theorem d_Mo_spreads_100 : decode b_Mo_spreads 100 = .ok (.aload_n 0, 1) := by decide +kernel
theorem d_Mo_spreads_101 : decode b_Mo_spreads 101 = .ok (.iload_n 3, 1) := by decide +kernel
theorem d_Mo_spreads_102 : decode b_Mo_spreads 102 = .ok (.iload 4, 2) := by decide +kernel
theorem d_Mo_spreads_104 : decode b_Mo_spreads 104 = .ok (.iconst 1, 1) := by decide +kernel
theorem d_Mo_spreads_105 : decode b_Mo_spreads 105 = .ok (.invokevirtual 148, 3) := by decide +kernel
theorem d_Mo_spreads_108 : decode b_Mo_spreads 108 = .ok (.ifCond .ne 6, 3) := by decide +kernel
theorem d_Mo_spreads_111 : decode b_Mo_spreads 111 = .ok (.goto 13, 3) := by decide +kernel
theorem d_Mo_spreads_114 : decode b_Mo_spreads 114 = .ok (.aload_n 0, 1) := by decide +kernel
theorem d_Mo_spreads_115 : decode b_Mo_spreads 115 = .ok (.getfield 44, 3) := by decide +kernel
theorem d_Mo_spreads_118 : decode b_Mo_spreads 118 = .ok (.iload 4, 2) := by decide +kernel
theorem d_Mo_spreads_120 : decode b_Mo_spreads 120 = .ok (.iconst 1, 1) := by decide +kernel
theorem d_Mo_spreads_121 : decode b_Mo_spreads 121 = .ok (.bastore, 1) := by decide +kernel
theorem d_Mo_spreads_122 : decode b_Mo_spreads 122 = .ok (.iconst 1, 1) := by decide +kernel
theorem d_Mo_spreads_123 : decode b_Mo_spreads 123 = .ok (.istore_n 2, 1) := by decide +kernel
theorem d_Mo_spreads_124 : decode b_Mo_spreads 124 = .ok (.iinc 4 1, 3) := by decide +kernel
theorem d_Mo_spreads_127 : decode b_Mo_spreads 127 = .ok (.goto (-53), 3) := by decide +kernel
theorem d_Mo_spreads_130 : decode b_Mo_spreads 130 = .ok (.iinc 3 1, 3) := by decide +kernel
theorem d_Mo_spreads_133 : decode b_Mo_spreads 133 = .ok (.goto (-68), 3) := by decide +kernel
theorem d_Mo_spreads_136 : decode b_Mo_spreads 136 = .ok (.goto (-79), 3) := by decide +kernel
theorem d_Mo_spreads_139 : decode b_Mo_spreads 139 = .ok (.return_, 1) := by decide +kernel
theorem d_Mo_reached_0 : decode b_Mo_reached 0 = .ok (.iconst 1, 1) := by decide +kernel
theorem d_Mo_reached_1 : decode b_Mo_reached 1 = .ok (.istore_n 1, 1) := by decide +kernel
theorem d_Mo_reached_2 : decode b_Mo_reached 2 = .ok (.iload_n 1, 1) := by decide +kernel
theorem d_Mo_reached_3 : decode b_Mo_reached 3 = .ok (.bipush 31, 2) := by decide +kernel
theorem d_Mo_reached_5 : decode b_Mo_reached 5 = .ok (.if_icmp .ge 20, 3) := by decide +kernel
theorem d_Mo_reached_8 : decode b_Mo_reached 8 = .ok (.aload_n 0, 1) := by decide +kernel
theorem d_Mo_reached_9 : decode b_Mo_reached 9 = .ok (.bipush 31, 2) := by decide +kernel
theorem d_Mo_reached_11 : decode b_Mo_reached 11 = .ok (.iload_n 1, 1) := by decide +kernel
theorem d_Mo_reached_12 : decode b_Mo_reached 12 = .ok (.iadd, 1) := by decide +kernel
theorem d_Mo_reached_13 : decode b_Mo_reached 13 = .ok (.invokevirtual 152, 3) := by decide +kernel
theorem d_Mo_reached_16 : decode b_Mo_reached 16 = .ok (.ifCond .ne 9, 3) := by decide +kernel
theorem d_Mo_reached_19 : decode b_Mo_reached 19 = .ok (.iinc 1 1, 3) := by decide +kernel
theorem d_Mo_reached_22 : decode b_Mo_reached 22 = .ok (.goto (-20), 3) := by decide +kernel
theorem d_Mo_reached_25 : decode b_Mo_reached 25 = .ok (.iload_n 1, 1) := by decide +kernel
theorem d_Mo_reached_26 : decode b_Mo_reached 26 = .ok (.bipush 31, 2) := by decide +kernel
theorem d_Mo_reached_28 : decode b_Mo_reached 28 = .ok (.if_icmp .ne 4, 3) := by decide +kernel
theorem d_Mo_reached_31 : decode b_Mo_reached 31 = .ok (.return_, 1) := by decide +kernel
theorem d_Mo_reached_32 : decode b_Mo_reached 32 = .ok (.aload_n 0, 1) := by decide +kernel
theorem d_Mo_reached_33 : decode b_Mo_reached 33 = .ok (.getfield 20, 3) := by decide +kernel
theorem d_Mo_reached_36 : decode b_Mo_reached 36 = .ok (.bipush 31, 2) := by decide +kernel
theorem d_Mo_reached_38 : decode b_Mo_reached 38 = .ok (.iload_n 1, 1) := by decide +kernel
theorem d_Mo_reached_39 : decode b_Mo_reached 39 = .ok (.iadd, 1) := by decide +kernel
theorem d_Mo_reached_40 : decode b_Mo_reached 40 = .ok (.iaload, 1) := by decide +kernel
theorem d_Mo_reached_41 : decode b_Mo_reached 41 = .ok (.istore_n 2, 1) := by decide +kernel
theorem d_Mo_reached_42 : decode b_Mo_reached 42 = .ok (.aload_n 0, 1) := by decide +kernel
theorem d_Mo_reached_43 : decode b_Mo_reached 43 = .ok (.iload_n 2, 1) := by decide +kernel
theorem d_Mo_reached_44 : decode b_Mo_reached 44 = .ok (.invokevirtual 155, 3) := by decide +kernel
theorem d_Mo_reached_47 : decode b_Mo_reached 47 = .ok (.iload_n 1, 1) := by decide +kernel
theorem d_Mo_reached_48 : decode b_Mo_reached 48 = .ok (.istore_n 3, 1) := by decide +kernel
theorem d_Mo_reached_49 : decode b_Mo_reached 49 = .ok (.iload_n 3, 1) := by decide +kernel
theorem d_Mo_reached_50 : decode b_Mo_reached 50 = .ok (.bipush 31, 2) := by decide +kernel
theorem d_Mo_reached_52 : decode b_Mo_reached 52 = .ok (.if_icmp .ge 113, 3) := by decide +kernel
theorem d_Mo_reached_55 : decode b_Mo_reached 55 = .ok (.aload_n 0, 1) := by decide +kernel
theorem d_Mo_reached_56 : decode b_Mo_reached 56 = .ok (.bipush 31, 2) := by decide +kernel
theorem d_Mo_reached_58 : decode b_Mo_reached 58 = .ok (.iload_n 3, 1) := by decide +kernel
theorem d_Mo_reached_59 : decode b_Mo_reached 59 = .ok (.iadd, 1) := by decide +kernel
theorem d_Mo_reached_60 : decode b_Mo_reached 60 = .ok (.invokevirtual 152, 3) := by decide +kernel
theorem d_Mo_reached_63 : decode b_Mo_reached 63 = .ok (.ifCond .ne 6, 3) := by decide +kernel
theorem d_Mo_reached_66 : decode b_Mo_reached 66 = .ok (.goto 93, 3) := by decide +kernel
theorem d_Mo_reached_69 : decode b_Mo_reached 69 = .ok (.aload_n 0, 1) := by decide +kernel
theorem d_Mo_reached_70 : decode b_Mo_reached 70 = .ok (.getfield 20, 3) := by decide +kernel
theorem d_Mo_reached_73 : decode b_Mo_reached 73 = .ok (.bipush 31, 2) := by decide +kernel
theorem d_Mo_reached_75 : decode b_Mo_reached 75 = .ok (.iload_n 3, 1) := by decide +kernel
theorem d_Mo_reached_76 : decode b_Mo_reached 76 = .ok (.iadd, 1) := by decide +kernel
theorem d_Mo_reached_77 : decode b_Mo_reached 77 = .ok (.iaload, 1) := by decide +kernel
theorem d_Mo_reached_78 : decode b_Mo_reached 78 = .ok (.istore 4, 2) := by decide +kernel
theorem d_Mo_reached_80 : decode b_Mo_reached 80 = .ok (.aload_n 0, 1) := by decide +kernel
theorem d_Mo_reached_81 : decode b_Mo_reached 81 = .ok (.iload 4, 2) := by decide +kernel
theorem d_Mo_reached_83 : decode b_Mo_reached 83 = .ok (.invokevirtual 158, 3) := by decide +kernel
theorem d_Mo_reached_86 : decode b_Mo_reached 86 = .ok (.ifCond .eq 53, 3) := by decide +kernel
theorem d_Mo_reached_89 : decode b_Mo_reached 89 = .ok (.iload 4, 2) := by decide +kernel
theorem d_Mo_reached_91 : decode b_Mo_reached 91 = .ok (.iload_n 2, 1) := by decide +kernel
theorem d_Mo_reached_92 : decode b_Mo_reached 92 = .ok (.if_icmp .eq 43, 3) := by decide +kernel
theorem d_Mo_reached_95 : decode b_Mo_reached 95 = .ok (.aload_n 0, 1) := by decide +kernel
theorem d_Mo_reached_96 : decode b_Mo_reached 96 = .ok (.getfield 44, 3) := by decide +kernel
theorem d_Mo_reached_99 : decode b_Mo_reached 99 = .ok (.aload_n 0, 1) := by decide +kernel
theorem d_Mo_reached_100 : decode b_Mo_reached 100 = .ok (.getfield 17, 3) := by decide +kernel
theorem d_Mo_reached_103 : decode b_Mo_reached 103 = .ok (.iload 4, 2) := by decide +kernel
theorem d_Mo_reached_105 : decode b_Mo_reached 105 = .ok (.bipush 29, 2) := by decide +kernel
theorem d_Mo_reached_107 : decode b_Mo_reached 107 = .ok (.imul, 1) := by decide +kernel
theorem d_Mo_reached_108 : decode b_Mo_reached 108 = .ok (.iconst 1, 1) := by decide +kernel
theorem d_Mo_reached_109 : decode b_Mo_reached 109 = .ok (.iadd, 1) := by decide +kernel
theorem d_Mo_reached_110 : decode b_Mo_reached 110 = .ok (.iaload, 1) := by decide +kernel
theorem d_Mo_reached_111 : decode b_Mo_reached 111 = .ok (.baload, 1) := by decide +kernel
theorem d_Mo_reached_112 : decode b_Mo_reached 112 = .ok (.ifCond .ne 23, 3) := by decide +kernel
theorem d_Mo_reached_115 : decode b_Mo_reached 115 = .ok (.aload_n 0, 1) := by decide +kernel
theorem d_Mo_reached_116 : decode b_Mo_reached 116 = .ok (.getfield 44, 3) := by decide +kernel
theorem d_Mo_reached_119 : decode b_Mo_reached 119 = .ok (.aload_n 0, 1) := by decide +kernel
theorem d_Mo_reached_120 : decode b_Mo_reached 120 = .ok (.getfield 17, 3) := by decide +kernel
theorem d_Mo_reached_123 : decode b_Mo_reached 123 = .ok (.iload 4, 2) := by decide +kernel
theorem d_Mo_reached_125 : decode b_Mo_reached 125 = .ok (.bipush 29, 2) := by decide +kernel
theorem d_Mo_reached_127 : decode b_Mo_reached 127 = .ok (.imul, 1) := by decide +kernel
theorem d_Mo_reached_128 : decode b_Mo_reached 128 = .ok (.iconst 2, 1) := by decide +kernel
theorem d_Mo_reached_129 : decode b_Mo_reached 129 = .ok (.iadd, 1) := by decide +kernel
theorem d_Mo_reached_130 : decode b_Mo_reached 130 = .ok (.iaload, 1) := by decide +kernel
theorem d_Mo_reached_131 : decode b_Mo_reached 131 = .ok (.baload, 1) := by decide +kernel
theorem d_Mo_reached_132 : decode b_Mo_reached 132 = .ok (.ifCond .eq 7, 3) := by decide +kernel
theorem d_Mo_reached_135 : decode b_Mo_reached 135 = .ok (.iconst 1, 1) := by decide +kernel
theorem d_Mo_reached_136 : decode b_Mo_reached 136 = .ok (.goto 4, 3) := by decide +kernel
theorem d_Mo_reached_139 : decode b_Mo_reached 139 = .ok (.iconst 0, 1) := by decide +kernel
theorem d_Mo_reached_140 : decode b_Mo_reached 140 = .ok (.istore 5, 2) := by decide +kernel
theorem d_Mo_reached_142 : decode b_Mo_reached 142 = .ok (.aload_n 0, 1) := by decide +kernel
theorem d_Mo_reached_143 : decode b_Mo_reached 143 = .ok (.bipush 7, 2) := by decide +kernel
theorem d_Mo_reached_145 : decode b_Mo_reached 145 = .ok (.iload_n 3, 1) := by decide +kernel
theorem d_Mo_reached_146 : decode b_Mo_reached 146 = .ok (.iload 5, 2) := by decide +kernel
theorem d_Mo_reached_148 : decode b_Mo_reached 148 = .ok (.ifCond .ne 7, 3) := by decide +kernel
theorem d_Mo_reached_151 : decode b_Mo_reached 151 = .ok (.iconst 1, 1) := by decide +kernel
theorem d_Mo_reached_152 : decode b_Mo_reached 152 = .ok (.goto 4, 3) := by decide +kernel
theorem d_Mo_reached_155 : decode b_Mo_reached 155 = .ok (.iconst 0, 1) := by decide +kernel
theorem d_Mo_reached_156 : decode b_Mo_reached 156 = .ok (.invokevirtual 161, 3) := by decide +kernel
theorem d_Mo_reached_159 : decode b_Mo_reached 159 = .ok (.iinc 3 1, 3) := by decide +kernel
theorem d_Mo_reached_162 : decode b_Mo_reached 162 = .ok (.goto (-113), 3) := by decide +kernel
theorem d_Mo_reached_165 : decode b_Mo_reached 165 = .ok (.return_, 1) := by decide +kernel
theorem d_Mo_check_0 : decode b_Mo_check 0 = .ok (.aload_n 0, 1) := by decide +kernel
theorem d_Mo_check_1 : decode b_Mo_check 1 = .ok (.iconst 0, 1) := by decide +kernel
theorem d_Mo_check_2 : decode b_Mo_check 2 = .ok (.putfield 51, 3) := by decide +kernel
theorem d_Mo_check_5 : decode b_Mo_check 5 = .ok (.aload_n 0, 1) := by decide +kernel
theorem d_Mo_check_6 : decode b_Mo_check 6 = .ok (.iconst 0, 1) := by decide +kernel
theorem d_Mo_check_7 : decode b_Mo_check 7 = .ok (.putfield 145, 3) := by decide +kernel
theorem d_Mo_check_10 : decode b_Mo_check 10 = .ok (.iconst 1, 1) := by decide +kernel
theorem d_Mo_check_11 : decode b_Mo_check 11 = .ok (.istore_n 1, 1) := by decide +kernel
theorem d_Mo_check_12 : decode b_Mo_check 12 = .ok (.iload_n 1, 1) := by decide +kernel
theorem d_Mo_check_13 : decode b_Mo_check 13 = .ok (.bipush 31, 2) := by decide +kernel
theorem d_Mo_check_15 : decode b_Mo_check 15 = .ok (.if_icmp .ge 20, 3) := by decide +kernel
theorem d_Mo_check_18 : decode b_Mo_check 18 = .ok (.aload_n 0, 1) := by decide +kernel
theorem d_Mo_check_19 : decode b_Mo_check 19 = .ok (.iconst 1, 1) := by decide +kernel
theorem d_Mo_check_20 : decode b_Mo_check 20 = .ok (.iload_n 1, 1) := by decide +kernel
theorem d_Mo_check_21 : decode b_Mo_check 21 = .ok (.aload_n 0, 1) := by decide +kernel
theorem d_Mo_check_22 : decode b_Mo_check 22 = .ok (.iload_n 1, 1) := by decide +kernel
theorem d_Mo_check_23 : decode b_Mo_check 23 = .ok (.invokevirtual 165, 3) := by decide +kernel
theorem d_Mo_check_26 : decode b_Mo_check 26 = .ok (.invokevirtual 161, 3) := by decide +kernel
theorem d_Mo_check_29 : decode b_Mo_check 29 = .ok (.iinc 1 1, 3) := by decide +kernel
theorem d_Mo_check_32 : decode b_Mo_check 32 = .ok (.goto (-20), 3) := by decide +kernel
theorem d_Mo_check_35 : decode b_Mo_check 35 = .ok (.iconst 1, 1) := by decide +kernel
theorem d_Mo_check_36 : decode b_Mo_check 36 = .ok (.istore_n 1, 1) := by decide +kernel
theorem d_Mo_check_37 : decode b_Mo_check 37 = .ok (.iload_n 1, 1) := by decide +kernel
theorem d_Mo_check_38 : decode b_Mo_check 38 = .ok (.bipush 31, 2) := by decide +kernel
theorem d_Mo_check_40 : decode b_Mo_check 40 = .ok (.if_icmp .ge 23, 3) := by decide +kernel
theorem d_Mo_check_43 : decode b_Mo_check 43 = .ok (.aload_n 0, 1) := by decide +kernel
theorem d_Mo_check_44 : decode b_Mo_check 44 = .ok (.iconst 2, 1) := by decide +kernel
theorem d_Mo_check_45 : decode b_Mo_check 45 = .ok (.iload_n 1, 1) := by decide +kernel
theorem d_Mo_check_46 : decode b_Mo_check 46 = .ok (.aload_n 0, 1) := by decide +kernel
theorem d_Mo_check_47 : decode b_Mo_check 47 = .ok (.bipush 31, 2) := by decide +kernel
theorem d_Mo_check_49 : decode b_Mo_check 49 = .ok (.iload_n 1, 1) := by decide +kernel
theorem d_Mo_check_50 : decode b_Mo_check 50 = .ok (.iadd, 1) := by decide +kernel
theorem d_Mo_check_51 : decode b_Mo_check 51 = .ok (.invokevirtual 165, 3) := by decide +kernel
theorem d_Mo_check_54 : decode b_Mo_check 54 = .ok (.invokevirtual 161, 3) := by decide +kernel
theorem d_Mo_check_57 : decode b_Mo_check 57 = .ok (.iinc 1 1, 3) := by decide +kernel
theorem d_Mo_check_60 : decode b_Mo_check 60 = .ok (.goto (-23), 3) := by decide +kernel
theorem d_Mo_check_63 : decode b_Mo_check 63 = .ok (.iconst 1, 1) := by decide +kernel
theorem d_Mo_check_64 : decode b_Mo_check 64 = .ok (.istore_n 1, 1) := by decide +kernel
theorem d_Mo_check_65 : decode b_Mo_check 65 = .ok (.iload_n 1, 1) := by decide +kernel
theorem d_Mo_check_66 : decode b_Mo_check 66 = .ok (.bipush 61, 2) := by decide +kernel
theorem d_Mo_check_68 : decode b_Mo_check 68 = .ok (.if_icmp .ge 36, 3) := by decide +kernel
theorem d_Mo_check_71 : decode b_Mo_check 71 = .ok (.aload_n 0, 1) := by decide +kernel
theorem d_Mo_check_72 : decode b_Mo_check 72 = .ok (.iconst 3, 1) := by decide +kernel
theorem d_Mo_check_73 : decode b_Mo_check 73 = .ok (.iload_n 1, 1) := by decide +kernel
theorem d_Mo_check_74 : decode b_Mo_check 74 = .ok (.aload_n 0, 1) := by decide +kernel
theorem d_Mo_check_75 : decode b_Mo_check 75 = .ok (.iload_n 1, 1) := by decide +kernel
theorem d_Mo_check_76 : decode b_Mo_check 76 = .ok (.invokevirtual 129, 3) := by decide +kernel
theorem d_Mo_check_79 : decode b_Mo_check 79 = .ok (.ifCond .eq 15, 3) := by decide +kernel
theorem d_Mo_check_82 : decode b_Mo_check 82 = .ok (.aload_n 0, 1) := by decide +kernel
theorem d_Mo_check_83 : decode b_Mo_check 83 = .ok (.iload_n 1, 1) := by decide +kernel
theorem d_Mo_check_84 : decode b_Mo_check 84 = .ok (.invokevirtual 168, 3) := by decide +kernel
theorem d_Mo_check_87 : decode b_Mo_check 87 = .ok (.ifCond .eq 7, 3) := by decide +kernel
theorem d_Mo_check_90 : decode b_Mo_check 90 = .ok (.iconst 1, 1) := by decide +kernel
theorem d_Mo_check_91 : decode b_Mo_check 91 = .ok (.goto 4, 3) := by decide +kernel
theorem d_Mo_check_94 : decode b_Mo_check 94 = .ok (.iconst 0, 1) := by decide +kernel
theorem d_Mo_check_95 : decode b_Mo_check 95 = .ok (.invokevirtual 161, 3) := by decide +kernel
theorem d_Mo_check_98 : decode b_Mo_check 98 = .ok (.iinc 1 1, 3) := by decide +kernel
theorem d_Mo_check_101 : decode b_Mo_check 101 = .ok (.goto (-36), 3) := by decide +kernel
theorem d_Mo_check_104 : decode b_Mo_check 104 = .ok (.iconst 1, 1) := by decide +kernel
theorem d_Mo_check_105 : decode b_Mo_check 105 = .ok (.istore_n 1, 1) := by decide +kernel
theorem d_Mo_check_106 : decode b_Mo_check 106 = .ok (.iload_n 1, 1) := by decide +kernel
theorem d_Mo_check_107 : decode b_Mo_check 107 = .ok (.bipush 41, 2) := by decide +kernel
theorem d_Mo_check_109 : decode b_Mo_check 109 = .ok (.if_icmp .ge 86, 3) := by decide +kernel
theorem d_Mo_check_112 : decode b_Mo_check 112 = .ok (.iconst 0, 1) := by decide +kernel
theorem d_Mo_check_113 : decode b_Mo_check 113 = .ok (.istore_n 2, 1) := by decide +kernel
theorem d_Mo_check_114 : decode b_Mo_check 114 = .ok (.iload_n 2, 1) := by decide +kernel
theorem d_Mo_check_115 : decode b_Mo_check 115 = .ok (.aload_n 0, 1) := by decide +kernel
theorem d_Mo_check_116 : decode b_Mo_check 116 = .ok (.getfield 111, 3) := by decide +kernel
theorem d_Mo_check_119 : decode b_Mo_check 119 = .ok (.if_icmp .ge 70, 3) := by decide +kernel
theorem d_Mo_check_122 : decode b_Mo_check 122 = .ok (.aload_n 0, 1) := by decide +kernel
theorem d_Mo_check_123 : decode b_Mo_check 123 = .ok (.iconst 4, 1) := by decide +kernel
theorem d_Mo_check_124 : decode b_Mo_check 124 = .ok (.iload_n 1, 1) := by decide +kernel
theorem d_Mo_check_125 : decode b_Mo_check 125 = .ok (.aload_n 0, 1) := by decide +kernel
theorem d_Mo_check_126 : decode b_Mo_check 126 = .ok (.getfield 26, 3) := by decide +kernel
theorem d_Mo_check_129 : decode b_Mo_check 129 = .ok (.iconst 3, 1) := by decide +kernel
theorem d_Mo_check_130 : decode b_Mo_check 130 = .ok (.iload_n 2, 1) := by decide +kernel
theorem d_Mo_check_131 : decode b_Mo_check 131 = .ok (.imul, 1) := by decide +kernel
theorem d_Mo_check_132 : decode b_Mo_check 132 = .ok (.iconst 1, 1) := by decide +kernel
theorem d_Mo_check_133 : decode b_Mo_check 133 = .ok (.iadd, 1) := by decide +kernel
theorem d_Mo_check_134 : decode b_Mo_check 134 = .ok (.iaload, 1) := by decide +kernel
theorem d_Mo_check_135 : decode b_Mo_check 135 = .ok (.iload_n 1, 1) := by decide +kernel
theorem d_Mo_check_136 : decode b_Mo_check 136 = .ok (.if_icmp .ne 43, 3) := by decide +kernel
theorem d_Mo_check_139 : decode b_Mo_check 139 = .ok (.aload_n 0, 1) := by decide +kernel
theorem d_Mo_check_140 : decode b_Mo_check 140 = .ok (.aload_n 0, 1) := by decide +kernel
theorem d_Mo_check_141 : decode b_Mo_check 141 = .ok (.getfield 26, 3) := by decide +kernel
theorem d_Mo_check_144 : decode b_Mo_check 144 = .ok (.iconst 3, 1) := by decide +kernel
theorem d_Mo_check_145 : decode b_Mo_check 145 = .ok (.iload_n 2, 1) := by decide +kernel
theorem d_Mo_check_146 : decode b_Mo_check 146 = .ok (.imul, 1) := by decide +kernel
theorem d_Mo_check_147 : decode b_Mo_check 147 = .ok (.iaload, 1) := by decide +kernel
theorem d_Mo_check_148 : decode b_Mo_check 148 = .ok (.iload_n 1, 1) := by decide +kernel
theorem d_Mo_check_149 : decode b_Mo_check 149 = .ok (.iconst 0, 1) := by decide +kernel
theorem d_Mo_check_150 : decode b_Mo_check 150 = .ok (.invokevirtual 148, 3) := by decide +kernel
theorem d_Mo_check_153 : decode b_Mo_check 153 = .ok (.ifCond .eq 22, 3) := by decide +kernel
theorem d_Mo_check_156 : decode b_Mo_check 156 = .ok (.aload_n 0, 1) := by decide +kernel
theorem d_Mo_check_157 : decode b_Mo_check 157 = .ok (.iload_n 1, 1) := by decide +kernel
theorem d_Mo_check_158 : decode b_Mo_check 158 = .ok (.aload_n 0, 1) := by decide +kernel
theorem d_Mo_check_159 : decode b_Mo_check 159 = .ok (.getfield 26, 3) := by decide +kernel
theorem d_Mo_check_162 : decode b_Mo_check 162 = .ok (.iconst 3, 1) := by decide +kernel
theorem d_Mo_check_163 : decode b_Mo_check 163 = .ok (.iload_n 2, 1) := by decide +kernel
theorem d_Mo_check_164 : decode b_Mo_check 164 = .ok (.imul, 1) := by decide +kernel
theorem d_Mo_check_165 : decode b_Mo_check 165 = .ok (.iconst 2, 1) := by decide +kernel
theorem d_Mo_check_166 : decode b_Mo_check 166 = .ok (.iadd, 1) := by decide +kernel
theorem d_Mo_check_167 : decode b_Mo_check 167 = .ok (.iaload, 1) := by decide +kernel
theorem d_Mo_check_168 : decode b_Mo_check 168 = .ok (.iconst 0, 1) := by decide +kernel
theorem d_Mo_check_169 : decode b_Mo_check 169 = .ok (.invokevirtual 148, 3) := by decide +kernel
theorem d_Mo_check_172 : decode b_Mo_check 172 = .ok (.ifCond .ne 7, 3) := by decide +kernel
theorem d_Mo_check_175 : decode b_Mo_check 175 = .ok (.iconst 1, 1) := by decide +kernel
theorem d_Mo_check_176 : decode b_Mo_check 176 = .ok (.goto 4, 3) := by decide +kernel
theorem d_Mo_check_179 : decode b_Mo_check 179 = .ok (.iconst 0, 1) := by decide +kernel
theorem d_Mo_check_180 : decode b_Mo_check 180 = .ok (.invokevirtual 161, 3) := by decide +kernel
theorem d_Mo_check_183 : decode b_Mo_check 183 = .ok (.iinc 2 1, 3) := by decide +kernel
theorem d_Mo_check_186 : decode b_Mo_check 186 = .ok (.goto (-72), 3) := by decide +kernel
theorem d_Mo_check_189 : decode b_Mo_check 189 = .ok (.iinc 1 1, 3) := by decide +kernel
theorem d_Mo_check_192 : decode b_Mo_check 192 = .ok (.goto (-86), 3) := by decide +kernel
theorem d_Mo_check_195 : decode b_Mo_check 195 = .ok (.iconst 1, 1) := by decide +kernel
theorem d_Mo_check_196 : decode b_Mo_check 196 = .ok (.istore_n 1, 1) := by decide +kernel
theorem d_Mo_check_197 : decode b_Mo_check 197 = .ok (.iload_n 1, 1) := by decide +kernel
theorem d_Mo_check_198 : decode b_Mo_check 198 = .ok (.bipush 41, 2) := by decide +kernel
theorem d_Mo_check_200 : decode b_Mo_check 200 = .ok (.if_icmp .ge 20, 3) := by decide +kernel
theorem d_Mo_check_203 : decode b_Mo_check 203 = .ok (.aload_n 0, 1) := by decide +kernel
theorem d_Mo_check_204 : decode b_Mo_check 204 = .ok (.iconst 5, 1) := by decide +kernel
theorem d_Mo_check_205 : decode b_Mo_check 205 = .ok (.iload_n 1, 1) := by decide +kernel
theorem d_Mo_check_206 : decode b_Mo_check 206 = .ok (.aload_n 0, 1) := by decide +kernel
theorem d_Mo_check_207 : decode b_Mo_check 207 = .ok (.iload_n 1, 1) := by decide +kernel
theorem d_Mo_check_208 : decode b_Mo_check 208 = .ok (.invokevirtual 171, 3) := by decide +kernel
theorem d_Mo_check_211 : decode b_Mo_check 211 = .ok (.invokevirtual 161, 3) := by decide +kernel
theorem d_Mo_check_214 : decode b_Mo_check 214 = .ok (.iinc 1 1, 3) := by decide +kernel
theorem d_Mo_check_217 : decode b_Mo_check 217 = .ok (.goto (-20), 3) := by decide +kernel
theorem d_Mo_check_220 : decode b_Mo_check 220 = .ok (.iconst 1, 1) := by decide +kernel
theorem d_Mo_check_221 : decode b_Mo_check 221 = .ok (.istore_n 1, 1) := by decide +kernel
theorem d_Mo_check_222 : decode b_Mo_check 222 = .ok (.iload_n 1, 1) := by decide +kernel
theorem d_Mo_check_223 : decode b_Mo_check 223 = .ok (.bipush 41, 2) := by decide +kernel
theorem d_Mo_check_225 : decode b_Mo_check 225 = .ok (.if_icmp .ge 41, 3) := by decide +kernel
theorem d_Mo_check_228 : decode b_Mo_check 228 = .ok (.aload_n 0, 1) := by decide +kernel
theorem d_Mo_check_229 : decode b_Mo_check 229 = .ok (.bipush 6, 2) := by decide +kernel
theorem d_Mo_check_231 : decode b_Mo_check 231 = .ok (.iload_n 1, 1) := by decide +kernel
theorem d_Mo_check_232 : decode b_Mo_check 232 = .ok (.aload_n 0, 1) := by decide +kernel
theorem d_Mo_check_233 : decode b_Mo_check 233 = .ok (.iconst 0, 1) := by decide +kernel
theorem d_Mo_check_234 : decode b_Mo_check 234 = .ok (.iload_n 1, 1) := by decide +kernel
theorem d_Mo_check_235 : decode b_Mo_check 235 = .ok (.iconst 0, 1) := by decide +kernel
theorem d_Mo_check_236 : decode b_Mo_check 236 = .ok (.invokevirtual 148, 3) := by decide +kernel
theorem d_Mo_check_239 : decode b_Mo_check 239 = .ok (.ifCond .eq 17, 3) := by decide +kernel
theorem d_Mo_check_242 : decode b_Mo_check 242 = .ok (.aload_n 0, 1) := by decide +kernel
theorem d_Mo_check_243 : decode b_Mo_check 243 = .ok (.iload_n 1, 1) := by decide +kernel
theorem d_Mo_check_244 : decode b_Mo_check 244 = .ok (.iconst 0, 1) := by decide +kernel
theorem d_Mo_check_245 : decode b_Mo_check 245 = .ok (.iconst 0, 1) := by decide +kernel
theorem d_Mo_check_246 : decode b_Mo_check 246 = .ok (.invokevirtual 148, 3) := by decide +kernel
theorem d_Mo_check_249 : decode b_Mo_check 249 = .ok (.ifCond .ne 7, 3) := by decide +kernel
theorem d_Mo_check_252 : decode b_Mo_check 252 = .ok (.iconst 1, 1) := by decide +kernel
theorem d_Mo_check_253 : decode b_Mo_check 253 = .ok (.goto 4, 3) := by decide +kernel
theorem d_Mo_check_256 : decode b_Mo_check 256 = .ok (.iconst 0, 1) := by decide +kernel
theorem d_Mo_check_257 : decode b_Mo_check 257 = .ok (.invokevirtual 161, 3) := by decide +kernel
theorem d_Mo_check_260 : decode b_Mo_check 260 = .ok (.iinc 1 1, 3) := by decide +kernel
theorem d_Mo_check_263 : decode b_Mo_check 263 = .ok (.goto (-41), 3) := by decide +kernel
theorem d_Mo_check_266 : decode b_Mo_check 266 = .ok (.aload_n 0, 1) := by decide +kernel
theorem d_Mo_check_267 : decode b_Mo_check 267 = .ok (.invokevirtual 174, 3) := by decide +kernel
theorem d_Mo_check_270 : decode b_Mo_check 270 = .ok (.aload_n 0, 1) := by decide +kernel
theorem d_Mo_check_271 : decode b_Mo_check 271 = .ok (.getfield 145, 3) := by decide +kernel
theorem d_Mo_check_274 : decode b_Mo_check 274 = .ok (.ireturn, 1) := by decide +kernel
theorem d_Mo_count_0 : decode b_Mo_count 0 = .ok (.aload_n 0, 1) := by decide +kernel
theorem d_Mo_count_1 : decode b_Mo_count 1 = .ok (.iload_n 1, 1) := by decide +kernel
theorem d_Mo_count_2 : decode b_Mo_count 2 = .ok (.iconst 0, 1) := by decide +kernel
theorem d_Mo_count_3 : decode b_Mo_count 3 = .ok (.iconst 4, 1) := by decide +kernel
theorem d_Mo_count_4 : decode b_Mo_count 4 = .ok (.invokestatic 54, 3) := by decide +kernel
theorem d_Mo_count_7 : decode b_Mo_count 7 = .ok (.iconst 1, 1) := by decide +kernel
theorem d_Mo_count_8 : decode b_Mo_count 8 = .ok (.invokevirtual 132, 3) := by decide +kernel
theorem d_Mo_count_11 : decode b_Mo_count 11 = .ok (.ifCond .ne 5, 3) := by decide +kernel
theorem d_Mo_count_14 : decode b_Mo_count 14 = .ok (.iconst 0, 1) := by decide +kernel
theorem d_Mo_count_15 : decode b_Mo_count 15 = .ok (.ireturn, 1) := by decide +kernel
theorem d_Mo_count_16 : decode b_Mo_count 16 = .ok (.iconst 0, 1) := by decide +kernel
theorem d_Mo_count_17 : decode b_Mo_count 17 = .ok (.istore_n 2, 1) := by decide +kernel
theorem d_Mo_count_18 : decode b_Mo_count 18 = .ok (.iconst 1, 1) := by decide +kernel
theorem d_Mo_count_19 : decode b_Mo_count 19 = .ok (.istore_n 3, 1) := by decide +kernel
theorem d_Mo_count_20 : decode b_Mo_count 20 = .ok (.iload_n 3, 1) := by decide +kernel
theorem d_Mo_count_21 : decode b_Mo_count 21 = .ok (.bipush 62, 2) := by decide +kernel
theorem d_Mo_count_23 : decode b_Mo_count 23 = .ok (.if_icmp .ge 43, 3) := by decide +kernel
theorem d_Mo_count_26 : decode b_Mo_count 26 = .ok (.aload_n 0, 1) := by decide +kernel
theorem d_Mo_count_27 : decode b_Mo_count 27 = .ok (.getfield 20, 3) := by decide +kernel
theorem d_Mo_count_30 : decode b_Mo_count 30 = .ok (.iload_n 3, 1) := by decide +kernel
theorem d_Mo_count_31 : decode b_Mo_count 31 = .ok (.iaload, 1) := by decide +kernel
theorem d_Mo_count_32 : decode b_Mo_count 32 = .ok (.ifCond .le 28, 3) := by decide +kernel
theorem d_Mo_count_35 : decode b_Mo_count 35 = .ok (.iload_n 1, 1) := by decide +kernel
theorem d_Mo_count_36 : decode b_Mo_count 36 = .ok (.iconst 1, 1) := by decide +kernel
theorem d_Mo_count_37 : decode b_Mo_count 37 = .ok (.if_icmp .ne 9, 3) := by decide +kernel
theorem d_Mo_count_40 : decode b_Mo_count 40 = .ok (.iload_n 3, 1) := by decide +kernel
theorem d_Mo_count_41 : decode b_Mo_count 41 = .ok (.bipush 31, 2) := by decide +kernel
theorem d_Mo_count_43 : decode b_Mo_count 43 = .ok (.if_icmp .lt 14, 3) := by decide +kernel
theorem d_Mo_count_46 : decode b_Mo_count 46 = .ok (.iload_n 1, 1) := by decide +kernel
theorem d_Mo_count_47 : decode b_Mo_count 47 = .ok (.iconst 2, 1) := by decide +kernel
theorem d_Mo_count_48 : decode b_Mo_count 48 = .ok (.if_icmp .ne 12, 3) := by decide +kernel
theorem d_Mo_count_51 : decode b_Mo_count 51 = .ok (.iload_n 3, 1) := by decide +kernel
theorem d_Mo_count_52 : decode b_Mo_count 52 = .ok (.bipush 31, 2) := by decide +kernel
theorem d_Mo_count_54 : decode b_Mo_count 54 = .ok (.if_icmp .le 6, 3) := by decide +kernel
theorem d_Mo_count_57 : decode b_Mo_count 57 = .ok (.iinc 2 1, 3) := by decide +kernel
theorem d_Mo_count_60 : decode b_Mo_count 60 = .ok (.iinc 3 1, 3) := by decide +kernel
theorem d_Mo_count_63 : decode b_Mo_count 63 = .ok (.goto (-43), 3) := by decide +kernel
theorem d_Mo_count_66 : decode b_Mo_count 66 = .ok (.iconst 1, 1) := by decide +kernel
theorem d_Mo_count_67 : decode b_Mo_count 67 = .ok (.istore_n 3, 1) := by decide +kernel
theorem d_Mo_count_68 : decode b_Mo_count 68 = .ok (.iload_n 3, 1) := by decide +kernel
theorem d_Mo_count_69 : decode b_Mo_count 69 = .ok (.bipush 41, 2) := by decide +kernel
theorem d_Mo_count_71 : decode b_Mo_count 71 = .ok (.if_icmp .ge 37, 3) := by decide +kernel
theorem d_Mo_count_74 : decode b_Mo_count 74 = .ok (.iload_n 1, 1) := by decide +kernel
theorem d_Mo_count_75 : decode b_Mo_count 75 = .ok (.iconst 4, 1) := by decide +kernel
theorem d_Mo_count_76 : decode b_Mo_count 76 = .ok (.if_icmp .ne 26, 3) := by decide +kernel
theorem d_Mo_count_79 : decode b_Mo_count 79 = .ok (.aload_n 0, 1) := by decide +kernel
theorem d_Mo_count_80 : decode b_Mo_count 80 = .ok (.iload_n 3, 1) := by decide +kernel
theorem d_Mo_count_81 : decode b_Mo_count 81 = .ok (.iconst 0, 1) := by decide +kernel
theorem d_Mo_count_82 : decode b_Mo_count 82 = .ok (.iconst 0, 1) := by decide +kernel
theorem d_Mo_count_83 : decode b_Mo_count 83 = .ok (.invokevirtual 148, 3) := by decide +kernel
theorem d_Mo_count_86 : decode b_Mo_count 86 = .ok (.ifCond .ne 13, 3) := by decide +kernel
theorem d_Mo_count_89 : decode b_Mo_count 89 = .ok (.aload_n 0, 1) := by decide +kernel
theorem d_Mo_count_90 : decode b_Mo_count 90 = .ok (.iconst 0, 1) := by decide +kernel
theorem d_Mo_count_91 : decode b_Mo_count 91 = .ok (.iload_n 3, 1) := by decide +kernel
theorem d_Mo_count_92 : decode b_Mo_count 92 = .ok (.iconst 0, 1) := by decide +kernel
theorem d_Mo_count_93 : decode b_Mo_count 93 = .ok (.invokevirtual 148, 3) := by decide +kernel
theorem d_Mo_count_96 : decode b_Mo_count 96 = .ok (.ifCond .eq 6, 3) := by decide +kernel
theorem d_Mo_count_99 : decode b_Mo_count 99 = .ok (.iinc 2 1, 3) := by decide +kernel
theorem d_Mo_count_102 : decode b_Mo_count 102 = .ok (.iinc 3 1, 3) := by decide +kernel
theorem d_Mo_count_105 : decode b_Mo_count 105 = .ok (.goto (-37), 3) := by decide +kernel
theorem d_Mo_count_108 : decode b_Mo_count 108 = .ok (.iload_n 1, 1) := by decide +kernel
theorem d_Mo_count_109 : decode b_Mo_count 109 = .ok (.ifCond .ne 10, 3) := by decide +kernel
theorem d_Mo_count_112 : decode b_Mo_count 112 = .ok (.aload_n 0, 1) := by decide +kernel
theorem d_Mo_count_113 : decode b_Mo_count 113 = .ok (.invokevirtual 126, 3) := by decide +kernel
theorem d_Mo_count_116 : decode b_Mo_count 116 = .ok (.goto 16, 3) := by decide +kernel
theorem d_Mo_count_119 : decode b_Mo_count 119 = .ok (.iload_n 1, 1) := by decide +kernel
theorem d_Mo_count_120 : decode b_Mo_count 120 = .ok (.iconst 3, 1) := by decide +kernel
theorem d_Mo_count_121 : decode b_Mo_count 121 = .ok (.if_icmp .ne 10, 3) := by decide +kernel
theorem d_Mo_count_124 : decode b_Mo_count 124 = .ok (.aload_n 0, 1) := by decide +kernel
theorem d_Mo_count_125 : decode b_Mo_count 125 = .ok (.getfield 111, 3) := by decide +kernel
theorem d_Mo_count_128 : decode b_Mo_count 128 = .ok (.goto 4, 3) := by decide +kernel
theorem d_Mo_count_131 : decode b_Mo_count 131 = .ok (.iload_n 2, 1) := by decide +kernel
theorem d_Mo_count_132 : decode b_Mo_count 132 = .ok (.ireturn, 1) := by decide +kernel

set_option maxHeartbeats 4000000 in
set_option maxRecDepth 100000 in
/-- tells, nothing to tell -/
theorem c_Mo_tells0 (l : Launch) (G : Gx) (lo : Nat) (V : Vw) (sz : Nat) (m : Nat) (u0 u1 u2 u3 u4 u5 u6 u7 u8 u9 u10 u11 u12 u13 u14 u15 u16 u17 u18 u19 u20 : Value) (hn : [m].Nodup) (a b : Int32) : Met l y_Mo_tells ws_Mo_tells ({ frames := 0, cells := 0, slots := 0, locals := 0 } : Room) (vPre G lo [.ref m, .int a, .int b, .int 0] (vU V [(m, eO 8 [u0, u1, u2, u3, u4, u5, u6, u7, u8, u9, u10, u11, u12, u13, u14, u15, u16, u17, u18, u19, u20])]) sz) (vPost G lo (fun r V' k => r = none ∧ V' = vU V [(m, eO 8 [u0, u1, u2, u3, u4, u5, u6, u7, u8, u9, u10, u11, u12, u13, u14, u15, u16, u17, u18, u19, u20])] ∧ k = sz)) 0 0 (vL lo) := by
  refine vMet (R := RMo) (by decide) rfl (Nat.le_of_ble_eq_true rfl) ?_
  intro pg ev s mi args below meth cd hx hb hr hml hlk hnm hts hown hK hz hV ls hl
  have hl : lv_has ls 4 [(0, .ref m), (1, .int a), (2, .int b), (3, .int 0)] := hl
  have hV0 := hV
  obtain ⟨H, hH⟩ : ∃ H, H = s.heap := ⟨_, rfl⟩
  obtain ⟨locs, hlocs⟩ : ∃ locs : List Loc, locs = [] := ⟨_, rfl⟩
  rw [← hH, ← hlocs]
  rw [← hH] at hz
  replace hV : vS G.1 cls lo s H locs (vU V [(m, eO 8 [u0, u1, u2, u3, u4, u5, u6, u7, u8, u9, u10, u11, u12, u13, u14, u15, u16, u17, u18, u19, u20])]) := by rw [hH, hlocs]; exact hV
  clear hH hlocs hV0
  refine lv_iload_n hx hb d_Mo_tells_0 rfl (lv_at hl 3 rfl) ?_
  refine lv_if_ne (tgt := 5) hx hb d_Mo_tells_1 (by decide) (fun c_1 => absurd c_1 (by decide)) (fun _ => ?_)
  exact W.vret hx hb hr (v_end hV ⟨rfl, rfl, hz⟩) hV.2.1.2.2 d_Mo_tells_4

set_option maxHeartbeats 4000000 in
set_option maxRecDepth 100000 in
/-- tells -/
theorem c_Mo_tells (l : Launch) (G : Gx) (lo : Nat) (V : Vw) (sz : Nat) (m ka na : Nat) (u0 u1 u2 u3 u4 u5 u6 u7 u8 u9 u10 u11 u12 u13 u14 u18 u19 u20 : Value) (fk fn : Nat → Int32) (F : List Two) (hn : [m, ka, na].Nodup) (hO : ckOk fk fn F) (hF : F.length < 300) (a b : Nat) : Met l y_Mo_tells ws_Mo_tells ({ frames := 0, cells := 0, slots := 0, locals := 0 } : Room) (vPre G lo [.ref m, .int (nI a), .int (nI b), .int 1] (vU V [(m, eO 8 [u0, u1, u2, u3, u4, u5, u6, u7, u8, u9, u10, u11, u12, u13, u14, .int (nI F.length), .ref ka, .ref na, u18, u19, u20]), (ka, eI (gI G) 300 fk), (na, eI (gI G) 300 fn)]) sz) (vPost G lo (fun r V' k => r = none ∧ (∃ f1 f2 : Nat → Int32, V' = vU V [(m, eO 8 [u0, u1, u2, u3, u4, u5, u6, u7, u8, u9, u10, u11, u12, u13, u14, .int (nI ((F ++ [(a, b)]).length)), .ref ka, .ref na, u18, u19, u20]), (ka, eI (gI G) 300 f1), (na, eI (gI G) 300 f2)] ∧ ckOk f1 f2 (F ++ [(a, b)])) ∧ k = sz)) 0 0 (vL lo) := by
  refine vMet (R := RMo) (by decide) rfl (Nat.le_of_ble_eq_true rfl) ?_
  intro pg ev s mi args below meth cd hx hb hr hml hlk hnm hts hown hK hz hV ls hl
  have hl : lv_has ls 4 [(0, .ref m), (1, .int (nI a)), (2, .int (nI b)), (3, .int 1)] := hl
  have hV0 := hV
  obtain ⟨H, hH⟩ : ∃ H, H = s.heap := ⟨_, rfl⟩
  obtain ⟨locs, hlocs⟩ : ∃ locs : List Loc, locs = [] := ⟨_, rfl⟩
  rw [← hH, ← hlocs]
  rw [← hH] at hz
  replace hV : vS G.1 cls lo s H locs (vU V [(m, eO 8 [u0, u1, u2, u3, u4, u5, u6, u7, u8, u9, u10, u11, u12, u13, u14, .int (nI F.length), .ref ka, .ref na, u18, u19, u20]), (ka, eI (gI G) 300 fk), (na, eI (gI G) 300 fn)]) := by rw [hH, hlocs]; exact hV
  clear hH hlocs hV0
  refine lv_iload_n hx hb d_Mo_tells_0 rfl (lv_at hl 3 rfl) ?_
  refine lv_if_ne (tgt := 5) hx hb d_Mo_tells_1 (by decide) (fun _ => ?_) (fun c_1 => absurd c_1 (by decide))
  refine lv_aload_n hx hb d_Mo_tells_5 rfl (lv_at hl 0 rfl) ?_
  refine u_get hx hb hts inMo hown hK hV hn 0 rfl rfl 16 (by decide) w_fl_Mo_38 rfl rfl d_Mo_tells_6 ?_
  refine lv_aload_n hx hb d_Mo_tells_9 rfl (lv_at hl 0 rfl) ?_
  refine u_get hx hb hts inMo hown hK hV hn 0 rfl rfl 15 (by decide) w_fl_Mo_145 rfl rfl d_Mo_tells_10 ?_
  refine lv_iload_n hx hb d_Mo_tells_13 rfl (lv_at hl 1 rfl) ?_
  refine u_iastN hx hb hK hV hn 1 rfl (by omega) (by decide) d_Mo_tells_14 (fun H locs hV hz9 => ?_)
  have hV : vS G.1 cls lo s H locs (vU V [(m, eO 8 [u0, u1, u2, u3, u4, u5, u6, u7, u8, u9, u10, u11, u12, u13, u14, .int (nI F.length), .ref ka, .ref na, u18, u19, u20]), (ka, eI (gI G) 300 (upd fk F.length (nI a))), (na, eI (gI G) 300 fn)]) := hV
  replace hz := hz9.trans hz
  refine lv_aload_n hx hb d_Mo_tells_15 rfl (lv_at hl 0 rfl) ?_
  refine u_get hx hb hts inMo hown hK hV hn 0 rfl rfl 17 (by decide) w_fl_Mo_41 rfl rfl d_Mo_tells_16 ?_
  refine lv_aload_n hx hb d_Mo_tells_19 rfl (lv_at hl 0 rfl) ?_
  refine u_get hx hb hts inMo hown hK hV hn 0 rfl rfl 15 (by decide) w_fl_Mo_145 rfl rfl d_Mo_tells_20 ?_
  refine lv_iload_n hx hb d_Mo_tells_23 rfl (lv_at hl 2 rfl) ?_
  refine u_iastN hx hb hK hV hn 2 rfl (by omega) (by decide) d_Mo_tells_24 (fun H locs hV hz9 => ?_)
  have hV : vS G.1 cls lo s H locs (vU V [(m, eO 8 [u0, u1, u2, u3, u4, u5, u6, u7, u8, u9, u10, u11, u12, u13, u14, .int (nI F.length), .ref ka, .ref na, u18, u19, u20]), (ka, eI (gI G) 300 (upd fk F.length (nI a))), (na, eI (gI G) 300 (upd fn F.length (nI b)))]) := hV
  replace hz := hz9.trans hz
  refine lv_aload_n hx hb d_Mo_tells_25 rfl (lv_at hl 0 rfl) ?_
  refine lv_dup hx hb d_Mo_tells_26 rfl ?_
  refine u_get hx hb hts inMo hown hK hV hn 0 rfl rfl 15 (by decide) w_fl_Mo_145 rfl rfl d_Mo_tells_27 ?_
  refine lv_iconst (v := 1) hx hb d_Mo_tells_30 (by decide) ?_
  refine e_iadd (v := nI (F.length + 1)) hx hb d_Mo_tells_31 (nI_add F.length 1) ?_
  refine u_put hx hb hts inMo tyMo tyMo_ok nmMo hown hK hV hn 0 rfl rfl 15 (by decide) w_fl_Mo_145 rfl rfl rfl rfl (Nat.le_of_ble_eq_true rfl) d_Mo_tells_32 (fun H locs hV hz9 => ?_)
  have hV : vS G.1 cls lo s H locs (vU V [(m, eO 8 [u0, u1, u2, u3, u4, u5, u6, u7, u8, u9, u10, u11, u12, u13, u14, .int (nI (F.length + 1)), .ref ka, .ref na, u18, u19, u20]), (ka, eI (gI G) 300 (upd fk F.length (nI a))), (na, eI (gI G) 300 (upd fn F.length (nI b)))]) := hV
  replace hz := hz9.trans hz
  exact W.vret hx hb hr (v_end hV ⟨rfl, ⟨_, _, by rw [List.length_append]; rfl, ckOk_add hO a b⟩, hz⟩) hV.2.1.2.2 d_Mo_tells_35

set_option maxHeartbeats 4000000 in
set_option maxRecDepth 100000 in
/-- stands -/
theorem c_Mo_stands (l : Launch) (G : Gx) (lo : Nat) (V : Vw) (sz : Nat) (m sa pa : Nat) (u0 u1 u2 u3 u6 u7 u8 u9 u10 u11 u12 u13 u14 u15 u16 u17 u18 u19 u20 : Value) (sp P : Nat → Int32) (Q : Nat → Option PcR) (hn : [m, sa, pa].Nodup) (hM : mpA P Q) (i : Nat) (hi : i < 62) (w9 : Int32) (o : Option (Nat × Nat)) (ho : spO (sp i) w9 o) : Met l y_Mo_stands ws_Mo_stands ({ frames := 2, cells := 0, slots := 0, locals := 50 } : Room) (vPre G lo [.ref m, .int (nI i)] (vU V [(m, eO 8 [u0, u1, u2, u3, .ref pa, .ref sa, u6, u7, u8, u9, u10, u11, u12, u13, u14, u15, u16, u17, u18, u19, u20]), (sa, eI (gI G) 62 sp), (pa, eI (gI G) 1769 P)]) sz) (vPost G lo (fun r V' k => r = some (.int (b2i (stO Q o).isSome)) ∧ V' = vU V [(m, eO 8 [u0, u1, u2, u3, .ref pa, .ref sa, u6, u7, u8, u9, u10, u11, u12, u13, u14, u15, u16, u17, u18, u19, u20]), (sa, eI (gI G) 62 sp), (pa, eI (gI G) 1769 P)] ∧ k = sz)) 0 0 (vL lo) := by
  refine vMet (R := RMo) (by decide) rfl (Nat.le_of_ble_eq_true rfl) ?_
  intro pg ev s mi args below meth cd hx hb hr hml hlk hnm hts hown hK hz hV ls hl
  have hl : lv_has ls 2 [(0, .ref m), (1, .int (nI i))] := hl
  have hV0 := hV
  obtain ⟨H, hH⟩ : ∃ H, H = s.heap := ⟨_, rfl⟩
  obtain ⟨locs, hlocs⟩ : ∃ locs : List Loc, locs = [] := ⟨_, rfl⟩
  rw [← hH, ← hlocs]
  rw [← hH] at hz
  replace hV : vS G.1 cls lo s H locs (vU V [(m, eO 8 [u0, u1, u2, u3, .ref pa, .ref sa, u6, u7, u8, u9, u10, u11, u12, u13, u14, u15, u16, u17, u18, u19, u20]), (sa, eI (gI G) 62 sp), (pa, eI (gI G) 1769 P)]) := by rw [hH, hlocs]; exact hV
  clear hH hlocs hV0
  rcases ho with ⟨h0, ho9⟩ | ⟨x9, y9, h0, h01, ho9, hx1, hx2, hy2⟩
  · have hE : (stO Q o).isSome = false := by rw [ho9]; rfl
    refine lv_aload_n hx hb d_Mo_stands_0 rfl (lv_at hl 0 rfl) ?_
    refine u_get hx hb hts inMo hown hK hV hn 0 rfl rfl 5 (by decide) w_fl_Mo_20 rfl rfl d_Mo_stands_1 ?_
    refine lv_iload_n hx hb d_Mo_stands_4 rfl (lv_at hl 1 rfl) ?_
    refine u_ialdN hx hb hK hV hn 1 rfl (by omega) (by decide) d_Mo_stands_5 ?_
    rw [h0]
    refine lv_if_le (tgt := 26) hx hb d_Mo_stands_6 (by decide) (fun _ => ?_) (fun c_1 => absurd c_1 (by decide))
    refine lv_iconst (v := 0) hx hb d_Mo_stands_26 (by decide) ?_
    exact W.zret (v := 0) hx hb hr (by decide) (v_end hV ⟨by rw [hE]; rfl, rfl, hz⟩) hV.2.1.2.2 d_Mo_stands_27
  · refine lv_aload_n hx hb d_Mo_stands_0 rfl (lv_at hl 0 rfl) ?_
    refine u_get hx hb hts inMo hown hK hV hn 0 rfl rfl 5 (by decide) w_fl_Mo_20 rfl rfl d_Mo_stands_1 ?_
    refine lv_iload_n hx hb d_Mo_stands_4 rfl (lv_at hl 1 rfl) ?_
    refine u_ialdN hx hb hK hV hn 1 rfl (by omega) (by decide) d_Mo_stands_5 ?_
    rw [h0]
    refine lv_if_le (tgt := 26) hx hb d_Mo_stands_6 (by decide) (fun c_2 => absurd c_2 (fun z => absurd ((nI_leI (a := x9) (b := 0) (by omega) (by decide)).mp z) (by omega))) (fun c_2 => ?_)
    replace c_2 : ¬ x9 ≤ 0 := fun z9 => c_2 ((nI_leI (a := x9) (b := 0) (by omega) (by omega)).mpr z9)
    refine lv_aload_n hx hb d_Mo_stands_9 rfl (lv_at hl 0 rfl) ?_
    refine lv_aload_n hx hb d_Mo_stands_10 rfl (lv_at hl 0 rfl) ?_
    refine u_get hx hb hts inMo hown hK hV hn 0 rfl rfl 5 (by decide) w_fl_Mo_20 rfl rfl d_Mo_stands_11 ?_
    refine lv_iload_n hx hb d_Mo_stands_14 rfl (lv_at hl 1 rfl) ?_
    refine u_ialdN hx hb hK hV hn 1 rfl (by omega) (by decide) d_Mo_stands_15 ?_
    rw [h0]
    refine v_call (va_runV (As := [.int (nI x9)]) (rest := []) ⟨hx, hb, hml, hown, hts⟩ (c_Mo_isPiece l G lo _ _ m pa u0 u1 u2 u3 (.ref sa) u6 u7 u8 u9 u10 u11 u12 u13 u14 u15 u16 u17 u18 u19 u20 P Q (nd_sub hn [0, 2] (by decide) rfl) hM (nI x9)) (kwV 1 hts w_co_Mo_isPiece rfl rfl w_it_Mo w_ml_Mo_129 w_im_Mo_isPiece w_se_Mo__Mo_isPiece (by decide +kernel) ⟨(Nat.le_of_ble_eq_true rfl), (Nat.le_of_ble_eq_true rfl)⟩) (u_preV hK hV hn [0, 2] rfl hz 0 rfl rfl) rfl rfl hl.1 rfl (lv_room (Nat.le_of_ble_eq_true rfl)) d_Mo_stands_16 ⟨(Nat.le_of_ble_eq_true rfl), (Nat.le_of_ble_eq_true rfl)⟩) hV (fun r9 V9 H locs hp hV hle => ?_)
    obtain ⟨rfl, rfl, hz⟩ := hp
    replace hV := uu_same hV hn [0, 2] rfl
    rcases tf ((qF Q (nI x9)).isSome) with d_3 | d_3
    · obtain ⟨R, hQ, hR, hRv⟩ := mpA_s hM (j := x9) (by omega) (by omega) d_3
      obtain ⟨r0, r1, r2, r3, r4, r5, r6, r7, rh, r17, r18, r19, r20, rl⟩ := hR
      have hE : (stO Q o).isSome = true := by rw [ho9]; simp only [stO, hQ]; rfl
      have hV : vS G.1 cls lo s H locs (vU V [(m, eO 8 [u0, u1, u2, u3, .ref pa, .ref sa, u6, u7, u8, u9, u10, u11, u12, u13, u14, u15, u16, u17, u18, u19, u20]), (sa, eI (gI G) 62 sp), (pa, eI (gI G) 1769 P)]) := hV
      refine W.eq (g2 := F0 mi 19 ls [.int 1]) (by rw [d_3]; rfl) ?_
      refine lv_if_eq (tgt := 26) hx hb d_Mo_stands_19 (by decide) (fun c_4 => absurd c_4 (by decide)) (fun _ => ?_)
      refine lv_iconst (v := 1) hx hb d_Mo_stands_22 (by decide) ?_
      refine lv_goto (tgt := 27) hx hb d_Mo_stands_23 (by decide) ?_
      exact W.zret (v := 1) hx hb hr (by decide) (v_end hV ⟨by rw [hE]; rfl, rfl, hz⟩) hV.2.1.2.2 d_Mo_stands_27
    · have hQ := mpA_n (Q := Q) (j := x9) (by omega) (by omega) d_3
      have hE : (stO Q o).isSome = false := by rw [ho9]; simp only [stO, hQ]; rfl
      have hV : vS G.1 cls lo s H locs (vU V [(m, eO 8 [u0, u1, u2, u3, .ref pa, .ref sa, u6, u7, u8, u9, u10, u11, u12, u13, u14, u15, u16, u17, u18, u19, u20]), (sa, eI (gI G) 62 sp), (pa, eI (gI G) 1769 P)]) := hV
      refine W.eq (g2 := F0 mi 19 ls [.int 0]) (by rw [d_3]; rfl) ?_
      refine lv_if_eq (tgt := 26) hx hb d_Mo_stands_19 (by decide) (fun _ => ?_) (fun c_5 => absurd c_5 (by decide))
      refine lv_iconst (v := 0) hx hb d_Mo_stands_26 (by decide) ?_
      exact W.zret (v := 0) hx hb hr (by decide) (v_end hV ⟨by rw [hE]; rfl, rfl, hz⟩) hV.2.1.2.2 d_Mo_stands_27

set_option maxHeartbeats 4000000 in
set_option maxRecDepth 100000 in
/-- isBad -/
theorem c_Mo_isBad (l : Launch) (G : Gx) (lo : Nat) (V : Vw) (sz : Nat) (m sa la pa : Nat) (u0 u1 u2 u3 u7 u8 u9 u10 u11 u12 u13 u14 u15 u16 u17 u18 u19 u20 : Value) (sp al P : Nat → Int32) (Q : Nat → Option PcR) (hn : [m, sa, la, pa].Nodup) (hM : mpA P Q) (i : Nat) (hi : i < 62) (o : Option (Nat × Nat)) (ho : spO (sp i) (al i) o) : Met l y_Mo_isBad ws_Mo_isBad ({ frames := 2, cells := 0, slots := 0, locals := 50 } : Room) (vPre G lo [.ref m, .int (nI i)] (vU V [(m, eO 8 [u0, u1, u2, u3, .ref pa, .ref sa, .ref la, u7, u8, u9, u10, u11, u12, u13, u14, u15, u16, u17, u18, u19, u20]), (sa, eI (gI G) 62 sp), (la, eI (gI G) 62 al), (pa, eI (gI G) 1769 P)]) sz) (vPost G lo (fun r V' k => r = some (.int (b2i (lostO Q o))) ∧ V' = vU V [(m, eO 8 [u0, u1, u2, u3, .ref pa, .ref sa, .ref la, u7, u8, u9, u10, u11, u12, u13, u14, u15, u16, u17, u18, u19, u20]), (sa, eI (gI G) 62 sp), (la, eI (gI G) 62 al), (pa, eI (gI G) 1769 P)] ∧ k = sz)) 0 0 (vL lo) := by
  refine vMet (R := RMo) (by decide) rfl (Nat.le_of_ble_eq_true rfl) ?_
  intro pg ev s mi args below meth cd hx hb hr hml hlk hnm hts hown hK hz hV ls hl
  have hl : lv_has ls 2 [(0, .ref m), (1, .int (nI i))] := hl
  have hV0 := hV
  obtain ⟨H, hH⟩ : ∃ H, H = s.heap := ⟨_, rfl⟩
  obtain ⟨locs, hlocs⟩ : ∃ locs : List Loc, locs = [] := ⟨_, rfl⟩
  rw [← hH, ← hlocs]
  rw [← hH] at hz
  replace hV : vS G.1 cls lo s H locs (vU V [(m, eO 8 [u0, u1, u2, u3, .ref pa, .ref sa, .ref la, u7, u8, u9, u10, u11, u12, u13, u14, u15, u16, u17, u18, u19, u20]), (sa, eI (gI G) 62 sp), (la, eI (gI G) 62 al), (pa, eI (gI G) 1769 P)]) := by rw [hH, hlocs]; exact hV
  clear hH hlocs hV0
  rcases ho with ⟨h0, ho9⟩ | ⟨x9, y9, h0, h01, ho9, hx1, hx2, hy2⟩
  · have hE : lostO Q o = false := by rw [ho9]; rfl
    refine lv_aload_n hx hb d_Mo_isBad_0 rfl (lv_at hl 0 rfl) ?_
    refine u_get hx hb hts inMo hown hK hV hn 0 rfl rfl 5 (by decide) w_fl_Mo_20 rfl rfl d_Mo_isBad_1 ?_
    refine lv_iload_n hx hb d_Mo_isBad_4 rfl (lv_at hl 1 rfl) ?_
    refine u_ialdN hx hb hK hV hn 1 rfl (by omega) (by decide) d_Mo_isBad_5 ?_
    rw [h0]
    refine lv_if_le (tgt := 51) hx hb d_Mo_isBad_6 (by decide) (fun _ => ?_) (fun c_1 => absurd c_1 (by decide))
    refine lv_iconst (v := 0) hx hb d_Mo_isBad_51 (by decide) ?_
    exact W.zret (v := 0) hx hb hr (by decide) (v_end hV ⟨by rw [hE]; rfl, rfl, hz⟩) hV.2.1.2.2 d_Mo_isBad_52
  · refine lv_aload_n hx hb d_Mo_isBad_0 rfl (lv_at hl 0 rfl) ?_
    refine u_get hx hb hts inMo hown hK hV hn 0 rfl rfl 5 (by decide) w_fl_Mo_20 rfl rfl d_Mo_isBad_1 ?_
    refine lv_iload_n hx hb d_Mo_isBad_4 rfl (lv_at hl 1 rfl) ?_
    refine u_ialdN hx hb hK hV hn 1 rfl (by omega) (by decide) d_Mo_isBad_5 ?_
    rw [h0]
    refine lv_if_le (tgt := 51) hx hb d_Mo_isBad_6 (by decide) (fun c_2 => absurd c_2 (fun z => absurd ((nI_leI (a := x9) (b := 0) (by omega) (by decide)).mp z) (by omega))) (fun c_2 => ?_)
    replace c_2 : ¬ x9 ≤ 0 := fun z9 => c_2 ((nI_leI (a := x9) (b := 0) (by omega) (by omega)).mpr z9)
    refine lv_aload_n hx hb d_Mo_isBad_9 rfl (lv_at hl 0 rfl) ?_
    refine lv_aload_n hx hb d_Mo_isBad_10 rfl (lv_at hl 0 rfl) ?_
    refine u_get hx hb hts inMo hown hK hV hn 0 rfl rfl 5 (by decide) w_fl_Mo_20 rfl rfl d_Mo_isBad_11 ?_
    refine lv_iload_n hx hb d_Mo_isBad_14 rfl (lv_at hl 1 rfl) ?_
    refine u_ialdN hx hb hK hV hn 1 rfl (by omega) (by decide) d_Mo_isBad_15 ?_
    rw [h0]
    refine v_call (va_runV (As := [.int (nI x9)]) (rest := []) ⟨hx, hb, hml, hown, hts⟩ (c_Mo_isPiece l G lo _ _ m pa u0 u1 u2 u3 (.ref sa) (.ref la) u7 u8 u9 u10 u11 u12 u13 u14 u15 u16 u17 u18 u19 u20 P Q (nd_sub hn [0, 3] (by decide) rfl) hM (nI x9)) (kwV 1 hts w_co_Mo_isPiece rfl rfl w_it_Mo w_ml_Mo_129 w_im_Mo_isPiece w_se_Mo__Mo_isPiece (by decide +kernel) ⟨(Nat.le_of_ble_eq_true rfl), (Nat.le_of_ble_eq_true rfl)⟩) (u_preV hK hV hn [0, 3] rfl hz 0 rfl rfl) rfl rfl hl.1 rfl (lv_room (Nat.le_of_ble_eq_true rfl)) d_Mo_isBad_16 ⟨(Nat.le_of_ble_eq_true rfl), (Nat.le_of_ble_eq_true rfl)⟩) hV (fun r9 V9 H locs hp hV hle => ?_)
    obtain ⟨rfl, rfl, hz⟩ := hp
    replace hV := uu_same hV hn [0, 3] rfl
    rcases tf ((qF Q (nI x9)).isSome) with d_3 | d_3
    · obtain ⟨R, hQ, hR, hRv⟩ := mpA_s hM (j := x9) (by omega) (by omega) d_3
      obtain ⟨r0, r1, r2, r3, r4, r5, r6, r7, rh, r17, r18, r19, r20, rl⟩ := hR
      obtain ⟨⟨z1, z2, z3_, z4⟩, ⟨z5, z6, z7, z8, z9⟩, -⟩ := id hRv
      have hV : vS G.1 cls lo s H locs (vU V [(m, eO 8 [u0, u1, u2, u3, .ref pa, .ref sa, .ref la, u7, u8, u9, u10, u11, u12, u13, u14, u15, u16, u17, u18, u19, u20]), (sa, eI (gI G) 62 sp), (la, eI (gI G) 62 al), (pa, eI (gI G) 1769 P)]) := hV
      refine W.eq (g2 := F0 mi 19 ls [.int 1]) (by rw [d_3]; rfl) ?_
      refine lv_if_eq (tgt := 47) hx hb d_Mo_isBad_19 (by decide) (fun c_4 => absurd c_4 (by decide)) (fun _ => ?_)
      refine lv_aload_n hx hb d_Mo_isBad_22 rfl (lv_at hl 0 rfl) ?_
      refine u_get hx hb hts inMo hown hK hV hn 0 rfl rfl 6 (by decide) w_fl_Mo_23 rfl rfl d_Mo_isBad_23 ?_
      refine lv_iload_n hx hb d_Mo_isBad_26 rfl (lv_at hl 1 rfl) ?_
      refine u_ialdN hx hb hK hV hn 2 rfl (by omega) (by decide) d_Mo_isBad_27 ?_
      rw [h01]
      refine lv_aload_n hx hb d_Mo_isBad_28 rfl (lv_at hl 0 rfl) ?_
      refine u_get hx hb hts inMo hown hK hV hn 0 rfl rfl 4 (by decide) w_fl_Mo_17 rfl rfl d_Mo_isBad_29 ?_
      refine lv_aload_n hx hb d_Mo_isBad_32 rfl (lv_at hl 0 rfl) ?_
      refine u_get hx hb hts inMo hown hK hV hn 0 rfl rfl 5 (by decide) w_fl_Mo_20 rfl rfl d_Mo_isBad_33 ?_
      refine lv_iload_n hx hb d_Mo_isBad_36 rfl (lv_at hl 1 rfl) ?_
      refine u_ialdN hx hb hK hV hn 1 rfl (by omega) (by decide) d_Mo_isBad_37 ?_
      rw [h0]
      refine lv_bipush (v := 29) hx hb d_Mo_isBad_38 (by decide) ?_
      refine e_imul (v := nI (29 * x9)) hx hb d_Mo_isBad_40 (by rw [Nat.mul_comm 29 x9]; exact nI_mul x9 29) ?_
      refine lv_iconst (v := 4) hx hb d_Mo_isBad_41 (by decide) ?_
      refine e_iadd (v := nI (29 * x9 + 4)) hx hb d_Mo_isBad_42 (nI_add (29 * x9) 4) ?_
      refine u_ialdN hx hb hK hV hn 3 rfl (by omega) (by decide) d_Mo_isBad_43 ?_
      rw [r4]
      refine lv_icmp_le (tgt := 51) hx hb d_Mo_isBad_44 (by decide) (fun c_5 => ?_) (fun c_5 => ?_)
      · replace c_5 : y9 ≤ R.2.1.1 := (nI_leI (a := y9) (b := R.2.1.1) (by omega) (by omega)).mp c_5
        have hE : lostO Q o = false := by rw [ho9]; simp only [lostO, hQ]; exact decide_eq_false (by omega)
        refine lv_iconst (v := 0) hx hb d_Mo_isBad_51 (by decide) ?_
        exact W.zret (v := 0) hx hb hr (by decide) (v_end hV ⟨by rw [hE]; rfl, rfl, hz⟩) hV.2.1.2.2 d_Mo_isBad_52
      · replace c_5 : ¬ y9 ≤ R.2.1.1 := fun z9 => c_5 ((nI_leI (a := y9) (b := R.2.1.1) (by omega) (by omega)).mpr z9)
        have hE : lostO Q o = true := by rw [ho9]; simp only [lostO, hQ]; exact decide_eq_true (by omega)
        refine lv_iconst (v := 1) hx hb d_Mo_isBad_47 (by decide) ?_
        refine lv_goto (tgt := 52) hx hb d_Mo_isBad_48 (by decide) ?_
        exact W.zret (v := 1) hx hb hr (by decide) (v_end hV ⟨by rw [hE]; rfl, rfl, hz⟩) hV.2.1.2.2 d_Mo_isBad_52
    · have hQ := mpA_n (Q := Q) (j := x9) (by omega) (by omega) d_3
      have hE : lostO Q o = true := by rw [ho9]; simp only [lostO, hQ]
      have hV : vS G.1 cls lo s H locs (vU V [(m, eO 8 [u0, u1, u2, u3, .ref pa, .ref sa, .ref la, u7, u8, u9, u10, u11, u12, u13, u14, u15, u16, u17, u18, u19, u20]), (sa, eI (gI G) 62 sp), (la, eI (gI G) 62 al), (pa, eI (gI G) 1769 P)]) := hV
      refine W.eq (g2 := F0 mi 19 ls [.int 0]) (by rw [d_3]; rfl) ?_
      refine lv_if_eq (tgt := 47) hx hb d_Mo_isBad_19 (by decide) (fun _ => ?_) (fun c_6 => absurd c_6 (by decide))
      refine lv_iconst (v := 1) hx hb d_Mo_isBad_47 (by decide) ?_
      refine lv_goto (tgt := 52) hx hb d_Mo_isBad_48 (by decide) ?_
      exact W.zret (v := 1) hx hb hr (by decide) (v_end hV ⟨by rw [hE]; rfl, rfl, hz⟩) hV.2.1.2.2 d_Mo_isBad_52

set_option maxHeartbeats 4000000 in
set_option maxRecDepth 100000 in
/-- isForWheels -/
theorem c_Mo_isForWheels (l : Launch) (G : Gx) (lo : Nat) (V : Vw) (sz : Nat) (m pa : Nat) (u0 u1 u2 u3 u5 u6 u7 u8 u9 u10 u11 u12 u13 u14 u15 u16 u17 u18 u19 u20 : Value) (P : Nat → Int32) (R : PcR) (hn : [m, pa].Nodup) (j : Nat) (hj2 : j ≤ 60) (hR : mpR P (29 * j) R) (hRv : pcV R) : Met l y_Mo_isForWheels ws_Mo_isForWheels ({ frames := 0, cells := 0, slots := 0, locals := 0 } : Room) (vPre G lo [.ref m, .int (nI j)] (vU V [(m, eO 8 [u0, u1, u2, u3, .ref pa, u5, u6, u7, u8, u9, u10, u11, u12, u13, u14, u15, u16, u17, u18, u19, u20]), (pa, eI (gI G) 1769 P)]) sz) (vPost G lo (fun r V' k => r = some (.int (b2i (whl R.2.1.2.1))) ∧ V' = vU V [(m, eO 8 [u0, u1, u2, u3, .ref pa, u5, u6, u7, u8, u9, u10, u11, u12, u13, u14, u15, u16, u17, u18, u19, u20]), (pa, eI (gI G) 1769 P)] ∧ k = sz)) 0 0 (vL lo) := by
  refine vMet (R := RMo) (by decide) rfl (Nat.le_of_ble_eq_true rfl) ?_
  intro pg ev s mi args below meth cd hx hb hr hml hlk hnm hts hown hK hz hV ls hl
  have hl : lv_has ls 2 [(0, .ref m), (1, .int (nI j))] := hl
  have hV0 := hV
  obtain ⟨H, hH⟩ : ∃ H, H = s.heap := ⟨_, rfl⟩
  obtain ⟨locs, hlocs⟩ : ∃ locs : List Loc, locs = [] := ⟨_, rfl⟩
  rw [← hH, ← hlocs]
  rw [← hH] at hz
  replace hV : vS G.1 cls lo s H locs (vU V [(m, eO 8 [u0, u1, u2, u3, .ref pa, u5, u6, u7, u8, u9, u10, u11, u12, u13, u14, u15, u16, u17, u18, u19, u20]), (pa, eI (gI G) 1769 P)]) := by rw [hH, hlocs]; exact hV
  clear hH hlocs hV0
  obtain ⟨r0, r1, r2, r3, r4, r5, r6, r7, rh, r17, r18, r19, r20, rl⟩ := hR
  obtain ⟨⟨z1, z2, z3_, z4⟩, ⟨z5, z6, z7, z8, z9⟩, -⟩ := id hRv
  refine lv_aload_n hx hb d_Mo_isForWheels_0 rfl (lv_at hl 0 rfl) ?_
  refine u_get hx hb hts inMo hown hK hV hn 0 rfl rfl 4 (by decide) w_fl_Mo_17 rfl rfl d_Mo_isForWheels_1 ?_
  refine lv_iload_n hx hb d_Mo_isForWheels_4 rfl (lv_at hl 1 rfl) ?_
  refine lv_bipush (v := 29) hx hb d_Mo_isForWheels_5 (by decide) ?_
  refine e_imul (v := nI (29 * j)) hx hb d_Mo_isForWheels_7 (by rw [Nat.mul_comm 29 j]; exact nI_mul j 29) ?_
  refine lv_iconst (v := 5) hx hb d_Mo_isForWheels_8 (by decide) ?_
  refine e_iadd (v := nI (29 * j + 5)) hx hb d_Mo_isForWheels_9 (nI_add (29 * j) 5) ?_
  refine u_ialdN hx hb hK hV hn 1 rfl (by omega) (by decide) d_Mo_isForWheels_10 ?_
  rw [r5]
  refine lv_iconst (v := 3) hx hb d_Mo_isForWheels_11 (by decide) ?_
  refine lv_icmp_ge (tgt := 19) hx hb d_Mo_isForWheels_12 (by decide) (fun c_1 => ?_) (fun c_1 => ?_)
  · replace c_1 : 3 ≤ R.2.1.2.1 := (nI_leI (a := 3) (b := R.2.1.2.1) (by omega) (by omega)).mp c_1
    have hE : whl R.2.1.2.1 = false := decide_eq_false (by omega)
    refine lv_iconst (v := 0) hx hb d_Mo_isForWheels_19 (by decide) ?_
    exact W.zret (v := 0) hx hb hr (by decide) (v_end hV ⟨by rw [hE]; rfl, rfl, hz⟩) hV.2.1.2.2 d_Mo_isForWheels_20
  · replace c_1 : ¬ 3 ≤ R.2.1.2.1 := fun z9 => c_1 ((nI_leI (a := 3) (b := R.2.1.2.1) (by omega) (by omega)).mpr z9)
    have hE : whl R.2.1.2.1 = true := decide_eq_true (by omega)
    refine lv_iconst (v := 1) hx hb d_Mo_isForWheels_15 (by decide) ?_
    refine lv_goto (tgt := 20) hx hb d_Mo_isForWheels_16 (by decide) ?_
    exact W.zret (v := 1) hx hb hr (by decide) (v_end hV ⟨by rw [hE]; rfl, rfl, hz⟩) hV.2.1.2.2 d_Mo_isForWheels_20

set_option maxHeartbeats 4000000 in
set_option maxRecDepth 100000 in
/-- goes -/
theorem c_Mo_goes (l : Launch) (G : Gx) (lo : Nat) (V : Vw) (sz : Nat) (m pa : Nat) (u0 u1 u2 u3 u5 u6 u7 u8 u9 u10 u11 u12 u13 u14 u15 u16 u17 u18 u19 u20 : Value) (P : Nat → Int32) (Q : Nat → Option PcR) (hn : [m, pa].Nodup) (hM : mpA P Q) (a b wl : Nat) (ha : a < 41) (hb1 : b < 41) (hw1 : wl < 2) : Met l y_Mo_goes ws_Mo_goes ({ frames := 2, cells := 0, slots := 0, locals := 50 } : Room) (vPre G lo [.ref m, .int (nI a), .int (nI b), .int (nI wl)] (vU V [(m, eO 8 [u0, u1, u2, u3, .ref pa, u5, u6, u7, u8, u9, u10, u11, u12, u13, u14, u15, u16, u17, u18, u19, u20]), (pa, eI (gI G) 1769 P)]) sz) (vPost G lo (fun r V' k => r = some (.int (b2i (goQ Q wl a b 60))) ∧ V' = vU V [(m, eO 8 [u0, u1, u2, u3, .ref pa, u5, u6, u7, u8, u9, u10, u11, u12, u13, u14, u15, u16, u17, u18, u19, u20]), (pa, eI (gI G) 1769 P)] ∧ k = sz)) 0 0 (vL lo) := by
  refine vMet (R := RMo) (by decide) rfl (Nat.le_of_ble_eq_true rfl) ?_
  intro pg ev s mi args below meth cd hx hb hr hml hlk hnm hts hown hK hz hV ls hl
  have hl : lv_has ls 8 [(0, .ref m), (1, .int (nI a)), (2, .int (nI b)), (3, .int (nI wl))] := hl
  have hV0 := hV
  obtain ⟨H, hH⟩ : ∃ H, H = s.heap := ⟨_, rfl⟩
  obtain ⟨locs, hlocs⟩ : ∃ locs : List Loc, locs = [] := ⟨_, rfl⟩
  rw [← hH, ← hlocs]
  rw [← hH] at hz
  replace hV : vS G.1 cls lo s H locs (vU V [(m, eO 8 [u0, u1, u2, u3, .ref pa, u5, u6, u7, u8, u9, u10, u11, u12, u13, u14, u15, u16, u17, u18, u19, u20]), (pa, eI (gI G) 1769 P)]) := by rw [hH, hlocs]; exact hV
  clear hH hlocs hV0
  refine lv_iconst (v := 1) hx hb d_Mo_goes_0 (by decide) ?_
  refine lv_istore (lv' := [(4, .int 1), (0, .ref m), (1, .int (nI a)), (2, .int (nI b)), (3, .int (nI wl))]) hx hb d_Mo_goes_1 hl (by decide) rfl (fun ls hl => ?_)
  have loop : ∀ (k : Nat) (i : Nat), 60 - i < k → (i ≤ 60) → (goQ Q wl a b i = false) → ∀ (H : Heap) (locs : List Loc) (ls : Array Slot), H.size = sz → vS G.1 cls lo s H locs (vU V [(m, eO 8 [u0, u1, u2, u3, .ref pa, u5, u6, u7, u8, u9, u10, u11, u12, u13, u14, u15, u16, u17, u18, u19, u20]), (pa, eI (gI G) 1769 P)]) → lv_has ls 8 [(0, .ref m), (1, .int (nI a)), (2, .int (nI b)), (3, .int (nI wl)), (4, .int (nI (i + 1)))] → W pg l ev ({ frames := 2, cells := 0, slots := 0, locals := 50 } : Room) s mi args below meth cd H locs 0 0 (MQ below (vPost G lo (fun r V' k => r = some (.int (b2i (goQ Q wl a b 60))) ∧ V' = vU V [(m, eO 8 [u0, u1, u2, u3, .ref pa, u5, u6, u7, u8, u9, u10, u11, u12, u13, u14, u15, u16, u17, u18, u19, u20]), (pa, eI (gI G) 1769 P)] ∧ k = sz)) args s 0 0 (vL lo)) (F0 mi 3 ls []) := by
    intro k
    induction k with
    | zero => intro i hk; exact absurd hk (by omega)
    | succ k ih =>
      intro i hk hi hno H locs ls hz hV hl
      refine lv_iload hx hb d_Mo_goes_3 (lv_at hl 4 rfl) ?_
      refine lv_bipush (v := 61) hx hb d_Mo_goes_5 (by decide) ?_
      refine lv_icmp_ge (tgt := 130) hx hb d_Mo_goes_7 (by decide) (fun c_1 => ?_) (fun c_1 => ?_)
      · replace c_1 : 61 ≤ i + 1 := (nI_leI (a := 61) (b := i + 1) (by omega) (by omega)).mp c_1
        refine lv_iconst (v := 0) hx hb d_Mo_goes_130 (by decide) ?_
        exact W.zret (v := 0) hx hb hr (by decide) (v_end hV ⟨by rw [show (60 : Nat) = i by omega, hno]; rfl, rfl, hz⟩) hV.2.1.2.2 d_Mo_goes_131
      · replace c_1 : ¬ 61 ≤ i + 1 := fun z9 => c_1 ((nI_leI (a := 61) (b := i + 1) (by omega) (by omega)).mpr z9)
        refine lv_iload hx hb d_Mo_goes_10 (lv_at hl 4 rfl) ?_
        refine lv_bipush (v := 29) hx hb d_Mo_goes_12 (by decide) ?_
        refine e_imul (v := nI (29 * (i + 1))) hx hb d_Mo_goes_14 (by rw [Nat.mul_comm 29 (i + 1)]; exact nI_mul (i + 1) 29) ?_
        refine lv_istore (lv' := [(5, .int (nI (29 * (i + 1)))), (0, .ref m), (1, .int (nI a)), (2, .int (nI b)), (3, .int (nI wl)), (4, .int (nI (i + 1)))]) hx hb d_Mo_goes_15 hl (by decide) rfl (fun ls hl => ?_)
        refine lv_aload_n hx hb d_Mo_goes_17 rfl (lv_at hl 1 rfl) ?_
        refine lv_iload hx hb d_Mo_goes_18 (lv_at hl 5 rfl) ?_
        refine v_call (va_runV (As := [.int (nI (i + 1))]) (rest := []) ⟨hx, hb, hml, hown, hts⟩ (c_Mo_isPiece l G lo _ _ m pa u0 u1 u2 u3 u5 u6 u7 u8 u9 u10 u11 u12 u13 u14 u15 u16 u17 u18 u19 u20 P Q hn hM (nI (i + 1))) (kwV 1 hts w_co_Mo_isPiece rfl rfl w_it_Mo w_ml_Mo_129 w_im_Mo_isPiece w_se_Mo__Mo_isPiece (by decide +kernel) ⟨(Nat.le_of_ble_eq_true rfl), (Nat.le_of_ble_eq_true rfl)⟩) (u_preV hK hV hn [0, 1] rfl hz 0 rfl rfl) rfl rfl hl.1 rfl (lv_room (Nat.le_of_ble_eq_true rfl)) d_Mo_goes_20 ⟨(Nat.le_of_ble_eq_true rfl), (Nat.le_of_ble_eq_true rfl)⟩) hV (fun r9 V9 H locs hp hV hle => ?_)
        obtain ⟨rfl, rfl, hz⟩ := hp
        replace hV := uu_same hV hn [0, 1] rfl
        rcases tf ((qF Q (nI (i + 1))).isSome) with d_2 | d_2
        · obtain ⟨R, hQ, hR, hRv⟩ := mpA_s hM (j := i + 1) (by omega) (by omega) d_2
          obtain ⟨r0, r1, r2, r3, r4, r5, r6, r7, rh, r17, r18, r19, r20, rl⟩ := hR
          obtain ⟨⟨z1, z2, z3_, z4⟩, ⟨z5, z6, z7, z8, z9⟩, -⟩ := id hRv
          have hV : vS G.1 cls lo s H locs (vU V [(m, eO 8 [u0, u1, u2, u3, .ref pa, u5, u6, u7, u8, u9, u10, u11, u12, u13, u14, u15, u16, u17, u18, u19, u20]), (pa, eI (gI G) 1769 P)]) := hV
          refine W.eq (g2 := F0 mi 23 ls [.int 1]) (by rw [d_2]; rfl) ?_
          refine lv_if_eq (tgt := 124) hx hb d_Mo_goes_23 (by decide) (fun c_3 => absurd c_3 (by decide)) (fun _ => ?_)
          refine lv_iload_n hx hb d_Mo_goes_26 rfl (lv_at hl 4 rfl) ?_
          refine lv_if_eq (tgt := 46) hx hb d_Mo_goes_27 (by decide) (fun c_4 => ?_) (fun c_4 => ?_)
          · replace c_4 : wl = 0 := (nI_eq (a := wl) (b := 0) (by omega) (by omega)).mp c_4
            have hw9 : (decide (wl = 0) || whl R.2.1.2.1) = true := by rw [decide_eq_true (show wl = 0 by omega)]; rfl
            refine lv_aload_n hx hb d_Mo_goes_46 rfl (lv_at hl 1 rfl) ?_
            refine u_get hx hb hts inMo hown hK hV hn 0 rfl rfl 4 (by decide) w_fl_Mo_17 rfl rfl d_Mo_goes_47 ?_
            refine lv_iload hx hb d_Mo_goes_50 (lv_at hl 0 rfl) ?_
            refine lv_iconst (v := 1) hx hb d_Mo_goes_52 (by decide) ?_
            refine e_iadd (v := nI (29 * (i + 1) + 1)) hx hb d_Mo_goes_53 (nI_add (29 * (i + 1)) 1) ?_
            refine u_ialdN hx hb hK hV hn 1 rfl (by omega) (by decide) d_Mo_goes_54 ?_
            rw [r1]
            refine lv_istore (lv' := [(6, .int (nI R.1.1)), (5, .int (nI (29 * (i + 1)))), (0, .ref m), (1, .int (nI a)), (2, .int (nI b)), (3, .int (nI wl)), (4, .int (nI (i + 1)))]) hx hb d_Mo_goes_55 hl (by decide) rfl (fun ls hl => ?_)
            refine lv_aload_n hx hb d_Mo_goes_57 rfl (lv_at hl 2 rfl) ?_
            refine u_get hx hb hts inMo hown hK hV hn 0 rfl rfl 4 (by decide) w_fl_Mo_17 rfl rfl d_Mo_goes_58 ?_
            refine lv_iload hx hb d_Mo_goes_61 (lv_at hl 1 rfl) ?_
            refine lv_iconst (v := 2) hx hb d_Mo_goes_63 (by decide) ?_
            refine e_iadd (v := nI (29 * (i + 1) + 2)) hx hb d_Mo_goes_64 (nI_add (29 * (i + 1)) 2) ?_
            refine u_ialdN hx hb hK hV hn 1 rfl (by omega) (by decide) d_Mo_goes_65 ?_
            rw [r2]
            refine lv_istore (lv' := [(7, .int (nI R.1.2.2)), (6, .int (nI R.1.1)), (5, .int (nI (29 * (i + 1)))), (0, .ref m), (1, .int (nI a)), (2, .int (nI b)), (3, .int (nI wl)), (4, .int (nI (i + 1)))]) hx hb d_Mo_goes_66 hl (by decide) rfl (fun ls hl => ?_)
            refine lv_iload_n hx hb d_Mo_goes_68 rfl (lv_at hl 4 rfl) ?_
            refine lv_if_eq (tgt := 78) hx hb d_Mo_goes_69 (by decide) (fun c_5 => ?_) (fun c_5 => ?_)
            · replace c_5 : a = 0 := (nI_eq (a := a) (b := 0) (by omega) (by omega)).mp c_5
              refine lv_iload_n hx hb d_Mo_goes_78 rfl (lv_at hl 5 rfl) ?_
              refine lv_if_eq (tgt := 88) hx hb d_Mo_goes_79 (by decide) (fun c_6 => ?_) (fun c_6 => ?_)
              · replace c_6 : b = 0 := (nI_eq (a := b) (b := 0) (by omega) (by omega)).mp c_6
                have hy9 : goQ Q wl a b (i + 1) = true := by rw [goQ_s hQ, hw9, show gmt R a b = true from decide_eq_true (Or.inl ⟨by omega, by omega⟩)]; simp
                refine lv_iconst (v := 1) hx hb d_Mo_goes_88 (by decide) ?_
                exact W.zret (v := 1) hx hb hr (by decide) (v_end hV ⟨by rw [goQ_mono hy9 60 (by omega)]; rfl, rfl, hz⟩) hV.2.1.2.2 d_Mo_goes_89
              · replace c_6 : ¬ b = 0 := fun z9 => c_6 ((nI_eq (a := b) (b := 0) (by omega) (by omega)).mpr z9)
                refine lv_iload hx hb d_Mo_goes_82 (lv_at hl 0 rfl) ?_
                refine lv_iload_n hx hb d_Mo_goes_84 rfl (lv_at hl 5 rfl) ?_
                refine lv_icmp_ne (tgt := 90) hx hb d_Mo_goes_85 (by decide) (fun c_7 => ?_) (fun c_7 => ?_)
                · replace c_7 : ¬ R.1.2.2 = b := fun z9 => c_7 ((nI_eq (a := R.1.2.2) (b := b) (by omega) (by omega)).mpr z9)
                  refine lv_aload_n hx hb d_Mo_goes_90 rfl (lv_at hl 3 rfl) ?_
                  refine u_get hx hb hts inMo hown hK hV hn 0 rfl rfl 4 (by decide) w_fl_Mo_17 rfl rfl d_Mo_goes_91 ?_
                  refine lv_iload hx hb d_Mo_goes_94 (lv_at hl 2 rfl) ?_
                  refine lv_iconst (v := 3) hx hb d_Mo_goes_96 (by decide) ?_
                  refine e_iadd (v := nI (29 * (i + 1) + 3)) hx hb d_Mo_goes_97 (nI_add (29 * (i + 1)) 3) ?_
                  refine u_ialdN hx hb hK hV hn 1 rfl (by omega) (by decide) d_Mo_goes_98 ?_
                  rw [r3]
                  refine lv_if_ne (tgt := 124) hx hb d_Mo_goes_99 (by decide) (fun c_8 => ?_) (fun c_8 => ?_)
                  · have hb9 := b2i_1 c_8
                    have hno2 : goQ Q wl a b (i + 1) = false := by rw [goQ_s hQ, hno, show gmt R a b = false from decide_eq_false (by rintro (z | ⟨z, -⟩) <;> first | omega | (rw [hb9] at z; cases z)), Bool.and_false]; rfl
                    refine lv_iinc (v := nI (i + 2)) (lv' := [(4, .int (nI (i + 2))), (7, .int (nI R.1.2.2)), (6, .int (nI R.1.1)), (5, .int (nI (29 * (i + 1)))), (0, .ref m), (1, .int (nI a)), (2, .int (nI b)), (3, .int (nI wl))]) hx hb d_Mo_goes_124 hl (k := 7) rfl (nI_add (i + 1) 1) (by decide) rfl (fun ls hl => ?_)
                    refine lv_goto (tgt := 3) hx hb d_Mo_goes_127 (by decide) ?_
                    exact ih (i + 1) (by omega) (by omega) hno2 H locs ls hz hV (lv_sub hl [4, 5, 6, 7, 0] rfl)
                  · have hb9 := b2i_0 c_8
                    refine lv_iload_n hx hb d_Mo_goes_102 rfl (lv_at hl 4 rfl) ?_
                    refine lv_if_eq (tgt := 112) hx hb d_Mo_goes_103 (by decide) (fun _ => ?_) (fun c_9 => absurd ((nI_eq (a := a) (b := 0) (by omega) (by omega)).mpr (by omega)) c_9)
                    refine lv_iload_n hx hb d_Mo_goes_112 rfl (lv_at hl 5 rfl) ?_
                    refine lv_if_eq (tgt := 122) hx hb d_Mo_goes_113 (by decide) (fun c_10 => absurd ((nI_eq (a := b) (b := 0) (by omega) (by omega)).mp c_10) (by omega)) (fun _ => ?_)
                    refine lv_iload hx hb d_Mo_goes_116 (lv_at hl 1 rfl) ?_
                    refine lv_iload_n hx hb d_Mo_goes_118 rfl (lv_at hl 5 rfl) ?_
                    refine lv_icmp_ne (tgt := 124) hx hb d_Mo_goes_119 (by decide) (fun c_11 => ?_) (fun c_11 => ?_)
                    · replace c_11 : ¬ R.1.1 = b := fun z9 => c_11 ((nI_eq (a := R.1.1) (b := b) (by omega) (by omega)).mpr z9)
                      have hno2 : goQ Q wl a b (i + 1) = false := by rw [goQ_s hQ, hno, show gmt R a b = false from decide_eq_false (by rintro (z | ⟨-, z⟩) <;> omega), Bool.and_false]; rfl
                      refine lv_iinc (v := nI (i + 2)) (lv' := [(4, .int (nI (i + 2))), (7, .int (nI R.1.2.2)), (6, .int (nI R.1.1)), (5, .int (nI (29 * (i + 1)))), (0, .ref m), (1, .int (nI a)), (2, .int (nI b)), (3, .int (nI wl))]) hx hb d_Mo_goes_124 hl (k := 7) rfl (nI_add (i + 1) 1) (by decide) rfl (fun ls hl => ?_)
                      refine lv_goto (tgt := 3) hx hb d_Mo_goes_127 (by decide) ?_
                      exact ih (i + 1) (by omega) (by omega) hno2 H locs ls hz hV (lv_sub hl [4, 5, 6, 7, 0] rfl)
                    · replace c_11 : R.1.1 = b := (nI_eq (a := R.1.1) (b := b) (by omega) (by omega)).mp c_11
                      have hy9 : goQ Q wl a b (i + 1) = true := by rw [goQ_s hQ, hw9, show gmt R a b = true from decide_eq_true (Or.inr ⟨hb9, by omega, by omega⟩)]; simp
                      refine lv_iconst (v := 1) hx hb d_Mo_goes_122 (by decide) ?_
                      exact W.zret (v := 1) hx hb hr (by decide) (v_end hV ⟨by rw [goQ_mono hy9 60 (by omega)]; rfl, rfl, hz⟩) hV.2.1.2.2 d_Mo_goes_123
                · replace c_7 : R.1.2.2 = b := (nI_eq (a := R.1.2.2) (b := b) (by omega) (by omega)).mp c_7
                  have hy9 : goQ Q wl a b (i + 1) = true := by rw [goQ_s hQ, hw9, show gmt R a b = true from decide_eq_true (Or.inl ⟨by omega, by omega⟩)]; simp
                  refine lv_iconst (v := 1) hx hb d_Mo_goes_88 (by decide) ?_
                  exact W.zret (v := 1) hx hb hr (by decide) (v_end hV ⟨by rw [goQ_mono hy9 60 (by omega)]; rfl, rfl, hz⟩) hV.2.1.2.2 d_Mo_goes_89
            · replace c_5 : ¬ a = 0 := fun z9 => c_5 ((nI_eq (a := a) (b := 0) (by omega) (by omega)).mpr z9)
              refine lv_iload hx hb d_Mo_goes_72 (lv_at hl 1 rfl) ?_
              refine lv_iload_n hx hb d_Mo_goes_74 rfl (lv_at hl 4 rfl) ?_
              refine lv_icmp_ne (tgt := 90) hx hb d_Mo_goes_75 (by decide) (fun c_12 => ?_) (fun c_12 => ?_)
              · replace c_12 : ¬ R.1.1 = a := fun z9 => c_12 ((nI_eq (a := R.1.1) (b := a) (by omega) (by omega)).mpr z9)
                refine lv_aload_n hx hb d_Mo_goes_90 rfl (lv_at hl 3 rfl) ?_
                refine u_get hx hb hts inMo hown hK hV hn 0 rfl rfl 4 (by decide) w_fl_Mo_17 rfl rfl d_Mo_goes_91 ?_
                refine lv_iload hx hb d_Mo_goes_94 (lv_at hl 2 rfl) ?_
                refine lv_iconst (v := 3) hx hb d_Mo_goes_96 (by decide) ?_
                refine e_iadd (v := nI (29 * (i + 1) + 3)) hx hb d_Mo_goes_97 (nI_add (29 * (i + 1)) 3) ?_
                refine u_ialdN hx hb hK hV hn 1 rfl (by omega) (by decide) d_Mo_goes_98 ?_
                rw [r3]
                refine lv_if_ne (tgt := 124) hx hb d_Mo_goes_99 (by decide) (fun c_13 => ?_) (fun c_13 => ?_)
                · have hb9 := b2i_1 c_13
                  have hno2 : goQ Q wl a b (i + 1) = false := by rw [goQ_s hQ, hno, show gmt R a b = false from decide_eq_false (by rintro (z | ⟨z, -⟩) <;> first | omega | (rw [hb9] at z; cases z)), Bool.and_false]; rfl
                  refine lv_iinc (v := nI (i + 2)) (lv' := [(4, .int (nI (i + 2))), (7, .int (nI R.1.2.2)), (6, .int (nI R.1.1)), (5, .int (nI (29 * (i + 1)))), (0, .ref m), (1, .int (nI a)), (2, .int (nI b)), (3, .int (nI wl))]) hx hb d_Mo_goes_124 hl (k := 7) rfl (nI_add (i + 1) 1) (by decide) rfl (fun ls hl => ?_)
                  refine lv_goto (tgt := 3) hx hb d_Mo_goes_127 (by decide) ?_
                  exact ih (i + 1) (by omega) (by omega) hno2 H locs ls hz hV (lv_sub hl [4, 5, 6, 7, 0] rfl)
                · have hb9 := b2i_0 c_13
                  refine lv_iload_n hx hb d_Mo_goes_102 rfl (lv_at hl 4 rfl) ?_
                  refine lv_if_eq (tgt := 112) hx hb d_Mo_goes_103 (by decide) (fun c_14 => absurd ((nI_eq (a := a) (b := 0) (by omega) (by omega)).mp c_14) (by omega)) (fun _ => ?_)
                  refine lv_iload hx hb d_Mo_goes_106 (lv_at hl 0 rfl) ?_
                  refine lv_iload_n hx hb d_Mo_goes_108 rfl (lv_at hl 4 rfl) ?_
                  refine lv_icmp_ne (tgt := 124) hx hb d_Mo_goes_109 (by decide) (fun c_15 => ?_) (fun c_15 => ?_)
                  · replace c_15 : ¬ R.1.2.2 = a := fun z9 => c_15 ((nI_eq (a := R.1.2.2) (b := a) (by omega) (by omega)).mpr z9)
                    have hno2 : goQ Q wl a b (i + 1) = false := by rw [goQ_s hQ, hno, show gmt R a b = false from decide_eq_false (by rintro (z | ⟨-, z⟩) <;> omega), Bool.and_false]; rfl
                    refine lv_iinc (v := nI (i + 2)) (lv' := [(4, .int (nI (i + 2))), (7, .int (nI R.1.2.2)), (6, .int (nI R.1.1)), (5, .int (nI (29 * (i + 1)))), (0, .ref m), (1, .int (nI a)), (2, .int (nI b)), (3, .int (nI wl))]) hx hb d_Mo_goes_124 hl (k := 7) rfl (nI_add (i + 1) 1) (by decide) rfl (fun ls hl => ?_)
                    refine lv_goto (tgt := 3) hx hb d_Mo_goes_127 (by decide) ?_
                    exact ih (i + 1) (by omega) (by omega) hno2 H locs ls hz hV (lv_sub hl [4, 5, 6, 7, 0] rfl)
                  · replace c_15 : R.1.2.2 = a := (nI_eq (a := R.1.2.2) (b := a) (by omega) (by omega)).mp c_15
                    refine lv_iload_n hx hb d_Mo_goes_112 rfl (lv_at hl 5 rfl) ?_
                    refine lv_if_eq (tgt := 122) hx hb d_Mo_goes_113 (by decide) (fun c_16 => ?_) (fun c_16 => ?_)
                    · replace c_16 : b = 0 := (nI_eq (a := b) (b := 0) (by omega) (by omega)).mp c_16
                      have hy9 : goQ Q wl a b (i + 1) = true := by rw [goQ_s hQ, hw9, show gmt R a b = true from decide_eq_true (Or.inr ⟨hb9, by omega, by omega⟩)]; simp
                      refine lv_iconst (v := 1) hx hb d_Mo_goes_122 (by decide) ?_
                      exact W.zret (v := 1) hx hb hr (by decide) (v_end hV ⟨by rw [goQ_mono hy9 60 (by omega)]; rfl, rfl, hz⟩) hV.2.1.2.2 d_Mo_goes_123
                    · replace c_16 : ¬ b = 0 := fun z9 => c_16 ((nI_eq (a := b) (b := 0) (by omega) (by omega)).mpr z9)
                      refine lv_iload hx hb d_Mo_goes_116 (lv_at hl 1 rfl) ?_
                      refine lv_iload_n hx hb d_Mo_goes_118 rfl (lv_at hl 5 rfl) ?_
                      refine lv_icmp_ne (tgt := 124) hx hb d_Mo_goes_119 (by decide) (fun c_17 => ?_) (fun c_17 => ?_)
                      · replace c_17 : ¬ R.1.1 = b := fun z9 => c_17 ((nI_eq (a := R.1.1) (b := b) (by omega) (by omega)).mpr z9)
                        have hno2 : goQ Q wl a b (i + 1) = false := by rw [goQ_s hQ, hno, show gmt R a b = false from decide_eq_false (by rintro (z | ⟨-, z⟩) <;> omega), Bool.and_false]; rfl
                        refine lv_iinc (v := nI (i + 2)) (lv' := [(4, .int (nI (i + 2))), (7, .int (nI R.1.2.2)), (6, .int (nI R.1.1)), (5, .int (nI (29 * (i + 1)))), (0, .ref m), (1, .int (nI a)), (2, .int (nI b)), (3, .int (nI wl))]) hx hb d_Mo_goes_124 hl (k := 7) rfl (nI_add (i + 1) 1) (by decide) rfl (fun ls hl => ?_)
                        refine lv_goto (tgt := 3) hx hb d_Mo_goes_127 (by decide) ?_
                        exact ih (i + 1) (by omega) (by omega) hno2 H locs ls hz hV (lv_sub hl [4, 5, 6, 7, 0] rfl)
                      · replace c_17 : R.1.1 = b := (nI_eq (a := R.1.1) (b := b) (by omega) (by omega)).mp c_17
                        have hy9 : goQ Q wl a b (i + 1) = true := by rw [goQ_s hQ, hw9, show gmt R a b = true from decide_eq_true (Or.inr ⟨hb9, by omega, by omega⟩)]; simp
                        refine lv_iconst (v := 1) hx hb d_Mo_goes_122 (by decide) ?_
                        exact W.zret (v := 1) hx hb hr (by decide) (v_end hV ⟨by rw [goQ_mono hy9 60 (by omega)]; rfl, rfl, hz⟩) hV.2.1.2.2 d_Mo_goes_123
              · replace c_12 : R.1.1 = a := (nI_eq (a := R.1.1) (b := a) (by omega) (by omega)).mp c_12
                refine lv_iload_n hx hb d_Mo_goes_78 rfl (lv_at hl 5 rfl) ?_
                refine lv_if_eq (tgt := 88) hx hb d_Mo_goes_79 (by decide) (fun c_18 => ?_) (fun c_18 => ?_)
                · replace c_18 : b = 0 := (nI_eq (a := b) (b := 0) (by omega) (by omega)).mp c_18
                  have hy9 : goQ Q wl a b (i + 1) = true := by rw [goQ_s hQ, hw9, show gmt R a b = true from decide_eq_true (Or.inl ⟨by omega, by omega⟩)]; simp
                  refine lv_iconst (v := 1) hx hb d_Mo_goes_88 (by decide) ?_
                  exact W.zret (v := 1) hx hb hr (by decide) (v_end hV ⟨by rw [goQ_mono hy9 60 (by omega)]; rfl, rfl, hz⟩) hV.2.1.2.2 d_Mo_goes_89
                · replace c_18 : ¬ b = 0 := fun z9 => c_18 ((nI_eq (a := b) (b := 0) (by omega) (by omega)).mpr z9)
                  refine lv_iload hx hb d_Mo_goes_82 (lv_at hl 0 rfl) ?_
                  refine lv_iload_n hx hb d_Mo_goes_84 rfl (lv_at hl 5 rfl) ?_
                  refine lv_icmp_ne (tgt := 90) hx hb d_Mo_goes_85 (by decide) (fun c_19 => ?_) (fun c_19 => ?_)
                  · replace c_19 : ¬ R.1.2.2 = b := fun z9 => c_19 ((nI_eq (a := R.1.2.2) (b := b) (by omega) (by omega)).mpr z9)
                    refine lv_aload_n hx hb d_Mo_goes_90 rfl (lv_at hl 3 rfl) ?_
                    refine u_get hx hb hts inMo hown hK hV hn 0 rfl rfl 4 (by decide) w_fl_Mo_17 rfl rfl d_Mo_goes_91 ?_
                    refine lv_iload hx hb d_Mo_goes_94 (lv_at hl 2 rfl) ?_
                    refine lv_iconst (v := 3) hx hb d_Mo_goes_96 (by decide) ?_
                    refine e_iadd (v := nI (29 * (i + 1) + 3)) hx hb d_Mo_goes_97 (nI_add (29 * (i + 1)) 3) ?_
                    refine u_ialdN hx hb hK hV hn 1 rfl (by omega) (by decide) d_Mo_goes_98 ?_
                    rw [r3]
                    refine lv_if_ne (tgt := 124) hx hb d_Mo_goes_99 (by decide) (fun c_20 => ?_) (fun c_20 => ?_)
                    · have hb9 := b2i_1 c_20
                      have hno2 : goQ Q wl a b (i + 1) = false := by rw [goQ_s hQ, hno, show gmt R a b = false from decide_eq_false (by rintro (z | ⟨z, -⟩) <;> first | omega | (rw [hb9] at z; cases z)), Bool.and_false]; rfl
                      refine lv_iinc (v := nI (i + 2)) (lv' := [(4, .int (nI (i + 2))), (7, .int (nI R.1.2.2)), (6, .int (nI R.1.1)), (5, .int (nI (29 * (i + 1)))), (0, .ref m), (1, .int (nI a)), (2, .int (nI b)), (3, .int (nI wl))]) hx hb d_Mo_goes_124 hl (k := 7) rfl (nI_add (i + 1) 1) (by decide) rfl (fun ls hl => ?_)
                      refine lv_goto (tgt := 3) hx hb d_Mo_goes_127 (by decide) ?_
                      exact ih (i + 1) (by omega) (by omega) hno2 H locs ls hz hV (lv_sub hl [4, 5, 6, 7, 0] rfl)
                    · have hb9 := b2i_0 c_20
                      refine lv_iload_n hx hb d_Mo_goes_102 rfl (lv_at hl 4 rfl) ?_
                      refine lv_if_eq (tgt := 112) hx hb d_Mo_goes_103 (by decide) (fun c_21 => absurd ((nI_eq (a := a) (b := 0) (by omega) (by omega)).mp c_21) (by omega)) (fun _ => ?_)
                      refine lv_iload hx hb d_Mo_goes_106 (lv_at hl 0 rfl) ?_
                      refine lv_iload_n hx hb d_Mo_goes_108 rfl (lv_at hl 4 rfl) ?_
                      refine lv_icmp_ne (tgt := 124) hx hb d_Mo_goes_109 (by decide) (fun c_22 => ?_) (fun c_22 => ?_)
                      · replace c_22 : ¬ R.1.2.2 = a := fun z9 => c_22 ((nI_eq (a := R.1.2.2) (b := a) (by omega) (by omega)).mpr z9)
                        have hno2 : goQ Q wl a b (i + 1) = false := by rw [goQ_s hQ, hno, show gmt R a b = false from decide_eq_false (by rintro (z | ⟨-, z⟩) <;> omega), Bool.and_false]; rfl
                        refine lv_iinc (v := nI (i + 2)) (lv' := [(4, .int (nI (i + 2))), (7, .int (nI R.1.2.2)), (6, .int (nI R.1.1)), (5, .int (nI (29 * (i + 1)))), (0, .ref m), (1, .int (nI a)), (2, .int (nI b)), (3, .int (nI wl))]) hx hb d_Mo_goes_124 hl (k := 7) rfl (nI_add (i + 1) 1) (by decide) rfl (fun ls hl => ?_)
                        refine lv_goto (tgt := 3) hx hb d_Mo_goes_127 (by decide) ?_
                        exact ih (i + 1) (by omega) (by omega) hno2 H locs ls hz hV (lv_sub hl [4, 5, 6, 7, 0] rfl)
                      · replace c_22 : R.1.2.2 = a := (nI_eq (a := R.1.2.2) (b := a) (by omega) (by omega)).mp c_22
                        refine lv_iload_n hx hb d_Mo_goes_112 rfl (lv_at hl 5 rfl) ?_
                        refine lv_if_eq (tgt := 122) hx hb d_Mo_goes_113 (by decide) (fun c_23 => absurd ((nI_eq (a := b) (b := 0) (by omega) (by omega)).mp c_23) (by omega)) (fun _ => ?_)
                        refine lv_iload hx hb d_Mo_goes_116 (lv_at hl 1 rfl) ?_
                        refine lv_iload_n hx hb d_Mo_goes_118 rfl (lv_at hl 5 rfl) ?_
                        refine lv_icmp_ne (tgt := 124) hx hb d_Mo_goes_119 (by decide) (fun c_24 => ?_) (fun c_24 => ?_)
                        · replace c_24 : ¬ R.1.1 = b := fun z9 => c_24 ((nI_eq (a := R.1.1) (b := b) (by omega) (by omega)).mpr z9)
                          have hno2 : goQ Q wl a b (i + 1) = false := by rw [goQ_s hQ, hno, show gmt R a b = false from decide_eq_false (by rintro (z | ⟨-, z⟩) <;> omega), Bool.and_false]; rfl
                          refine lv_iinc (v := nI (i + 2)) (lv' := [(4, .int (nI (i + 2))), (7, .int (nI R.1.2.2)), (6, .int (nI R.1.1)), (5, .int (nI (29 * (i + 1)))), (0, .ref m), (1, .int (nI a)), (2, .int (nI b)), (3, .int (nI wl))]) hx hb d_Mo_goes_124 hl (k := 7) rfl (nI_add (i + 1) 1) (by decide) rfl (fun ls hl => ?_)
                          refine lv_goto (tgt := 3) hx hb d_Mo_goes_127 (by decide) ?_
                          exact ih (i + 1) (by omega) (by omega) hno2 H locs ls hz hV (lv_sub hl [4, 5, 6, 7, 0] rfl)
                        · replace c_24 : R.1.1 = b := (nI_eq (a := R.1.1) (b := b) (by omega) (by omega)).mp c_24
                          have hy9 : goQ Q wl a b (i + 1) = true := by rw [goQ_s hQ, hw9, show gmt R a b = true from decide_eq_true (Or.inr ⟨hb9, by omega, by omega⟩)]; simp
                          refine lv_iconst (v := 1) hx hb d_Mo_goes_122 (by decide) ?_
                          exact W.zret (v := 1) hx hb hr (by decide) (v_end hV ⟨by rw [goQ_mono hy9 60 (by omega)]; rfl, rfl, hz⟩) hV.2.1.2.2 d_Mo_goes_123
                  · replace c_19 : R.1.2.2 = b := (nI_eq (a := R.1.2.2) (b := b) (by omega) (by omega)).mp c_19
                    have hy9 : goQ Q wl a b (i + 1) = true := by rw [goQ_s hQ, hw9, show gmt R a b = true from decide_eq_true (Or.inl ⟨by omega, by omega⟩)]; simp
                    refine lv_iconst (v := 1) hx hb d_Mo_goes_88 (by decide) ?_
                    exact W.zret (v := 1) hx hb hr (by decide) (v_end hV ⟨by rw [goQ_mono hy9 60 (by omega)]; rfl, rfl, hz⟩) hV.2.1.2.2 d_Mo_goes_89
          · replace c_4 : ¬ wl = 0 := fun z9 => c_4 ((nI_eq (a := wl) (b := 0) (by omega) (by omega)).mpr z9)
            refine lv_aload_n hx hb d_Mo_goes_30 rfl (lv_at hl 1 rfl) ?_
            refine u_get hx hb hts inMo hown hK hV hn 0 rfl rfl 4 (by decide) w_fl_Mo_17 rfl rfl d_Mo_goes_31 ?_
            refine lv_iload hx hb d_Mo_goes_34 (lv_at hl 0 rfl) ?_
            refine lv_iconst (v := 5) hx hb d_Mo_goes_36 (by decide) ?_
            refine e_iadd (v := nI (29 * (i + 1) + 5)) hx hb d_Mo_goes_37 (nI_add (29 * (i + 1)) 5) ?_
            refine u_ialdN hx hb hK hV hn 1 rfl (by omega) (by decide) d_Mo_goes_38 ?_
            rw [r5]
            refine lv_iconst (v := 2) hx hb d_Mo_goes_39 (by decide) ?_
            refine lv_icmp_le (tgt := 46) hx hb d_Mo_goes_40 (by decide) (fun c_25 => ?_) (fun c_25 => ?_)
            · replace c_25 : R.2.1.2.1 ≤ 2 := (nI_leI (a := R.2.1.2.1) (b := 2) (by omega) (by omega)).mp c_25
              have hw9 : (decide (wl = 0) || whl R.2.1.2.1) = true := by rw [show whl R.2.1.2.1 = true from decide_eq_true (by omega), Bool.or_true]
              refine lv_aload_n hx hb d_Mo_goes_46 rfl (lv_at hl 1 rfl) ?_
              refine u_get hx hb hts inMo hown hK hV hn 0 rfl rfl 4 (by decide) w_fl_Mo_17 rfl rfl d_Mo_goes_47 ?_
              refine lv_iload hx hb d_Mo_goes_50 (lv_at hl 0 rfl) ?_
              refine lv_iconst (v := 1) hx hb d_Mo_goes_52 (by decide) ?_
              refine e_iadd (v := nI (29 * (i + 1) + 1)) hx hb d_Mo_goes_53 (nI_add (29 * (i + 1)) 1) ?_
              refine u_ialdN hx hb hK hV hn 1 rfl (by omega) (by decide) d_Mo_goes_54 ?_
              rw [r1]
              refine lv_istore (lv' := [(6, .int (nI R.1.1)), (5, .int (nI (29 * (i + 1)))), (0, .ref m), (1, .int (nI a)), (2, .int (nI b)), (3, .int (nI wl)), (4, .int (nI (i + 1)))]) hx hb d_Mo_goes_55 hl (by decide) rfl (fun ls hl => ?_)
              refine lv_aload_n hx hb d_Mo_goes_57 rfl (lv_at hl 2 rfl) ?_
              refine u_get hx hb hts inMo hown hK hV hn 0 rfl rfl 4 (by decide) w_fl_Mo_17 rfl rfl d_Mo_goes_58 ?_
              refine lv_iload hx hb d_Mo_goes_61 (lv_at hl 1 rfl) ?_
              refine lv_iconst (v := 2) hx hb d_Mo_goes_63 (by decide) ?_
              refine e_iadd (v := nI (29 * (i + 1) + 2)) hx hb d_Mo_goes_64 (nI_add (29 * (i + 1)) 2) ?_
              refine u_ialdN hx hb hK hV hn 1 rfl (by omega) (by decide) d_Mo_goes_65 ?_
              rw [r2]
              refine lv_istore (lv' := [(7, .int (nI R.1.2.2)), (6, .int (nI R.1.1)), (5, .int (nI (29 * (i + 1)))), (0, .ref m), (1, .int (nI a)), (2, .int (nI b)), (3, .int (nI wl)), (4, .int (nI (i + 1)))]) hx hb d_Mo_goes_66 hl (by decide) rfl (fun ls hl => ?_)
              refine lv_iload_n hx hb d_Mo_goes_68 rfl (lv_at hl 4 rfl) ?_
              refine lv_if_eq (tgt := 78) hx hb d_Mo_goes_69 (by decide) (fun c_26 => ?_) (fun c_26 => ?_)
              · replace c_26 : a = 0 := (nI_eq (a := a) (b := 0) (by omega) (by omega)).mp c_26
                refine lv_iload_n hx hb d_Mo_goes_78 rfl (lv_at hl 5 rfl) ?_
                refine lv_if_eq (tgt := 88) hx hb d_Mo_goes_79 (by decide) (fun c_27 => ?_) (fun c_27 => ?_)
                · replace c_27 : b = 0 := (nI_eq (a := b) (b := 0) (by omega) (by omega)).mp c_27
                  have hy9 : goQ Q wl a b (i + 1) = true := by rw [goQ_s hQ, hw9, show gmt R a b = true from decide_eq_true (Or.inl ⟨by omega, by omega⟩)]; simp
                  refine lv_iconst (v := 1) hx hb d_Mo_goes_88 (by decide) ?_
                  exact W.zret (v := 1) hx hb hr (by decide) (v_end hV ⟨by rw [goQ_mono hy9 60 (by omega)]; rfl, rfl, hz⟩) hV.2.1.2.2 d_Mo_goes_89
                · replace c_27 : ¬ b = 0 := fun z9 => c_27 ((nI_eq (a := b) (b := 0) (by omega) (by omega)).mpr z9)
                  refine lv_iload hx hb d_Mo_goes_82 (lv_at hl 0 rfl) ?_
                  refine lv_iload_n hx hb d_Mo_goes_84 rfl (lv_at hl 5 rfl) ?_
                  refine lv_icmp_ne (tgt := 90) hx hb d_Mo_goes_85 (by decide) (fun c_28 => ?_) (fun c_28 => ?_)
                  · replace c_28 : ¬ R.1.2.2 = b := fun z9 => c_28 ((nI_eq (a := R.1.2.2) (b := b) (by omega) (by omega)).mpr z9)
                    refine lv_aload_n hx hb d_Mo_goes_90 rfl (lv_at hl 3 rfl) ?_
                    refine u_get hx hb hts inMo hown hK hV hn 0 rfl rfl 4 (by decide) w_fl_Mo_17 rfl rfl d_Mo_goes_91 ?_
                    refine lv_iload hx hb d_Mo_goes_94 (lv_at hl 2 rfl) ?_
                    refine lv_iconst (v := 3) hx hb d_Mo_goes_96 (by decide) ?_
                    refine e_iadd (v := nI (29 * (i + 1) + 3)) hx hb d_Mo_goes_97 (nI_add (29 * (i + 1)) 3) ?_
                    refine u_ialdN hx hb hK hV hn 1 rfl (by omega) (by decide) d_Mo_goes_98 ?_
                    rw [r3]
                    refine lv_if_ne (tgt := 124) hx hb d_Mo_goes_99 (by decide) (fun c_29 => ?_) (fun c_29 => ?_)
                    · have hb9 := b2i_1 c_29
                      have hno2 : goQ Q wl a b (i + 1) = false := by rw [goQ_s hQ, hno, show gmt R a b = false from decide_eq_false (by rintro (z | ⟨z, -⟩) <;> first | omega | (rw [hb9] at z; cases z)), Bool.and_false]; rfl
                      refine lv_iinc (v := nI (i + 2)) (lv' := [(4, .int (nI (i + 2))), (7, .int (nI R.1.2.2)), (6, .int (nI R.1.1)), (5, .int (nI (29 * (i + 1)))), (0, .ref m), (1, .int (nI a)), (2, .int (nI b)), (3, .int (nI wl))]) hx hb d_Mo_goes_124 hl (k := 7) rfl (nI_add (i + 1) 1) (by decide) rfl (fun ls hl => ?_)
                      refine lv_goto (tgt := 3) hx hb d_Mo_goes_127 (by decide) ?_
                      exact ih (i + 1) (by omega) (by omega) hno2 H locs ls hz hV (lv_sub hl [4, 5, 6, 7, 0] rfl)
                    · have hb9 := b2i_0 c_29
                      refine lv_iload_n hx hb d_Mo_goes_102 rfl (lv_at hl 4 rfl) ?_
                      refine lv_if_eq (tgt := 112) hx hb d_Mo_goes_103 (by decide) (fun _ => ?_) (fun c_30 => absurd ((nI_eq (a := a) (b := 0) (by omega) (by omega)).mpr (by omega)) c_30)
                      refine lv_iload_n hx hb d_Mo_goes_112 rfl (lv_at hl 5 rfl) ?_
                      refine lv_if_eq (tgt := 122) hx hb d_Mo_goes_113 (by decide) (fun c_31 => absurd ((nI_eq (a := b) (b := 0) (by omega) (by omega)).mp c_31) (by omega)) (fun _ => ?_)
                      refine lv_iload hx hb d_Mo_goes_116 (lv_at hl 1 rfl) ?_
                      refine lv_iload_n hx hb d_Mo_goes_118 rfl (lv_at hl 5 rfl) ?_
                      refine lv_icmp_ne (tgt := 124) hx hb d_Mo_goes_119 (by decide) (fun c_32 => ?_) (fun c_32 => ?_)
                      · replace c_32 : ¬ R.1.1 = b := fun z9 => c_32 ((nI_eq (a := R.1.1) (b := b) (by omega) (by omega)).mpr z9)
                        have hno2 : goQ Q wl a b (i + 1) = false := by rw [goQ_s hQ, hno, show gmt R a b = false from decide_eq_false (by rintro (z | ⟨-, z⟩) <;> omega), Bool.and_false]; rfl
                        refine lv_iinc (v := nI (i + 2)) (lv' := [(4, .int (nI (i + 2))), (7, .int (nI R.1.2.2)), (6, .int (nI R.1.1)), (5, .int (nI (29 * (i + 1)))), (0, .ref m), (1, .int (nI a)), (2, .int (nI b)), (3, .int (nI wl))]) hx hb d_Mo_goes_124 hl (k := 7) rfl (nI_add (i + 1) 1) (by decide) rfl (fun ls hl => ?_)
                        refine lv_goto (tgt := 3) hx hb d_Mo_goes_127 (by decide) ?_
                        exact ih (i + 1) (by omega) (by omega) hno2 H locs ls hz hV (lv_sub hl [4, 5, 6, 7, 0] rfl)
                      · replace c_32 : R.1.1 = b := (nI_eq (a := R.1.1) (b := b) (by omega) (by omega)).mp c_32
                        have hy9 : goQ Q wl a b (i + 1) = true := by rw [goQ_s hQ, hw9, show gmt R a b = true from decide_eq_true (Or.inr ⟨hb9, by omega, by omega⟩)]; simp
                        refine lv_iconst (v := 1) hx hb d_Mo_goes_122 (by decide) ?_
                        exact W.zret (v := 1) hx hb hr (by decide) (v_end hV ⟨by rw [goQ_mono hy9 60 (by omega)]; rfl, rfl, hz⟩) hV.2.1.2.2 d_Mo_goes_123
                  · replace c_28 : R.1.2.2 = b := (nI_eq (a := R.1.2.2) (b := b) (by omega) (by omega)).mp c_28
                    have hy9 : goQ Q wl a b (i + 1) = true := by rw [goQ_s hQ, hw9, show gmt R a b = true from decide_eq_true (Or.inl ⟨by omega, by omega⟩)]; simp
                    refine lv_iconst (v := 1) hx hb d_Mo_goes_88 (by decide) ?_
                    exact W.zret (v := 1) hx hb hr (by decide) (v_end hV ⟨by rw [goQ_mono hy9 60 (by omega)]; rfl, rfl, hz⟩) hV.2.1.2.2 d_Mo_goes_89
              · replace c_26 : ¬ a = 0 := fun z9 => c_26 ((nI_eq (a := a) (b := 0) (by omega) (by omega)).mpr z9)
                refine lv_iload hx hb d_Mo_goes_72 (lv_at hl 1 rfl) ?_
                refine lv_iload_n hx hb d_Mo_goes_74 rfl (lv_at hl 4 rfl) ?_
                refine lv_icmp_ne (tgt := 90) hx hb d_Mo_goes_75 (by decide) (fun c_33 => ?_) (fun c_33 => ?_)
                · replace c_33 : ¬ R.1.1 = a := fun z9 => c_33 ((nI_eq (a := R.1.1) (b := a) (by omega) (by omega)).mpr z9)
                  refine lv_aload_n hx hb d_Mo_goes_90 rfl (lv_at hl 3 rfl) ?_
                  refine u_get hx hb hts inMo hown hK hV hn 0 rfl rfl 4 (by decide) w_fl_Mo_17 rfl rfl d_Mo_goes_91 ?_
                  refine lv_iload hx hb d_Mo_goes_94 (lv_at hl 2 rfl) ?_
                  refine lv_iconst (v := 3) hx hb d_Mo_goes_96 (by decide) ?_
                  refine e_iadd (v := nI (29 * (i + 1) + 3)) hx hb d_Mo_goes_97 (nI_add (29 * (i + 1)) 3) ?_
                  refine u_ialdN hx hb hK hV hn 1 rfl (by omega) (by decide) d_Mo_goes_98 ?_
                  rw [r3]
                  refine lv_if_ne (tgt := 124) hx hb d_Mo_goes_99 (by decide) (fun c_34 => ?_) (fun c_34 => ?_)
                  · have hb9 := b2i_1 c_34
                    have hno2 : goQ Q wl a b (i + 1) = false := by rw [goQ_s hQ, hno, show gmt R a b = false from decide_eq_false (by rintro (z | ⟨z, -⟩) <;> first | omega | (rw [hb9] at z; cases z)), Bool.and_false]; rfl
                    refine lv_iinc (v := nI (i + 2)) (lv' := [(4, .int (nI (i + 2))), (7, .int (nI R.1.2.2)), (6, .int (nI R.1.1)), (5, .int (nI (29 * (i + 1)))), (0, .ref m), (1, .int (nI a)), (2, .int (nI b)), (3, .int (nI wl))]) hx hb d_Mo_goes_124 hl (k := 7) rfl (nI_add (i + 1) 1) (by decide) rfl (fun ls hl => ?_)
                    refine lv_goto (tgt := 3) hx hb d_Mo_goes_127 (by decide) ?_
                    exact ih (i + 1) (by omega) (by omega) hno2 H locs ls hz hV (lv_sub hl [4, 5, 6, 7, 0] rfl)
                  · have hb9 := b2i_0 c_34
                    refine lv_iload_n hx hb d_Mo_goes_102 rfl (lv_at hl 4 rfl) ?_
                    refine lv_if_eq (tgt := 112) hx hb d_Mo_goes_103 (by decide) (fun c_35 => absurd ((nI_eq (a := a) (b := 0) (by omega) (by omega)).mp c_35) (by omega)) (fun _ => ?_)
                    refine lv_iload hx hb d_Mo_goes_106 (lv_at hl 0 rfl) ?_
                    refine lv_iload_n hx hb d_Mo_goes_108 rfl (lv_at hl 4 rfl) ?_
                    refine lv_icmp_ne (tgt := 124) hx hb d_Mo_goes_109 (by decide) (fun c_36 => ?_) (fun c_36 => ?_)
                    · replace c_36 : ¬ R.1.2.2 = a := fun z9 => c_36 ((nI_eq (a := R.1.2.2) (b := a) (by omega) (by omega)).mpr z9)
                      have hno2 : goQ Q wl a b (i + 1) = false := by rw [goQ_s hQ, hno, show gmt R a b = false from decide_eq_false (by rintro (z | ⟨-, z⟩) <;> omega), Bool.and_false]; rfl
                      refine lv_iinc (v := nI (i + 2)) (lv' := [(4, .int (nI (i + 2))), (7, .int (nI R.1.2.2)), (6, .int (nI R.1.1)), (5, .int (nI (29 * (i + 1)))), (0, .ref m), (1, .int (nI a)), (2, .int (nI b)), (3, .int (nI wl))]) hx hb d_Mo_goes_124 hl (k := 7) rfl (nI_add (i + 1) 1) (by decide) rfl (fun ls hl => ?_)
                      refine lv_goto (tgt := 3) hx hb d_Mo_goes_127 (by decide) ?_
                      exact ih (i + 1) (by omega) (by omega) hno2 H locs ls hz hV (lv_sub hl [4, 5, 6, 7, 0] rfl)
                    · replace c_36 : R.1.2.2 = a := (nI_eq (a := R.1.2.2) (b := a) (by omega) (by omega)).mp c_36
                      refine lv_iload_n hx hb d_Mo_goes_112 rfl (lv_at hl 5 rfl) ?_
                      refine lv_if_eq (tgt := 122) hx hb d_Mo_goes_113 (by decide) (fun c_37 => ?_) (fun c_37 => ?_)
                      · replace c_37 : b = 0 := (nI_eq (a := b) (b := 0) (by omega) (by omega)).mp c_37
                        have hy9 : goQ Q wl a b (i + 1) = true := by rw [goQ_s hQ, hw9, show gmt R a b = true from decide_eq_true (Or.inr ⟨hb9, by omega, by omega⟩)]; simp
                        refine lv_iconst (v := 1) hx hb d_Mo_goes_122 (by decide) ?_
                        exact W.zret (v := 1) hx hb hr (by decide) (v_end hV ⟨by rw [goQ_mono hy9 60 (by omega)]; rfl, rfl, hz⟩) hV.2.1.2.2 d_Mo_goes_123
                      · replace c_37 : ¬ b = 0 := fun z9 => c_37 ((nI_eq (a := b) (b := 0) (by omega) (by omega)).mpr z9)
                        refine lv_iload hx hb d_Mo_goes_116 (lv_at hl 1 rfl) ?_
                        refine lv_iload_n hx hb d_Mo_goes_118 rfl (lv_at hl 5 rfl) ?_
                        refine lv_icmp_ne (tgt := 124) hx hb d_Mo_goes_119 (by decide) (fun c_38 => ?_) (fun c_38 => ?_)
                        · replace c_38 : ¬ R.1.1 = b := fun z9 => c_38 ((nI_eq (a := R.1.1) (b := b) (by omega) (by omega)).mpr z9)
                          have hno2 : goQ Q wl a b (i + 1) = false := by rw [goQ_s hQ, hno, show gmt R a b = false from decide_eq_false (by rintro (z | ⟨-, z⟩) <;> omega), Bool.and_false]; rfl
                          refine lv_iinc (v := nI (i + 2)) (lv' := [(4, .int (nI (i + 2))), (7, .int (nI R.1.2.2)), (6, .int (nI R.1.1)), (5, .int (nI (29 * (i + 1)))), (0, .ref m), (1, .int (nI a)), (2, .int (nI b)), (3, .int (nI wl))]) hx hb d_Mo_goes_124 hl (k := 7) rfl (nI_add (i + 1) 1) (by decide) rfl (fun ls hl => ?_)
                          refine lv_goto (tgt := 3) hx hb d_Mo_goes_127 (by decide) ?_
                          exact ih (i + 1) (by omega) (by omega) hno2 H locs ls hz hV (lv_sub hl [4, 5, 6, 7, 0] rfl)
                        · replace c_38 : R.1.1 = b := (nI_eq (a := R.1.1) (b := b) (by omega) (by omega)).mp c_38
                          have hy9 : goQ Q wl a b (i + 1) = true := by rw [goQ_s hQ, hw9, show gmt R a b = true from decide_eq_true (Or.inr ⟨hb9, by omega, by omega⟩)]; simp
                          refine lv_iconst (v := 1) hx hb d_Mo_goes_122 (by decide) ?_
                          exact W.zret (v := 1) hx hb hr (by decide) (v_end hV ⟨by rw [goQ_mono hy9 60 (by omega)]; rfl, rfl, hz⟩) hV.2.1.2.2 d_Mo_goes_123
                · replace c_33 : R.1.1 = a := (nI_eq (a := R.1.1) (b := a) (by omega) (by omega)).mp c_33
                  refine lv_iload_n hx hb d_Mo_goes_78 rfl (lv_at hl 5 rfl) ?_
                  refine lv_if_eq (tgt := 88) hx hb d_Mo_goes_79 (by decide) (fun c_39 => ?_) (fun c_39 => ?_)
                  · replace c_39 : b = 0 := (nI_eq (a := b) (b := 0) (by omega) (by omega)).mp c_39
                    have hy9 : goQ Q wl a b (i + 1) = true := by rw [goQ_s hQ, hw9, show gmt R a b = true from decide_eq_true (Or.inl ⟨by omega, by omega⟩)]; simp
                    refine lv_iconst (v := 1) hx hb d_Mo_goes_88 (by decide) ?_
                    exact W.zret (v := 1) hx hb hr (by decide) (v_end hV ⟨by rw [goQ_mono hy9 60 (by omega)]; rfl, rfl, hz⟩) hV.2.1.2.2 d_Mo_goes_89
                  · replace c_39 : ¬ b = 0 := fun z9 => c_39 ((nI_eq (a := b) (b := 0) (by omega) (by omega)).mpr z9)
                    refine lv_iload hx hb d_Mo_goes_82 (lv_at hl 0 rfl) ?_
                    refine lv_iload_n hx hb d_Mo_goes_84 rfl (lv_at hl 5 rfl) ?_
                    refine lv_icmp_ne (tgt := 90) hx hb d_Mo_goes_85 (by decide) (fun c_40 => ?_) (fun c_40 => ?_)
                    · replace c_40 : ¬ R.1.2.2 = b := fun z9 => c_40 ((nI_eq (a := R.1.2.2) (b := b) (by omega) (by omega)).mpr z9)
                      refine lv_aload_n hx hb d_Mo_goes_90 rfl (lv_at hl 3 rfl) ?_
                      refine u_get hx hb hts inMo hown hK hV hn 0 rfl rfl 4 (by decide) w_fl_Mo_17 rfl rfl d_Mo_goes_91 ?_
                      refine lv_iload hx hb d_Mo_goes_94 (lv_at hl 2 rfl) ?_
                      refine lv_iconst (v := 3) hx hb d_Mo_goes_96 (by decide) ?_
                      refine e_iadd (v := nI (29 * (i + 1) + 3)) hx hb d_Mo_goes_97 (nI_add (29 * (i + 1)) 3) ?_
                      refine u_ialdN hx hb hK hV hn 1 rfl (by omega) (by decide) d_Mo_goes_98 ?_
                      rw [r3]
                      refine lv_if_ne (tgt := 124) hx hb d_Mo_goes_99 (by decide) (fun c_41 => ?_) (fun c_41 => ?_)
                      · have hb9 := b2i_1 c_41
                        have hno2 : goQ Q wl a b (i + 1) = false := by rw [goQ_s hQ, hno, show gmt R a b = false from decide_eq_false (by rintro (z | ⟨z, -⟩) <;> first | omega | (rw [hb9] at z; cases z)), Bool.and_false]; rfl
                        refine lv_iinc (v := nI (i + 2)) (lv' := [(4, .int (nI (i + 2))), (7, .int (nI R.1.2.2)), (6, .int (nI R.1.1)), (5, .int (nI (29 * (i + 1)))), (0, .ref m), (1, .int (nI a)), (2, .int (nI b)), (3, .int (nI wl))]) hx hb d_Mo_goes_124 hl (k := 7) rfl (nI_add (i + 1) 1) (by decide) rfl (fun ls hl => ?_)
                        refine lv_goto (tgt := 3) hx hb d_Mo_goes_127 (by decide) ?_
                        exact ih (i + 1) (by omega) (by omega) hno2 H locs ls hz hV (lv_sub hl [4, 5, 6, 7, 0] rfl)
                      · have hb9 := b2i_0 c_41
                        refine lv_iload_n hx hb d_Mo_goes_102 rfl (lv_at hl 4 rfl) ?_
                        refine lv_if_eq (tgt := 112) hx hb d_Mo_goes_103 (by decide) (fun c_42 => absurd ((nI_eq (a := a) (b := 0) (by omega) (by omega)).mp c_42) (by omega)) (fun _ => ?_)
                        refine lv_iload hx hb d_Mo_goes_106 (lv_at hl 0 rfl) ?_
                        refine lv_iload_n hx hb d_Mo_goes_108 rfl (lv_at hl 4 rfl) ?_
                        refine lv_icmp_ne (tgt := 124) hx hb d_Mo_goes_109 (by decide) (fun c_43 => ?_) (fun c_43 => ?_)
                        · replace c_43 : ¬ R.1.2.2 = a := fun z9 => c_43 ((nI_eq (a := R.1.2.2) (b := a) (by omega) (by omega)).mpr z9)
                          have hno2 : goQ Q wl a b (i + 1) = false := by rw [goQ_s hQ, hno, show gmt R a b = false from decide_eq_false (by rintro (z | ⟨-, z⟩) <;> omega), Bool.and_false]; rfl
                          refine lv_iinc (v := nI (i + 2)) (lv' := [(4, .int (nI (i + 2))), (7, .int (nI R.1.2.2)), (6, .int (nI R.1.1)), (5, .int (nI (29 * (i + 1)))), (0, .ref m), (1, .int (nI a)), (2, .int (nI b)), (3, .int (nI wl))]) hx hb d_Mo_goes_124 hl (k := 7) rfl (nI_add (i + 1) 1) (by decide) rfl (fun ls hl => ?_)
                          refine lv_goto (tgt := 3) hx hb d_Mo_goes_127 (by decide) ?_
                          exact ih (i + 1) (by omega) (by omega) hno2 H locs ls hz hV (lv_sub hl [4, 5, 6, 7, 0] rfl)
                        · replace c_43 : R.1.2.2 = a := (nI_eq (a := R.1.2.2) (b := a) (by omega) (by omega)).mp c_43
                          refine lv_iload_n hx hb d_Mo_goes_112 rfl (lv_at hl 5 rfl) ?_
                          refine lv_if_eq (tgt := 122) hx hb d_Mo_goes_113 (by decide) (fun c_44 => absurd ((nI_eq (a := b) (b := 0) (by omega) (by omega)).mp c_44) (by omega)) (fun _ => ?_)
                          refine lv_iload hx hb d_Mo_goes_116 (lv_at hl 1 rfl) ?_
                          refine lv_iload_n hx hb d_Mo_goes_118 rfl (lv_at hl 5 rfl) ?_
                          refine lv_icmp_ne (tgt := 124) hx hb d_Mo_goes_119 (by decide) (fun c_45 => ?_) (fun c_45 => ?_)
                          · replace c_45 : ¬ R.1.1 = b := fun z9 => c_45 ((nI_eq (a := R.1.1) (b := b) (by omega) (by omega)).mpr z9)
                            have hno2 : goQ Q wl a b (i + 1) = false := by rw [goQ_s hQ, hno, show gmt R a b = false from decide_eq_false (by rintro (z | ⟨-, z⟩) <;> omega), Bool.and_false]; rfl
                            refine lv_iinc (v := nI (i + 2)) (lv' := [(4, .int (nI (i + 2))), (7, .int (nI R.1.2.2)), (6, .int (nI R.1.1)), (5, .int (nI (29 * (i + 1)))), (0, .ref m), (1, .int (nI a)), (2, .int (nI b)), (3, .int (nI wl))]) hx hb d_Mo_goes_124 hl (k := 7) rfl (nI_add (i + 1) 1) (by decide) rfl (fun ls hl => ?_)
                            refine lv_goto (tgt := 3) hx hb d_Mo_goes_127 (by decide) ?_
                            exact ih (i + 1) (by omega) (by omega) hno2 H locs ls hz hV (lv_sub hl [4, 5, 6, 7, 0] rfl)
                          · replace c_45 : R.1.1 = b := (nI_eq (a := R.1.1) (b := b) (by omega) (by omega)).mp c_45
                            have hy9 : goQ Q wl a b (i + 1) = true := by rw [goQ_s hQ, hw9, show gmt R a b = true from decide_eq_true (Or.inr ⟨hb9, by omega, by omega⟩)]; simp
                            refine lv_iconst (v := 1) hx hb d_Mo_goes_122 (by decide) ?_
                            exact W.zret (v := 1) hx hb hr (by decide) (v_end hV ⟨by rw [goQ_mono hy9 60 (by omega)]; rfl, rfl, hz⟩) hV.2.1.2.2 d_Mo_goes_123
                    · replace c_40 : R.1.2.2 = b := (nI_eq (a := R.1.2.2) (b := b) (by omega) (by omega)).mp c_40
                      have hy9 : goQ Q wl a b (i + 1) = true := by rw [goQ_s hQ, hw9, show gmt R a b = true from decide_eq_true (Or.inl ⟨by omega, by omega⟩)]; simp
                      refine lv_iconst (v := 1) hx hb d_Mo_goes_88 (by decide) ?_
                      exact W.zret (v := 1) hx hb hr (by decide) (v_end hV ⟨by rw [goQ_mono hy9 60 (by omega)]; rfl, rfl, hz⟩) hV.2.1.2.2 d_Mo_goes_89
            · replace c_25 : ¬ R.2.1.2.1 ≤ 2 := fun z9 => c_25 ((nI_leI (a := R.2.1.2.1) (b := 2) (by omega) (by omega)).mpr z9)
              have hno2 : goQ Q wl a b (i + 1) = false := by rw [goQ_s hQ, hno, decide_eq_false (show ¬ wl = 0 by omega), show whl R.2.1.2.1 = false from decide_eq_false (by omega)]; rfl
              refine lv_goto (tgt := 124) hx hb d_Mo_goes_43 (by decide) ?_
              refine lv_iinc (v := nI (i + 2)) (lv' := [(4, .int (nI (i + 2))), (5, .int (nI (29 * (i + 1)))), (0, .ref m), (1, .int (nI a)), (2, .int (nI b)), (3, .int (nI wl))]) hx hb d_Mo_goes_124 hl (k := 5) rfl (nI_add (i + 1) 1) (by decide) rfl (fun ls hl => ?_)
              refine lv_goto (tgt := 3) hx hb d_Mo_goes_127 (by decide) ?_
              exact ih (i + 1) (by omega) (by omega) hno2 H locs ls hz hV (lv_sub hl [2, 3, 4, 5, 0] rfl)
        · have hQ := mpA_n (Q := Q) (j := i + 1) (by omega) (by omega) d_2
          have hno2 : goQ Q wl a b (i + 1) = false := by rw [goQ_n hQ]; exact hno
          have hV : vS G.1 cls lo s H locs (vU V [(m, eO 8 [u0, u1, u2, u3, .ref pa, u5, u6, u7, u8, u9, u10, u11, u12, u13, u14, u15, u16, u17, u18, u19, u20]), (pa, eI (gI G) 1769 P)]) := hV
          refine W.eq (g2 := F0 mi 23 ls [.int 0]) (by rw [d_2]; rfl) ?_
          refine lv_if_eq (tgt := 124) hx hb d_Mo_goes_23 (by decide) (fun _ => ?_) (fun c_46 => absurd c_46 (by decide))
          refine lv_iinc (v := nI (i + 2)) (lv' := [(4, .int (nI (i + 2))), (5, .int (nI (29 * (i + 1)))), (0, .ref m), (1, .int (nI a)), (2, .int (nI b)), (3, .int (nI wl))]) hx hb d_Mo_goes_124 hl (k := 5) rfl (nI_add (i + 1) 1) (by decide) rfl (fun ls hl => ?_)
          refine lv_goto (tgt := 3) hx hb d_Mo_goes_127 (by decide) ?_
          exact ih (i + 1) (by omega) (by omega) hno2 H locs ls hz hV (lv_sub hl [2, 3, 4, 5, 0] rfl)
  exact loop 61 0 (by omega) (by omega) rfl H locs ls hz hV (lv_sub hl [1, 2, 3, 4, 0] rfl)

set_option maxHeartbeats 4000000 in
set_option maxRecDepth 100000 in
/-- isWall -/
theorem c_Mo_isWall (l : Launch) (G : Gx) (lo : Nat) (V : Vw) (sz : Nat) (m ba : Nat) (u0 u1 u2 u3 u4 u5 u6 u9 u10 u11 u12 u13 u14 u15 u16 u17 u18 u19 u20 : Value) (bf : Nat → Int32) (L : List Tri) (hn : [m, ba].Nodup) (hB9 : mbA bf L) (hL : L.length ≤ 20) (j : Nat) (hj2 : j ≤ 40) : Met l y_Mo_isWall ws_Mo_isWall ({ frames := 1, cells := 0, slots := 0, locals := 30 } : Room) (vPre G lo [.ref m, .int (nI j)] (vU V [(m, eO 8 [u0, u1, u2, u3, u4, u5, u6, .int (nI L.length), .ref ba, u9, u10, u11, u12, u13, u14, u15, u16, u17, u18, u19, u20]), (ba, eI (gI G) 600 bf)]) sz) (vPost G lo (fun r V' k => r = some (.int (b2i (wallI L j L.length))) ∧ V' = vU V [(m, eO 8 [u0, u1, u2, u3, u4, u5, u6, .int (nI L.length), .ref ba, u9, u10, u11, u12, u13, u14, u15, u16, u17, u18, u19, u20]), (ba, eI (gI G) 600 bf)] ∧ k = sz)) 0 0 (vL lo) := by
  refine vMet (R := RMo) (by decide) rfl (Nat.le_of_ble_eq_true rfl) ?_
  intro pg ev s mi args below meth cd hx hb hr hml hlk hnm hts hown hK hz hV ls hl
  have hl : lv_has ls 3 [(0, .ref m), (1, .int (nI j))] := hl
  have hV0 := hV
  obtain ⟨H, hH⟩ : ∃ H, H = s.heap := ⟨_, rfl⟩
  obtain ⟨locs, hlocs⟩ : ∃ locs : List Loc, locs = [] := ⟨_, rfl⟩
  rw [← hH, ← hlocs]
  rw [← hH] at hz
  replace hV : vS G.1 cls lo s H locs (vU V [(m, eO 8 [u0, u1, u2, u3, u4, u5, u6, .int (nI L.length), .ref ba, u9, u10, u11, u12, u13, u14, u15, u16, u17, u18, u19, u20]), (ba, eI (gI G) 600 bf)]) := by rw [hH, hlocs]; exact hV
  clear hH hlocs hV0
  refine lv_iconst (v := 0) hx hb d_Mo_isWall_0 (by decide) ?_
  refine lv_istore_n (lv' := [(2, .int 0), (0, .ref m), (1, .int (nI j))]) hx hb d_Mo_isWall_1 rfl hl (by decide) rfl (fun ls hl => ?_)
  have loop : ∀ (k : Nat) (i : Nat), L.length - i < k → (i ≤ L.length) → (wallI L j i = false) → ∀ (H : Heap) (locs : List Loc) (ls : Array Slot), H.size = sz → vS G.1 cls lo s H locs (vU V [(m, eO 8 [u0, u1, u2, u3, u4, u5, u6, .int (nI L.length), .ref ba, u9, u10, u11, u12, u13, u14, u15, u16, u17, u18, u19, u20]), (ba, eI (gI G) 600 bf)]) → lv_has ls 3 [(0, .ref m), (1, .int (nI j)), (2, .int (nI i))] → W pg l ev ({ frames := 1, cells := 0, slots := 0, locals := 30 } : Room) s mi args below meth cd H locs 0 0 (MQ below (vPost G lo (fun r V' k => r = some (.int (b2i (wallI L j L.length))) ∧ V' = vU V [(m, eO 8 [u0, u1, u2, u3, u4, u5, u6, .int (nI L.length), .ref ba, u9, u10, u11, u12, u13, u14, u15, u16, u17, u18, u19, u20]), (ba, eI (gI G) 600 bf)] ∧ k = sz)) args s 0 0 (vL lo)) (F0 mi 2 ls []) := by
    intro k
    induction k with
    | zero => intro i hk; exact absurd hk (by omega)
    | succ k ih =>
      intro i hk hi hno H locs ls hz hV hl
      refine lv_iload_n hx hb d_Mo_isWall_2 rfl (lv_at hl 2 rfl) ?_
      refine lv_aload_n hx hb d_Mo_isWall_3 rfl (lv_at hl 0 rfl) ?_
      refine u_get hx hb hts inMo hown hK hV hn 0 rfl rfl 7 (by decide) w_fl_Mo_111 rfl rfl d_Mo_isWall_4 ?_
      refine lv_icmp_ge (tgt := 86) hx hb d_Mo_isWall_7 (by decide) (fun c_1 => ?_) (fun c_1 => ?_)
      · replace c_1 : L.length ≤ i := (nI_leI (a := L.length) (b := i) (by omega) (by omega)).mp c_1
        refine lv_iconst (v := 0) hx hb d_Mo_isWall_86 (by decide) ?_
        exact W.zret (v := 0) hx hb hr (by decide) (v_end hV ⟨by rw [show L.length = i by omega, hno]; rfl, rfl, hz⟩) hV.2.1.2.2 d_Mo_isWall_87
      · replace c_1 : ¬ L.length ≤ i := fun z9 => c_1 ((nI_leI (a := L.length) (b := i) (by omega) (by omega)).mpr z9)
        obtain ⟨o1, o2, o3, o4, o5, o6⟩ := hB9 i (by omega)
        refine lv_aload_n hx hb d_Mo_isWall_10 rfl (lv_at hl 0 rfl) ?_
        refine u_get hx hb hts inMo hown hK hV hn 0 rfl rfl 8 (by decide) w_fl_Mo_26 rfl rfl d_Mo_isWall_11 ?_
        refine lv_iconst (v := 3) hx hb d_Mo_isWall_14 (by decide) ?_
        refine lv_iload_n hx hb d_Mo_isWall_15 rfl (lv_at hl 2 rfl) ?_
        refine e_imul (v := nI (3 * i)) hx hb d_Mo_isWall_16 (nI_mul 3 i) ?_
        refine lv_iconst (v := 1) hx hb d_Mo_isWall_17 (by decide) ?_
        refine e_iadd (v := nI (3 * i + 1)) hx hb d_Mo_isWall_18 (nI_add (3 * i) 1) ?_
        refine u_ialdN hx hb hK hV hn 1 rfl (by omega) (by decide) d_Mo_isWall_19 ?_
        rw [o2]
        refine lv_iload_n hx hb d_Mo_isWall_20 rfl (lv_at hl 1 rfl) ?_
        refine lv_icmp_ne (tgt := 80) hx hb d_Mo_isWall_21 (by decide) (fun c_2 => ?_) (fun c_2 => ?_)
        · replace c_2 : ¬ (L.getD i z3).2.1 = j := fun z9 => c_2 ((nI_eq (a := (L.getD i z3).2.1) (b := j) (by omega) (by omega)).mpr z9)
          have hno2 : wallI L j (i + 1) = false := by simp only [wallI, hno, decide_eq_false c_2, Bool.false_and, Bool.or_false]
          refine lv_iinc (v := nI (i + 1)) (lv' := [(2, .int (nI (i + 1))), (0, .ref m), (1, .int (nI j))]) hx hb d_Mo_isWall_80 hl (k := 2) rfl (nI_add i 1) (by decide) rfl (fun ls hl => ?_)
          refine lv_goto (tgt := 2) hx hb d_Mo_isWall_83 (by decide) ?_
          exact ih (i + 1) (by omega) (by omega) hno2 H locs ls hz hV (lv_sub hl [1, 2, 0] rfl)
        · replace c_2 : (L.getD i z3).2.1 = j := (nI_eq (a := (L.getD i z3).2.1) (b := j) (by omega) (by omega)).mp c_2
          have e1 := c_2
          refine lv_aload_n hx hb d_Mo_isWall_24 rfl (lv_at hl 0 rfl) ?_
          refine u_get hx hb hts inMo hown hK hV hn 0 rfl rfl 8 (by decide) w_fl_Mo_26 rfl rfl d_Mo_isWall_25 ?_
          refine lv_iconst (v := 3) hx hb d_Mo_isWall_28 (by decide) ?_
          refine lv_iload_n hx hb d_Mo_isWall_29 rfl (lv_at hl 2 rfl) ?_
          refine e_imul (v := nI (3 * i)) hx hb d_Mo_isWall_30 (nI_mul 3 i) ?_
          refine u_ialdN hx hb hK hV hn 1 rfl (by omega) (by decide) d_Mo_isWall_31 ?_
          rw [o1]
          refine lv_aload_n hx hb d_Mo_isWall_32 rfl (lv_at hl 0 rfl) ?_
          refine u_get hx hb hts inMo hown hK hV hn 0 rfl rfl 8 (by decide) w_fl_Mo_26 rfl rfl d_Mo_isWall_33 ?_
          refine lv_iconst (v := 3) hx hb d_Mo_isWall_36 (by decide) ?_
          refine lv_iload_n hx hb d_Mo_isWall_37 rfl (lv_at hl 2 rfl) ?_
          refine e_imul (v := nI (3 * i)) hx hb d_Mo_isWall_38 (nI_mul 3 i) ?_
          refine lv_iconst (v := 2) hx hb d_Mo_isWall_39 (by decide) ?_
          refine e_iadd (v := nI (3 * i + 2)) hx hb d_Mo_isWall_40 (nI_add (3 * i) 2) ?_
          refine u_ialdN hx hb hK hV hn 1 rfl (by omega) (by decide) d_Mo_isWall_41 ?_
          rw [o3]
          refine lv_icmp_ne (tgt := 48) hx hb d_Mo_isWall_42 (by decide) (fun c_3 => ?_) (fun c_3 => ?_)
          · replace c_3 : ¬ (L.getD i z3).1 = (L.getD i z3).2.2 := fun z9 => c_3 ((nI_eq (a := (L.getD i z3).1) (b := (L.getD i z3).2.2) (by omega) (by omega)).mpr z9)
            have e2 := c_3
            refine lv_aload_n hx hb d_Mo_isWall_48 rfl (lv_at hl 0 rfl) ?_
            refine lv_aload_n hx hb d_Mo_isWall_49 rfl (lv_at hl 0 rfl) ?_
            refine u_get hx hb hts inMo hown hK hV hn 0 rfl rfl 7 (by decide) w_fl_Mo_111 rfl rfl d_Mo_isWall_50 ?_
            refine lv_aload_n hx hb d_Mo_isWall_53 rfl (lv_at hl 0 rfl) ?_
            refine u_get hx hb hts inMo hown hK hV hn 0 rfl rfl 8 (by decide) w_fl_Mo_26 rfl rfl d_Mo_isWall_54 ?_
            refine lv_iconst (v := 3) hx hb d_Mo_isWall_57 (by decide) ?_
            refine lv_iload_n hx hb d_Mo_isWall_58 rfl (lv_at hl 2 rfl) ?_
            refine e_imul (v := nI (3 * i)) hx hb d_Mo_isWall_59 (nI_mul 3 i) ?_
            refine lv_iconst (v := 2) hx hb d_Mo_isWall_60 (by decide) ?_
            refine e_iadd (v := nI (3 * i + 2)) hx hb d_Mo_isWall_61 (nI_add (3 * i) 2) ?_
            refine u_ialdN hx hb hK hV hn 1 rfl (by omega) (by decide) d_Mo_isWall_62 ?_
            rw [o3]
            refine lv_iload_n hx hb d_Mo_isWall_63 rfl (lv_at hl 1 rfl) ?_
            refine lv_aload_n hx hb d_Mo_isWall_64 rfl (lv_at hl 0 rfl) ?_
            refine u_get hx hb hts inMo hown hK hV hn 0 rfl rfl 8 (by decide) w_fl_Mo_26 rfl rfl d_Mo_isWall_65 ?_
            refine lv_iconst (v := 3) hx hb d_Mo_isWall_68 (by decide) ?_
            refine lv_iload_n hx hb d_Mo_isWall_69 rfl (lv_at hl 2 rfl) ?_
            refine e_imul (v := nI (3 * i)) hx hb d_Mo_isWall_70 (nI_mul 3 i) ?_
            refine u_ialdN hx hb hK hV hn 1 rfl (by omega) (by decide) d_Mo_isWall_71 ?_
            rw [o1]
            refine v_call (va_runV (As := [.int (nI L.length), .int (nI ((L.getD i z3).2.2)), .int (nI j), .int (nI ((L.getD i z3).1))]) (rest := []) ⟨hx, hb, hml, hown, hts⟩ (c_Mo_isBarred l G lo _ _ m ba u0 u1 u2 u3 u4 u5 u6 (.int (nI L.length)) u9 u10 u11 u12 u13 u14 u15 u16 u17 u18 u19 u20 bf L hn hB9 (by omega) ((L.getD i z3).2.2) j ((L.getD i z3).1) (by omega) (by omega) (by omega)) (kwV 4 hts w_co_Mo_isBarred rfl rfl w_it_Mo w_ml_Mo_107 w_im_Mo_isBarred w_se_Mo__Mo_isBarred (by decide +kernel) ⟨(Nat.le_of_ble_eq_true rfl), (Nat.le_of_ble_eq_true rfl)⟩) (u_preV hK hV hn [0, 1] rfl hz 0 rfl rfl) rfl rfl hl.1 rfl (lv_room (Nat.le_of_ble_eq_true rfl)) d_Mo_isWall_72 ⟨(Nat.le_of_ble_eq_true rfl), (Nat.le_of_ble_eq_true rfl)⟩) hV (fun r9 V9 H locs hp hV hle => ?_)
            obtain ⟨rfl, rfl, hz⟩ := hp
            replace hV := uu_same hV hn [0, 1] rfl
            rcases tf (decide (((L.getD i z3).2.2, j, (L.getD i z3).1) ∈ L)) with d_4 | d_4
            · have hy9 : wallI L j (i + 1) = true := by simp only [wallI, d_4, decide_eq_true e1, decide_eq_false e2, Bool.not_false, Bool.and_true, Bool.or_true]
              have hV : vS G.1 cls lo s H locs (vU V [(m, eO 8 [u0, u1, u2, u3, u4, u5, u6, .int (nI L.length), .ref ba, u9, u10, u11, u12, u13, u14, u15, u16, u17, u18, u19, u20]), (ba, eI (gI G) 600 bf)]) := hV
              refine W.eq (g2 := F0 mi 75 ls [.int 1]) (by rw [d_4]; rfl) ?_
              refine lv_if_eq (tgt := 80) hx hb d_Mo_isWall_75 (by decide) (fun c_5 => absurd c_5 (by decide)) (fun _ => ?_)
              refine lv_iconst (v := 1) hx hb d_Mo_isWall_78 (by decide) ?_
              exact W.zret (v := 1) hx hb hr (by decide) (v_end hV ⟨by rw [wallI_mono hy9 L.length (by omega)]; rfl, rfl, hz⟩) hV.2.1.2.2 d_Mo_isWall_79
            · have hno2 : wallI L j (i + 1) = false := by simp only [wallI, hno, d_4, Bool.and_false, Bool.or_false]
              have hV : vS G.1 cls lo s H locs (vU V [(m, eO 8 [u0, u1, u2, u3, u4, u5, u6, .int (nI L.length), .ref ba, u9, u10, u11, u12, u13, u14, u15, u16, u17, u18, u19, u20]), (ba, eI (gI G) 600 bf)]) := hV
              refine W.eq (g2 := F0 mi 75 ls [.int 0]) (by rw [d_4]; rfl) ?_
              refine lv_if_eq (tgt := 80) hx hb d_Mo_isWall_75 (by decide) (fun _ => ?_) (fun c_6 => absurd c_6 (by decide))
              refine lv_iinc (v := nI (i + 1)) (lv' := [(2, .int (nI (i + 1))), (0, .ref m), (1, .int (nI j))]) hx hb d_Mo_isWall_80 hl (k := 2) rfl (nI_add i 1) (by decide) rfl (fun ls hl => ?_)
              refine lv_goto (tgt := 2) hx hb d_Mo_isWall_83 (by decide) ?_
              exact ih (i + 1) (by omega) (by omega) hno2 H locs ls hz hV (lv_sub hl [1, 2, 0] rfl)
          · replace c_3 : (L.getD i z3).1 = (L.getD i z3).2.2 := (nI_eq (a := (L.getD i z3).1) (b := (L.getD i z3).2.2) (by omega) (by omega)).mp c_3
            have hno2 : wallI L j (i + 1) = false := by simp only [wallI, hno, decide_eq_true c_3, Bool.not_true, Bool.and_false, Bool.false_and, Bool.or_false]
            refine lv_goto (tgt := 80) hx hb d_Mo_isWall_45 (by decide) ?_
            refine lv_iinc (v := nI (i + 1)) (lv' := [(2, .int (nI (i + 1))), (0, .ref m), (1, .int (nI j))]) hx hb d_Mo_isWall_80 hl (k := 2) rfl (nI_add i 1) (by decide) rfl (fun ls hl => ?_)
            refine lv_goto (tgt := 2) hx hb d_Mo_isWall_83 (by decide) ?_
            exact ih (i + 1) (by omega) (by omega) hno2 H locs ls hz hV (lv_sub hl [1, 2, 0] rfl)
  exact loop (L.length + 1) 0 (by omega) (by omega) rfl H locs ls hz hV (lv_sub hl [1, 2, 0] rfl)
