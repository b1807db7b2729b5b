/-! THE REFERENCE: the same texts, read by a machine that notes where it went wrong and goes on -/
def mtOk (g : Nat → Int32) (t : Nat → Nat) (n : Nat) : Prop := ∀ i, i < n → t i < 256 ∧ g i = nI (t i)
def inI (x a b : Int32) : Bool := !(decide (x < a)) && !(decide (b < x))
def wI {α : Type} : Sum Nat α → Int32
  | .inl e => nI e
  | .inr _ => -1
def rA (a : Nat) : Sum Nat (Nat × Nat) → Nat
  | .inl _ => a
  | .inr z => z.1
def kindI (c : Int32) : Int32 := if c = 114 then 0 else if c = 98 then 1 else if c = 116 then 2 else if c = 102 then 3 else if c = 119 then 4 else -1
theorem nI_ge0 {e : Nat} (h : e < 2 ^ 31) : (0 : Int32) ≤ nI e := nI_le (a := 0) (b := e) (Nat.zero_le _) h
theorem nI_nlt0 {e : Nat} (h : e < 2 ^ 31) : ¬ nI e < (0 : Int32) := Int32.not_lt.mpr (nI_ge0 h)
theorem inI_N {v a b : Nat} (hv : v < 2 ^ 31) (ha : a < 2 ^ 31) (hb : b < 2 ^ 31) : inI (nI v) (nI a) (nI b) = decide (a ≤ v ∧ v ≤ b) := by
  unfold inI
  by_cases h1 : v < a
  · have e1 := decide_eq_true ((nI_ltI hv ha).mpr h1)
    have e2 := decide_eq_false (show ¬ (a ≤ v ∧ v ≤ b) by omega)
    rw [e1, e2]; rfl
  · have e1 := decide_eq_false (fun z => h1 ((nI_ltI hv ha).mp z))
    by_cases h2 : b < v
    · have e2 := decide_eq_true ((nI_ltI hb hv).mpr h2)
      have e3 := decide_eq_false (show ¬ (a ≤ v ∧ v ≤ b) by omega)
      rw [e1, e2, e3]; rfl
    · have e2 := decide_eq_false (fun z => h2 ((nI_ltI hb hv).mp z))
      have e3 := decide_eq_true (show a ≤ v ∧ v ≤ b by omega)
      rw [e1, e2, e3]; rfl
theorem inI_D {t : Nat → Nat} {g : Nat → Int32} {n q : Nat} (hT : mtOk g t n) : inI (rK t n q) 48 57 = isD t n q := by
  by_cases h : q < n
  · rw [rK_in h]
    have h2 := (hT q h).1
    rw [show inI (nI (t q)) 48 57 = inI (nI (t q)) (nI 48) (nI 57) from rfl, inI_N (by omega) (by decide) (by decide)]
    unfold isD
    rw [decide_eq_true h]
    by_cases h3 : 48 ≤ t q <;> by_cases h4 : t q ≤ 57 <;> simp [h3, h4]
  · rw [rK_out h, isD_no (by omega)]
    decide

theorem sk_out {t : Nat → Nat} {n p : Nat} (h : n ≤ p) : sk t n p = p := sk_stop (by omega)
theorem sk_le2 (t : Nat → Nat) (n p : Nat) : sk t n p ≤ n ∨ sk t n p = p := by
  rcases Nat.lt_or_ge p n with h | h
  · exact Or.inl (sk_le (by omega))
  · exact Or.inr (sk_out h)
theorem tk_er2 {t : Nat → Nat} {n c p e : Nat} (h : tk t n c p = .inl e) : e ≤ n ∨ e = p := by
  unfold tk at h
  split at h
  · cases h
  · cases h; exact sk_le2 t n p
theorem dgs_out {t : Nat → Nat} {n : Nat} {k v d r : Nat} (h : n ≤ r) : dgs t n k v d r = (v, d, r) := by
  cases k with
  | zero => rfl
  | succ k =>
    unfold dgs
    rw [if_neg (fun z => by have := (isD_spec z.1).1; omega)]
theorem dgs_le2 {t : Nat → Nat} {n p a : Nat} (h : (dgs t n 4 0 0 (sk t n p)).2.2 = a) : a ≤ n ∨ a = p := by
  rcases Nat.lt_or_ge p n with hp | hp
  · have := (dgs_r (t := t) 4 0 0 (sk t n p) (sk_le (by omega))).1
    omega
  · rw [sk_out hp, dgs_out hp] at h
    exact Or.inr h.symm
theorem num_er2 {t : Nat → Nat} {n lo hi p e : Nat} (h : num t n lo hi p = .inl e) : e ≤ n ∨ e = p := by
  rcases Nat.lt_or_ge p n with hp | hp
  · exact Or.inl (num_er h (by omega))
  · have : num t n lo hi p = .inl p := by
      unfold num numX
      rw [sk_out hp, dgs_out hp]
      simp
    rw [this] at h
    cases h
    exact Or.inr rfl
theorem num_lt {t : Nat → Nat} {n lo hi p v q : Nat} (h : num t n lo hi p = .inr (v, q)) : p < n := by
  rcases Nat.lt_or_ge p n with hp | hp
  · exact hp
  · have : num t n lo hi p = .inl p := by
      unfold num numX
      rw [sk_out hp, dgs_out hp]
      simp
    rw [this] at h
    cases h
theorem num_ok2 {t : Nat → Nat} {n lo hi p v q : Nat} (h : num t n lo hi p = .inr (v, q)) : lo ≤ v ∧ v ≤ hi ∧ p < q ∧ q ≤ n := num_ok h (by have := num_lt h; omega)
theorem num_at {t : Nat → Nat} {n lo hi p v q : Nat} (h : num t n lo hi p = .inr (v, q)) : (dgs t n 4 0 0 (sk t n p)).2.2 = q := by
  unfold num numX at h
  split at h
  · cases h
  · split at h
    · cases h
    · simp only [Sum.inr.injEq, Prod.mk.injEq] at h
      exact h.2

theorem d_Mo_thrown_0 : decode b_Mo_thrown 0 = .ok (.aload_n 0, 1) := by decide +kernel
theorem d_Mo_thrown_1 : decode b_Mo_thrown 1 = .ok (.getfield 51, 3) := by decide +kernel
theorem d_Mo_thrown_4 : decode b_Mo_thrown 4 = .ok (.ireturn, 1) := by decide +kernel
theorem d_Mo_in_0 : decode b_Mo_in 0 = .ok (.iload_n 0, 1) := by decide +kernel
theorem d_Mo_in_1 : decode b_Mo_in 1 = .ok (.iload_n 1, 1) := by decide +kernel
theorem d_Mo_in_2 : decode b_Mo_in 2 = .ok (.if_icmp .lt 12, 3) := by decide +kernel
theorem d_Mo_in_5 : decode b_Mo_in 5 = .ok (.iload_n 0, 1) := by decide +kernel
theorem d_Mo_in_6 : decode b_Mo_in 6 = .ok (.iload_n 2, 1) := by decide +kernel
theorem d_Mo_in_7 : decode b_Mo_in 7 = .ok (.if_icmp .gt 7, 3) := by decide +kernel
theorem d_Mo_in_10 : decode b_Mo_in 10 = .ok (.iconst 1, 1) := by decide +kernel
theorem d_Mo_in_11 : decode b_Mo_in 11 = .ok (.goto 4, 3) := by decide +kernel
theorem d_Mo_in_14 : decode b_Mo_in 14 = .ok (.iconst 0, 1) := by decide +kernel
theorem d_Mo_in_15 : decode b_Mo_in 15 = .ok (.ireturn, 1) := by decide +kernel
theorem d_Mo_here_0 : decode b_Mo_here 0 = .ok (.aload_n 0, 1) := by decide +kernel
theorem d_Mo_here_1 : decode b_Mo_here 1 = .ok (.getfield 61, 3) := by decide +kernel
theorem d_Mo_here_4 : decode b_Mo_here 4 = .ok (.aload_n 0, 1) := by decide +kernel
theorem d_Mo_here_5 : decode b_Mo_here 5 = .ok (.getfield 58, 3) := by decide +kernel
theorem d_Mo_here_8 : decode b_Mo_here 8 = .ok (.if_icmp .ge 15, 3) := by decide +kernel
theorem d_Mo_here_11 : decode b_Mo_here 11 = .ok (.aload_n 0, 1) := by decide +kernel
theorem d_Mo_here_12 : decode b_Mo_here 12 = .ok (.getfield 7, 3) := by decide +kernel
theorem d_Mo_here_15 : decode b_Mo_here 15 = .ok (.aload_n 0, 1) := by decide +kernel
theorem d_Mo_here_16 : decode b_Mo_here 16 = .ok (.getfield 61, 3) := by decide +kernel
theorem d_Mo_here_19 : decode b_Mo_here 19 = .ok (.iaload, 1) := by decide +kernel
theorem d_Mo_here_20 : decode b_Mo_here 20 = .ok (.goto 4, 3) := by decide +kernel
theorem d_Mo_here_23 : decode b_Mo_here 23 = .ok (.iconst (-1), 1) := by decide +kernel
theorem d_Mo_here_24 : decode b_Mo_here 24 = .ok (.ireturn, 1) := by decide +kernel
theorem d_Mo_see_0 : decode b_Mo_see 0 = .ok (.aload_n 0, 1) := by decide +kernel
theorem d_Mo_see_1 : decode b_Mo_see 1 = .ok (.invokevirtual 64, 3) := by decide +kernel
theorem d_Mo_see_4 : decode b_Mo_see 4 = .ok (.bipush 32, 2) := by decide +kernel
theorem d_Mo_see_6 : decode b_Mo_see 6 = .ok (.if_icmp .ne 16, 3) := by decide +kernel
theorem d_Mo_see_9 : decode b_Mo_see 9 = .ok (.aload_n 0, 1) := by decide +kernel
theorem d_Mo_see_10 : decode b_Mo_see 10 = .ok (.dup, 1) := by decide +kernel
theorem d_Mo_see_11 : decode b_Mo_see 11 = .ok (.getfield 61, 3) := by decide +kernel
theorem d_Mo_see_14 : decode b_Mo_see 14 = .ok (.iconst 1, 1) := by decide +kernel
theorem d_Mo_see_15 : decode b_Mo_see 15 = .ok (.iadd, 1) := by decide +kernel
theorem d_Mo_see_16 : decode b_Mo_see 16 = .ok (.putfield 61, 3) := by decide +kernel
theorem d_Mo_see_19 : decode b_Mo_see 19 = .ok (.goto (-19), 3) := by decide +kernel
theorem d_Mo_see_22 : decode b_Mo_see 22 = .ok (.aload_n 0, 1) := by decide +kernel
theorem d_Mo_see_23 : decode b_Mo_see 23 = .ok (.invokevirtual 64, 3) := by decide +kernel
theorem d_Mo_see_26 : decode b_Mo_see 26 = .ok (.ireturn, 1) := by decide +kernel
theorem d_Mo_fail_0 : decode b_Mo_fail 0 = .ok (.aload_n 0, 1) := by decide +kernel
theorem d_Mo_fail_1 : decode b_Mo_fail 1 = .ok (.getfield 68, 3) := by decide +kernel
theorem d_Mo_fail_4 : decode b_Mo_fail 4 = .ok (.ifCond .ge 8, 3) := by decide +kernel
theorem d_Mo_fail_7 : decode b_Mo_fail 7 = .ok (.aload_n 0, 1) := by decide +kernel
theorem d_Mo_fail_8 : decode b_Mo_fail 8 = .ok (.iload_n 1, 1) := by decide +kernel
theorem d_Mo_fail_9 : decode b_Mo_fail 9 = .ok (.putfield 68, 3) := by decide +kernel
theorem d_Mo_fail_12 : decode b_Mo_fail 12 = .ok (.return_, 1) := by decide +kernel
theorem d_Mo_take_0 : decode b_Mo_take 0 = .ok (.aload_n 0, 1) := by decide +kernel
theorem d_Mo_take_1 : decode b_Mo_take 1 = .ok (.getfield 68, 3) := by decide +kernel
theorem d_Mo_take_4 : decode b_Mo_take 4 = .ok (.ifCond .lt 4, 3) := by decide +kernel
theorem d_Mo_take_7 : decode b_Mo_take 7 = .ok (.return_, 1) := by decide +kernel
theorem d_Mo_take_8 : decode b_Mo_take 8 = .ok (.aload_n 0, 1) := by decide +kernel
theorem d_Mo_take_9 : decode b_Mo_take 9 = .ok (.invokevirtual 71, 3) := by decide +kernel
theorem d_Mo_take_12 : decode b_Mo_take 12 = .ok (.iload_n 1, 1) := by decide +kernel
theorem d_Mo_take_13 : decode b_Mo_take 13 = .ok (.if_icmp .eq 14, 3) := by decide +kernel
theorem d_Mo_take_16 : decode b_Mo_take 16 = .ok (.aload_n 0, 1) := by decide +kernel
theorem d_Mo_take_17 : decode b_Mo_take 17 = .ok (.aload_n 0, 1) := by decide +kernel
theorem d_Mo_take_18 : decode b_Mo_take 18 = .ok (.getfield 61, 3) := by decide +kernel
theorem d_Mo_take_21 : decode b_Mo_take 21 = .ok (.invokevirtual 74, 3) := by decide +kernel
theorem d_Mo_take_24 : decode b_Mo_take 24 = .ok (.goto 13, 3) := by decide +kernel
theorem d_Mo_take_27 : decode b_Mo_take 27 = .ok (.aload_n 0, 1) := by decide +kernel
theorem d_Mo_take_28 : decode b_Mo_take 28 = .ok (.dup, 1) := by decide +kernel
theorem d_Mo_take_29 : decode b_Mo_take 29 = .ok (.getfield 61, 3) := by decide +kernel
theorem d_Mo_take_32 : decode b_Mo_take 32 = .ok (.iconst 1, 1) := by decide +kernel
theorem d_Mo_take_33 : decode b_Mo_take 33 = .ok (.iadd, 1) := by decide +kernel
theorem d_Mo_take_34 : decode b_Mo_take 34 = .ok (.putfield 61, 3) := by decide +kernel
theorem d_Mo_take_37 : decode b_Mo_take 37 = .ok (.return_, 1) := by decide +kernel
theorem d_Mo_isNext_0 : decode b_Mo_isNext 0 = .ok (.aload_n 0, 1) := by decide +kernel
theorem d_Mo_isNext_1 : decode b_Mo_isNext 1 = .ok (.getfield 68, 3) := by decide +kernel
theorem d_Mo_isNext_4 : decode b_Mo_isNext 4 = .ok (.ifCond .ge 11, 3) := by decide +kernel
theorem d_Mo_isNext_7 : decode b_Mo_isNext 7 = .ok (.aload_n 0, 1) := by decide +kernel
theorem d_Mo_isNext_8 : decode b_Mo_isNext 8 = .ok (.invokevirtual 71, 3) := by decide +kernel
theorem d_Mo_isNext_11 : decode b_Mo_isNext 11 = .ok (.iload_n 1, 1) := by decide +kernel
theorem d_Mo_isNext_12 : decode b_Mo_isNext 12 = .ok (.if_icmp .eq 5, 3) := by decide +kernel
theorem d_Mo_isNext_15 : decode b_Mo_isNext 15 = .ok (.iconst 0, 1) := by decide +kernel
theorem d_Mo_isNext_16 : decode b_Mo_isNext 16 = .ok (.ireturn, 1) := by decide +kernel
theorem d_Mo_isNext_17 : decode b_Mo_isNext 17 = .ok (.aload_n 0, 1) := by decide +kernel
theorem d_Mo_isNext_18 : decode b_Mo_isNext 18 = .ok (.dup, 1) := by decide +kernel
theorem d_Mo_isNext_19 : decode b_Mo_isNext 19 = .ok (.getfield 61, 3) := by decide +kernel
theorem d_Mo_isNext_22 : decode b_Mo_isNext 22 = .ok (.iconst 1, 1) := by decide +kernel
theorem d_Mo_isNext_23 : decode b_Mo_isNext 23 = .ok (.iadd, 1) := by decide +kernel
theorem d_Mo_isNext_24 : decode b_Mo_isNext 24 = .ok (.putfield 61, 3) := by decide +kernel
theorem d_Mo_isNext_27 : decode b_Mo_isNext 27 = .ok (.iconst 1, 1) := by decide +kernel
theorem d_Mo_isNext_28 : decode b_Mo_isNext 28 = .ok (.ireturn, 1) := by decide +kernel
theorem d_Mo_isDigit_0 : decode b_Mo_isDigit 0 = .ok (.aload_n 0, 1) := by decide +kernel
theorem d_Mo_isDigit_1 : decode b_Mo_isDigit 1 = .ok (.invokevirtual 64, 3) := by decide +kernel
theorem d_Mo_isDigit_4 : decode b_Mo_isDigit 4 = .ok (.bipush 48, 2) := by decide +kernel
theorem d_Mo_isDigit_6 : decode b_Mo_isDigit 6 = .ok (.bipush 57, 2) := by decide +kernel
theorem d_Mo_isDigit_8 : decode b_Mo_isDigit 8 = .ok (.invokestatic 54, 3) := by decide +kernel
theorem d_Mo_isDigit_11 : decode b_Mo_isDigit 11 = .ok (.ireturn, 1) := by decide +kernel
theorem d_Mo_number_0 : decode b_Mo_number 0 = .ok (.aload_n 0, 1) := by decide +kernel
theorem d_Mo_number_1 : decode b_Mo_number 1 = .ok (.getfield 68, 3) := by decide +kernel
theorem d_Mo_number_4 : decode b_Mo_number 4 = .ok (.ifCond .lt 5, 3) := by decide +kernel
theorem d_Mo_number_7 : decode b_Mo_number 7 = .ok (.iload_n 1, 1) := by decide +kernel
theorem d_Mo_number_8 : decode b_Mo_number 8 = .ok (.ireturn, 1) := by decide +kernel
theorem d_Mo_number_9 : decode b_Mo_number 9 = .ok (.aload_n 0, 1) := by decide +kernel
theorem d_Mo_number_10 : decode b_Mo_number 10 = .ok (.invokevirtual 71, 3) := by decide +kernel
theorem d_Mo_number_13 : decode b_Mo_number 13 = .ok (.pop, 1) := by decide +kernel
theorem d_Mo_number_14 : decode b_Mo_number 14 = .ok (.aload_n 0, 1) := by decide +kernel
theorem d_Mo_number_15 : decode b_Mo_number 15 = .ok (.invokevirtual 78, 3) := by decide +kernel
theorem d_Mo_number_18 : decode b_Mo_number 18 = .ok (.ifCond .ne 11, 3) := by decide +kernel
theorem d_Mo_number_21 : decode b_Mo_number 21 = .ok (.aload_n 0, 1) := by decide +kernel
theorem d_Mo_number_22 : decode b_Mo_number 22 = .ok (.aload_n 0, 1) := by decide +kernel
theorem d_Mo_number_23 : decode b_Mo_number 23 = .ok (.getfield 61, 3) := by decide +kernel
theorem d_Mo_number_26 : decode b_Mo_number 26 = .ok (.invokevirtual 74, 3) := by decide +kernel
theorem d_Mo_number_29 : decode b_Mo_number 29 = .ok (.iconst 0, 1) := by decide +kernel
theorem d_Mo_number_30 : decode b_Mo_number 30 = .ok (.istore_n 3, 1) := by decide +kernel
theorem d_Mo_number_31 : decode b_Mo_number 31 = .ok (.iconst 0, 1) := by decide +kernel
theorem d_Mo_number_32 : decode b_Mo_number 32 = .ok (.istore 4, 2) := by decide +kernel
theorem d_Mo_number_34 : decode b_Mo_number 34 = .ok (.aload_n 0, 1) := by decide +kernel
theorem d_Mo_number_35 : decode b_Mo_number 35 = .ok (.getfield 68, 3) := by decide +kernel
theorem d_Mo_number_38 : decode b_Mo_number 38 = .ok (.ifCond .ge 54, 3) := by decide +kernel
theorem d_Mo_number_41 : decode b_Mo_number 41 = .ok (.aload_n 0, 1) := by decide +kernel
theorem d_Mo_number_42 : decode b_Mo_number 42 = .ok (.invokevirtual 78, 3) := by decide +kernel
theorem d_Mo_number_45 : decode b_Mo_number 45 = .ok (.ifCond .eq 47, 3) := by decide +kernel
theorem d_Mo_number_48 : decode b_Mo_number 48 = .ok (.iload 4, 2) := by decide +kernel
theorem d_Mo_number_50 : decode b_Mo_number 50 = .ok (.iconst 4, 1) := by decide +kernel
theorem d_Mo_number_51 : decode b_Mo_number 51 = .ok (.if_icmp .ge 41, 3) := by decide +kernel
theorem d_Mo_number_54 : decode b_Mo_number 54 = .ok (.iload 4, 2) := by decide +kernel
theorem d_Mo_number_56 : decode b_Mo_number 56 = .ok (.ifCond .eq 7, 3) := by decide +kernel
theorem d_Mo_number_59 : decode b_Mo_number 59 = .ok (.iload_n 3, 1) := by decide +kernel
theorem d_Mo_number_60 : decode b_Mo_number 60 = .ok (.ifCond .le 32, 3) := by decide +kernel
theorem d_Mo_number_63 : decode b_Mo_number 63 = .ok (.bipush 10, 2) := by decide +kernel
theorem d_Mo_number_65 : decode b_Mo_number 65 = .ok (.iload_n 3, 1) := by decide +kernel
theorem d_Mo_number_66 : decode b_Mo_number 66 = .ok (.imul, 1) := by decide +kernel
theorem d_Mo_number_67 : decode b_Mo_number 67 = .ok (.aload_n 0, 1) := by decide +kernel
theorem d_Mo_number_68 : decode b_Mo_number 68 = .ok (.invokevirtual 64, 3) := by decide +kernel
theorem d_Mo_number_71 : decode b_Mo_number 71 = .ok (.iadd, 1) := by decide +kernel
theorem d_Mo_number_72 : decode b_Mo_number 72 = .ok (.bipush 48, 2) := by decide +kernel
theorem d_Mo_number_74 : decode b_Mo_number 74 = .ok (.isub, 1) := by decide +kernel
theorem d_Mo_number_75 : decode b_Mo_number 75 = .ok (.istore_n 3, 1) := by decide +kernel
theorem d_Mo_number_76 : decode b_Mo_number 76 = .ok (.iinc 4 1, 3) := by decide +kernel
theorem d_Mo_number_79 : decode b_Mo_number 79 = .ok (.aload_n 0, 1) := by decide +kernel
theorem d_Mo_number_80 : decode b_Mo_number 80 = .ok (.dup, 1) := by decide +kernel
theorem d_Mo_number_81 : decode b_Mo_number 81 = .ok (.getfield 61, 3) := by decide +kernel
theorem d_Mo_number_84 : decode b_Mo_number 84 = .ok (.iconst 1, 1) := by decide +kernel
theorem d_Mo_number_85 : decode b_Mo_number 85 = .ok (.iadd, 1) := by decide +kernel
theorem d_Mo_number_86 : decode b_Mo_number 86 = .ok (.putfield 61, 3) := by decide +kernel
theorem d_Mo_number_89 : decode b_Mo_number 89 = .ok (.goto (-55), 3) := by decide +kernel
theorem d_Mo_number_92 : decode b_Mo_number 92 = .ok (.iload 4, 2) := by decide +kernel
theorem d_Mo_number_94 : decode b_Mo_number 94 = .ok (.iconst 4, 1) := by decide +kernel
theorem d_Mo_number_95 : decode b_Mo_number 95 = .ok (.if_icmp .ne 18, 3) := by decide +kernel
theorem d_Mo_number_98 : decode b_Mo_number 98 = .ok (.aload_n 0, 1) := by decide +kernel
theorem d_Mo_number_99 : decode b_Mo_number 99 = .ok (.invokevirtual 78, 3) := by decide +kernel
theorem d_Mo_number_102 : decode b_Mo_number 102 = .ok (.ifCond .eq 11, 3) := by decide +kernel
theorem d_Mo_number_105 : decode b_Mo_number 105 = .ok (.aload_n 0, 1) := by decide +kernel
theorem d_Mo_number_106 : decode b_Mo_number 106 = .ok (.aload_n 0, 1) := by decide +kernel
theorem d_Mo_number_107 : decode b_Mo_number 107 = .ok (.getfield 61, 3) := by decide +kernel
theorem d_Mo_number_110 : decode b_Mo_number 110 = .ok (.invokevirtual 74, 3) := by decide +kernel
theorem d_Mo_number_113 : decode b_Mo_number 113 = .ok (.iload_n 3, 1) := by decide +kernel
theorem d_Mo_number_114 : decode b_Mo_number 114 = .ok (.iload_n 1, 1) := by decide +kernel
theorem d_Mo_number_115 : decode b_Mo_number 115 = .ok (.iload_n 2, 1) := by decide +kernel
theorem d_Mo_number_116 : decode b_Mo_number 116 = .ok (.invokestatic 54, 3) := by decide +kernel
theorem d_Mo_number_119 : decode b_Mo_number 119 = .ok (.ifCond .ne 13, 3) := by decide +kernel
theorem d_Mo_number_122 : decode b_Mo_number 122 = .ok (.aload_n 0, 1) := by decide +kernel
theorem d_Mo_number_123 : decode b_Mo_number 123 = .ok (.aload_n 0, 1) := by decide +kernel
theorem d_Mo_number_124 : decode b_Mo_number 124 = .ok (.getfield 61, 3) := by decide +kernel
theorem d_Mo_number_127 : decode b_Mo_number 127 = .ok (.iconst 1, 1) := by decide +kernel
theorem d_Mo_number_128 : decode b_Mo_number 128 = .ok (.isub, 1) := by decide +kernel
theorem d_Mo_number_129 : decode b_Mo_number 129 = .ok (.invokevirtual 74, 3) := by decide +kernel
theorem d_Mo_number_132 : decode b_Mo_number 132 = .ok (.aload_n 0, 1) := by decide +kernel
theorem d_Mo_number_133 : decode b_Mo_number 133 = .ok (.getfield 68, 3) := by decide +kernel
theorem d_Mo_number_136 : decode b_Mo_number 136 = .ok (.ifCond .ge 7, 3) := by decide +kernel
theorem d_Mo_number_139 : decode b_Mo_number 139 = .ok (.iload_n 3, 1) := by decide +kernel
theorem d_Mo_number_140 : decode b_Mo_number 140 = .ok (.goto 4, 3) := by decide +kernel
theorem d_Mo_number_143 : decode b_Mo_number 143 = .ok (.iload_n 1, 1) := by decide +kernel
theorem d_Mo_number_144 : decode b_Mo_number 144 = .ok (.ireturn, 1) := by decide +kernel
theorem d_Mo_kindOf_0 : decode b_Mo_kindOf 0 = .ok (.iload_n 0, 1) := by decide +kernel
theorem d_Mo_kindOf_1 : decode b_Mo_kindOf 1 = .ok (.bipush 114, 2) := by decide +kernel
theorem d_Mo_kindOf_3 : decode b_Mo_kindOf 3 = .ok (.if_icmp .ne 7, 3) := by decide +kernel
theorem d_Mo_kindOf_6 : decode b_Mo_kindOf 6 = .ok (.iconst 0, 1) := by decide +kernel
theorem d_Mo_kindOf_7 : decode b_Mo_kindOf 7 = .ok (.goto 44, 3) := by decide +kernel
theorem d_Mo_kindOf_10 : decode b_Mo_kindOf 10 = .ok (.iload_n 0, 1) := by decide +kernel
theorem d_Mo_kindOf_11 : decode b_Mo_kindOf 11 = .ok (.bipush 98, 2) := by decide +kernel
theorem d_Mo_kindOf_13 : decode b_Mo_kindOf 13 = .ok (.if_icmp .ne 7, 3) := by decide +kernel
theorem d_Mo_kindOf_16 : decode b_Mo_kindOf 16 = .ok (.iconst 1, 1) := by decide +kernel
theorem d_Mo_kindOf_17 : decode b_Mo_kindOf 17 = .ok (.goto 34, 3) := by decide +kernel
theorem d_Mo_kindOf_20 : decode b_Mo_kindOf 20 = .ok (.iload_n 0, 1) := by decide +kernel
theorem d_Mo_kindOf_21 : decode b_Mo_kindOf 21 = .ok (.bipush 116, 2) := by decide +kernel
theorem d_Mo_kindOf_23 : decode b_Mo_kindOf 23 = .ok (.if_icmp .ne 7, 3) := by decide +kernel
theorem d_Mo_kindOf_26 : decode b_Mo_kindOf 26 = .ok (.iconst 2, 1) := by decide +kernel
theorem d_Mo_kindOf_27 : decode b_Mo_kindOf 27 = .ok (.goto 24, 3) := by decide +kernel
theorem d_Mo_kindOf_30 : decode b_Mo_kindOf 30 = .ok (.iload_n 0, 1) := by decide +kernel
theorem d_Mo_kindOf_31 : decode b_Mo_kindOf 31 = .ok (.bipush 102, 2) := by decide +kernel
theorem d_Mo_kindOf_33 : decode b_Mo_kindOf 33 = .ok (.if_icmp .ne 7, 3) := by decide +kernel
theorem d_Mo_kindOf_36 : decode b_Mo_kindOf 36 = .ok (.iconst 3, 1) := by decide +kernel
theorem d_Mo_kindOf_37 : decode b_Mo_kindOf 37 = .ok (.goto 14, 3) := by decide +kernel
theorem d_Mo_kindOf_40 : decode b_Mo_kindOf 40 = .ok (.iload_n 0, 1) := by decide +kernel
theorem d_Mo_kindOf_41 : decode b_Mo_kindOf 41 = .ok (.bipush 119, 2) := by decide +kernel
theorem d_Mo_kindOf_43 : decode b_Mo_kindOf 43 = .ok (.if_icmp .ne 7, 3) := by decide +kernel
theorem d_Mo_kindOf_46 : decode b_Mo_kindOf 46 = .ok (.iconst 4, 1) := by decide +kernel
theorem d_Mo_kindOf_47 : decode b_Mo_kindOf 47 = .ok (.goto 4, 3) := by decide +kernel
theorem d_Mo_kindOf_50 : decode b_Mo_kindOf 50 = .ok (.iconst (-1), 1) := by decide +kernel
theorem d_Mo_kindOf_51 : decode b_Mo_kindOf 51 = .ok (.ireturn, 1) := by decide +kernel

set_option maxHeartbeats 4000000 in
set_option maxRecDepth 100000 in
/-- thrown -/
theorem c_Mo_thrown (l : Launch) (G : Gx) (lo : Nat) (V : Vw) (sz : Nat) (m : Nat) (u1 u2 u3 u4 u5 u6 u7 u8 u9 u10 u11 u12 u13 u14 u15 u16 u17 u18 u19 u20 : Value) (hn : [m].Nodup) (th : Int32) : Met l y_Mo_thrown ws_Mo_thrown ({ frames := 0, cells := 0, slots := 0, locals := 0 } : Room) (vPre G lo [.ref m] (vU V [(m, eO 8 [.int th, u1, u2, u3, u4, u5, u6, u7, u8, u9, u10, u11, u12, u13, u14, u15, u16, u17, u18, u19, u20])]) sz) (vPost G lo (fun r V' k => r = some (.int th) ∧ V' = vU V [(m, eO 8 [.int th, u1, u2, u3, u4, u5, u6, u7, u8, u9, u10, u11, u12, u13, u14, u15, u16, u17, u18, u19, u20])] ∧ k = sz)) 0 0 (vL lo) := by
  refine vMet (R := RMo) (by decide) rfl (Nat.le_of_ble_eq_true rfl) ?_
  intro pg ev s mi args below meth cd hx hb hr hml hlk hnm hts hown hK hz hV ls hl
  have hl : lv_has ls 1 [(0, .ref m)] := hl
  have hV0 := hV
  obtain ⟨H, hH⟩ : ∃ H, H = s.heap := ⟨_, rfl⟩
  obtain ⟨locs, hlocs⟩ : ∃ locs : List Loc, locs = [] := ⟨_, rfl⟩
  rw [← hH, ← hlocs]
  rw [← hH] at hz
  replace hV : vS G.1 cls lo s H locs (vU V [(m, eO 8 [.int th, u1, u2, u3, u4, u5, u6, u7, u8, u9, u10, u11, u12, u13, u14, u15, u16, u17, u18, u19, u20])]) := by rw [hH, hlocs]; exact hV
  clear hH hlocs hV0
  refine lv_aload_n hx hb d_Mo_thrown_0 rfl (lv_at hl 0 rfl) ?_
  refine u_get hx hb hts inMo hown hK hV hn 0 rfl rfl 0 (by decide) w_fl_Mo_51 rfl rfl d_Mo_thrown_1 ?_
  exact W.iret (v := th) hx hb hr (v_end hV ⟨rfl, rfl, hz⟩) hV.2.1.2.2 d_Mo_thrown_4

set_option maxHeartbeats 4000000 in
set_option maxRecDepth 100000 in
/-- in -/
theorem c_Mo_in (l : Launch) (G : Gx) (lo : Nat) (V : Vw) (sz : Nat) (x a b : Int32) : Met l y_Mo_in ws_Mo_in ({ frames := 0, cells := 0, slots := 0, locals := 0 } : Room) (vPre G lo [.int x, .int a, .int b] (vU V []) sz) (vPost G lo (fun r V' k => r = some (.int (b2i (inI x a b))) ∧ V' = vU V [] ∧ k = sz)) 0 0 (vL lo) := by
  refine vMet (R := RMo) (by decide) rfl (Nat.le_of_ble_eq_true rfl) ?_
  intro pg ev s mi args below meth cd hx hb hr hml hlk hnm hts hown hK hz hV ls hl
  have hl : lv_has ls 3 [(0, .int x), (1, .int a), (2, .int b)] := hl
  have hV0 := hV
  obtain ⟨H, hH⟩ : ∃ H, H = s.heap := ⟨_, rfl⟩
  obtain ⟨locs, hlocs⟩ : ∃ locs : List Loc, locs = [] := ⟨_, rfl⟩
  rw [← hH, ← hlocs]
  rw [← hH] at hz
  replace hV : vS G.1 cls lo s H locs (vU V []) := by rw [hH, hlocs]; exact hV
  clear hH hlocs hV0
  refine lv_iload_n hx hb d_Mo_in_0 rfl (lv_at hl 0 rfl) ?_
  refine lv_iload_n hx hb d_Mo_in_1 rfl (lv_at hl 1 rfl) ?_
  refine lv_icmp_lt (tgt := 14) hx hb d_Mo_in_2 (by decide) (fun c_1 => ?_) (fun c_1 => ?_)
  · have hE : inI x a b = false := by simp only [inI, decide_eq_true c_1, Bool.not_true, Bool.false_and]
    refine lv_iconst (v := 0) hx hb d_Mo_in_14 (by decide) ?_
    exact W.zret (v := 0) hx hb hr (by decide) (v_end hV ⟨by rw [hE]; rfl, rfl, hz⟩) hV.2.1.2.2 d_Mo_in_15
  · refine lv_iload_n hx hb d_Mo_in_5 rfl (lv_at hl 0 rfl) ?_
    refine lv_iload_n hx hb d_Mo_in_6 rfl (lv_at hl 2 rfl) ?_
    refine lv_icmp_gt (tgt := 14) hx hb d_Mo_in_7 (by decide) (fun c_2 => ?_) (fun c_2 => ?_)
    · have hE : inI x a b = false := by simp only [inI, decide_eq_true c_2, Bool.not_true, Bool.and_false]
      refine lv_iconst (v := 0) hx hb d_Mo_in_14 (by decide) ?_
      exact W.zret (v := 0) hx hb hr (by decide) (v_end hV ⟨by rw [hE]; rfl, rfl, hz⟩) hV.2.1.2.2 d_Mo_in_15
    · have hE : inI x a b = true := by simp only [inI, decide_eq_false c_2, decide_eq_false c_1, Bool.not_false, Bool.and_self]
      refine lv_iconst (v := 1) hx hb d_Mo_in_10 (by decide) ?_
      refine lv_goto (tgt := 15) hx hb d_Mo_in_11 (by decide) ?_
      exact W.zret (v := 1) hx hb hr (by decide) (v_end hV ⟨by rw [hE]; rfl, rfl, hz⟩) hV.2.1.2.2 d_Mo_in_15

set_option maxHeartbeats 4000000 in
set_option maxRecDepth 100000 in
/-- here -/
theorem c_Mo_here (l : Launch) (G : Gx) (lo : Nat) (V : Vw) (sz : Nat) (m mt : Nat) (u0 u3 u4 u5 u6 u7 u8 u9 u10 u11 u12 u14 u15 u16 u17 u18 u19 u20 : Value) (g : Nat → Int32) (t : Nat → Nat) (n q : Nat) (hn : [m, mt].Nodup) (hT : mtOk g t n) (h4 : n ≤ 400) (hq4 : q ≤ 1000) : Met l y_Mo_here ws_Mo_here ({ frames := 0, cells := 0, slots := 0, locals := 0 } : Room) (vPre G lo [.ref m] (vU V [(m, eO 8 [u0, .int (nI n), .ref mt, u3, u4, u5, u6, u7, u8, u9, u10, u11, u12, .int (nI q), u14, u15, u16, u17, u18, u19, u20]), (mt, eI (gI G) 400 g)]) sz) (vPost G lo (fun r V' k => r = some (.int (rK t n q)) ∧ V' = vU V [(m, eO 8 [u0, .int (nI n), .ref mt, u3, u4, u5, u6, u7, u8, u9, u10, u11, u12, .int (nI q), u14, u15, u16, u17, u18, u19, u20]), (mt, eI (gI G) 400 g)] ∧ k = sz)) 0 0 (vL lo) := by
  refine vMet (R := RMo) (by decide) rfl (Nat.le_of_ble_eq_true rfl) ?_
  intro pg ev s mi args below meth cd hx hb hr hml hlk hnm hts hown hK hz hV ls hl
  have hl : lv_has ls 1 [(0, .ref m)] := hl
  have hV0 := hV
  obtain ⟨H, hH⟩ : ∃ H, H = s.heap := ⟨_, rfl⟩
  obtain ⟨locs, hlocs⟩ : ∃ locs : List Loc, locs = [] := ⟨_, rfl⟩
  rw [← hH, ← hlocs]
  rw [← hH] at hz
  replace hV : vS G.1 cls lo s H locs (vU V [(m, eO 8 [u0, .int (nI n), .ref mt, u3, u4, u5, u6, u7, u8, u9, u10, u11, u12, .int (nI q), u14, u15, u16, u17, u18, u19, u20]), (mt, eI (gI G) 400 g)]) := by rw [hH, hlocs]; exact hV
  clear hH hlocs hV0
  refine lv_aload_n hx hb d_Mo_here_0 rfl (lv_at hl 0 rfl) ?_
  refine u_get hx hb hts inMo hown hK hV hn 0 rfl rfl 13 (by decide) w_fl_Mo_61 rfl rfl d_Mo_here_1 ?_
  refine lv_aload_n hx hb d_Mo_here_4 rfl (lv_at hl 0 rfl) ?_
  refine u_get hx hb hts inMo hown hK hV hn 0 rfl rfl 1 (by decide) w_fl_Mo_58 rfl rfl d_Mo_here_5 ?_
  refine lv_icmp_ge (tgt := 23) hx hb d_Mo_here_8 (by decide) (fun c_1 => ?_) (fun c_1 => ?_)
  · replace c_1 : n ≤ q := (nI_leI (a := n) (b := q) (by omega) (by omega)).mp c_1
    refine lv_iconst (v := (-1)) hx hb d_Mo_here_23 (by decide) ?_
    exact W.iret (v := (-1)) hx hb hr (v_end hV ⟨by rw [rK_out (by omega)], rfl, hz⟩) hV.2.1.2.2 d_Mo_here_24
  · replace c_1 : ¬ n ≤ q := fun z9 => c_1 ((nI_leI (a := n) (b := q) (by omega) (by omega)).mpr z9)
    refine lv_aload_n hx hb d_Mo_here_11 rfl (lv_at hl 0 rfl) ?_
    refine u_get hx hb hts inMo hown hK hV hn 0 rfl rfl 2 (by decide) w_fl_Mo_7 rfl rfl d_Mo_here_12 ?_
    refine lv_aload_n hx hb d_Mo_here_15 rfl (lv_at hl 0 rfl) ?_
    refine u_get hx hb hts inMo hown hK hV hn 0 rfl rfl 13 (by decide) w_fl_Mo_61 rfl rfl d_Mo_here_16 ?_
    refine u_ialdN hx hb hK hV hn 1 rfl (by omega) (by decide) d_Mo_here_19 ?_
    rw [(hT q (by omega)).2]
    refine lv_goto (tgt := 24) hx hb d_Mo_here_20 (by decide) ?_
    exact W.iret (v := nI (t q)) hx hb hr (v_end hV ⟨by rw [rK_in (by omega)], rfl, hz⟩) hV.2.1.2.2 d_Mo_here_24

set_option maxHeartbeats 4000000 in
set_option maxRecDepth 100000 in
/-- see -/
theorem c_Mo_see (l : Launch) (G : Gx) (lo : Nat) (V : Vw) (sz : Nat) (m mt : Nat) (u0 u3 u4 u5 u6 u7 u8 u9 u10 u11 u12 u14 u15 u16 u17 u18 u19 u20 : Value) (g : Nat → Int32) (t : Nat → Nat) (n q : Nat) (hn : [m, mt].Nodup) (hT : mtOk g t n) (h4 : n ≤ 400) (hq4 : q ≤ 1000) : Met l y_Mo_see ws_Mo_see ({ frames := 1, cells := 0, slots := 0, locals := 20 } : Room) (vPre G lo [.ref m] (vU V [(m, eO 8 [u0, .int (nI n), .ref mt, u3, u4, u5, u6, u7, u8, u9, u10, u11, u12, .int (nI q), u14, u15, u16, u17, u18, u19, u20]), (mt, eI (gI G) 400 g)]) sz) (vPost G lo (fun r V' k => r = some (.int (rK t n (sk t n q))) ∧ V' = vU V [(m, eO 8 [u0, .int (nI n), .ref mt, u3, u4, u5, u6, u7, u8, u9, u10, u11, u12, .int (nI (sk t n q)), u14, u15, u16, u17, u18, u19, u20]), (mt, eI (gI G) 400 g)] ∧ k = sz)) 0 0 (vL lo) := by
  refine vMet (R := RMo) (by decide) rfl (Nat.le_of_ble_eq_true rfl) ?_
  intro pg ev s mi args below meth cd hx hb hr hml hlk hnm hts hown hK hz hV ls hl
  have hl : lv_has ls 1 [(0, .ref m)] := hl
  have hV0 := hV
  obtain ⟨H, hH⟩ : ∃ H, H = s.heap := ⟨_, rfl⟩
  obtain ⟨locs, hlocs⟩ : ∃ locs : List Loc, locs = [] := ⟨_, rfl⟩
  rw [← hH, ← hlocs]
  rw [← hH] at hz
  replace hV : vS G.1 cls lo s H locs (vU V [(m, eO 8 [u0, .int (nI n), .ref mt, u3, u4, u5, u6, u7, u8, u9, u10, u11, u12, .int (nI q), u14, u15, u16, u17, u18, u19, u20]), (mt, eI (gI G) 400 g)]) := by rw [hH, hlocs]; exact hV
  clear hH hlocs hV0
  have loop : ∀ (k : Nat) (z : Nat), (n - z) + 1 < k + 1 → (z ≤ 1000) → (sk t n z = sk t n q) → ∀ (H : Heap) (locs : List Loc) (ls : Array Slot), H.size = sz → vS G.1 cls lo s H locs (vU V [(m, eO 8 [u0, .int (nI n), .ref mt, u3, u4, u5, u6, u7, u8, u9, u10, u11, u12, .int (nI z), u14, u15, u16, u17, u18, u19, u20]), (mt, eI (gI G) 400 g)]) → lv_has ls 1 [(0, .ref m)] → W pg l ev ({ frames := 1, cells := 0, slots := 0, locals := 20 } : Room) s mi args below meth cd H locs 0 0 (MQ below (vPost G lo (fun r V' k => r = some (.int (rK t n (sk t n q))) ∧ V' = vU V [(m, eO 8 [u0, .int (nI n), .ref mt, u3, u4, u5, u6, u7, u8, u9, u10, u11, u12, .int (nI (sk t n q)), u14, u15, u16, u17, u18, u19, u20]), (mt, eI (gI G) 400 g)] ∧ k = sz)) args s 0 0 (vL lo)) (F0 mi 0 ls []) := by
    intro k
    induction k with
    | zero => intro z hk; exact absurd hk (by omega)
    | succ k ih =>
      intro z hk hz4 hzq H locs ls hz hV hl
      refine lv_aload_n hx hb d_Mo_see_0 rfl (lv_at hl 0 rfl) ?_
      refine v_call (va_runV (As := []) (rest := []) ⟨hx, hb, hml, hown, hts⟩ (c_Mo_here l G lo _ _ m mt u0 u3 u4 u5 u6 u7 u8 u9 u10 u11 u12 u14 u15 u16 u17 u18 u19 u20 g t n z hn hT h4 (by omega)) (kwV 0 hts w_co_Mo_here rfl rfl w_it_Mo w_ml_Mo_64 w_im_Mo_here w_se_Mo__Mo_here (by decide +kernel) ⟨(Nat.le_of_ble_eq_true rfl), (Nat.le_of_ble_eq_true rfl)⟩) (u_preV hK hV hn [0, 1] rfl hz 0 rfl rfl) rfl rfl hl.1 rfl (lv_room (Nat.le_of_ble_eq_true rfl)) d_Mo_see_1 ⟨(Nat.le_of_ble_eq_true rfl), (Nat.le_of_ble_eq_true rfl)⟩) hV (fun r9 V9 H locs hp hV hle => ?_)
      obtain ⟨rfl, rfl, hz⟩ := hp
      replace hV := uu_same hV hn [0, 1] rfl
      rcases Nat.lt_or_ge z n with l_1 | l_1
      · have kl_1 := (hT z l_1).1
        have hV : vS G.1 cls lo s H locs (vU V [(m, eO 8 [u0, .int (nI n), .ref mt, u3, u4, u5, u6, u7, u8, u9, u10, u11, u12, .int (nI z), u14, u15, u16, u17, u18, u19, u20]), (mt, eI (gI G) 400 g)]) := hV
        refine W.eq (g2 := F0 mi 4 ls [.int (nI (t z))]) (by rw [rK_in l_1]; rfl) ?_
        refine lv_bipush (v := 32) hx hb d_Mo_see_4 (by decide) ?_
        refine lv_icmp_ne (tgt := 22) hx hb d_Mo_see_6 (by decide) (fun c_2 => ?_) (fun c_2 => ?_)
        · replace c_2 : ¬ t z = 32 := fun z9 => c_2 ((nI_eq (a := t z) (b := 32) (by omega) (by omega)).mpr z9)
          have hs : sk t n z = z := sk_stop (by omega)
          refine lv_aload_n hx hb d_Mo_see_22 rfl (lv_at hl 0 rfl) ?_
          refine v_call (va_runV (As := []) (rest := []) ⟨hx, hb, hml, hown, hts⟩ (c_Mo_here l G lo _ _ m mt u0 u3 u4 u5 u6 u7 u8 u9 u10 u11 u12 u14 u15 u16 u17 u18 u19 u20 g t n z hn hT h4 (by omega)) (kwV 0 hts w_co_Mo_here rfl rfl w_it_Mo w_ml_Mo_64 w_im_Mo_here w_se_Mo__Mo_here (by decide +kernel) ⟨(Nat.le_of_ble_eq_true rfl), (Nat.le_of_ble_eq_true rfl)⟩) (u_preV hK hV hn [0, 1] rfl hz 0 rfl rfl) rfl rfl hl.1 rfl (lv_room (Nat.le_of_ble_eq_true rfl)) d_Mo_see_23 ⟨(Nat.le_of_ble_eq_true rfl), (Nat.le_of_ble_eq_true rfl)⟩) hV (fun r9 V9 H locs hp hV hle => ?_)
          obtain ⟨rfl, rfl, hz⟩ := hp
          replace hV := uu_same hV hn [0, 1] rfl
          have hV : vS G.1 cls lo s H locs (vU V [(m, eO 8 [u0, .int (nI n), .ref mt, u3, u4, u5, u6, u7, u8, u9, u10, u11, u12, .int (nI z), u14, u15, u16, u17, u18, u19, u20]), (mt, eI (gI G) 400 g)]) := hV
          refine W.eq (g2 := F0 mi 26 ls [.int (rK t n z)]) rfl ?_
          exact W.iret (v := rK t n z) hx hb hr (v_end hV ⟨by rw [← hzq, hs], by rw [← hzq, hs], hz⟩) hV.2.1.2.2 d_Mo_see_26
        · replace c_2 : t z = 32 := (nI_eq (a := t z) (b := 32) (by omega) (by omega)).mp c_2
          refine lv_aload_n hx hb d_Mo_see_9 rfl (lv_at hl 0 rfl) ?_
          refine lv_dup hx hb d_Mo_see_10 rfl ?_
          refine u_get hx hb hts inMo hown hK hV hn 0 rfl rfl 13 (by decide) w_fl_Mo_61 rfl rfl d_Mo_see_11 ?_
          refine lv_iconst (v := 1) hx hb d_Mo_see_14 (by decide) ?_
          refine e_iadd (v := nI (z + 1)) hx hb d_Mo_see_15 (nI_add z 1) ?_
          refine u_put hx hb hts inMo tyMo tyMo_ok nmMo hown hK hV hn 0 rfl rfl 13 (by decide) w_fl_Mo_61 rfl rfl rfl rfl (Nat.le_of_ble_eq_true rfl) d_Mo_see_16 (fun H locs hV hz9 => ?_)
          have hV : vS G.1 cls lo s H locs (vU V [(m, eO 8 [u0, .int (nI n), .ref mt, u3, u4, u5, u6, u7, u8, u9, u10, u11, u12, .int (nI (z + 1)), u14, u15, u16, u17, u18, u19, u20]), (mt, eI (gI G) 400 g)]) := hV
          replace hz := hz9.trans hz
          refine lv_goto (tgt := 0) hx hb d_Mo_see_19 (by decide) ?_
          exact ih (z + 1) (by omega) (by omega) (by rw [← hzq]; exact (sk_go (by omega) c_2).symm) H locs ls hz hV (lv_sub hl [0] rfl)
      · have hV : vS G.1 cls lo s H locs (vU V [(m, eO 8 [u0, .int (nI n), .ref mt, u3, u4, u5, u6, u7, u8, u9, u10, u11, u12, .int (nI z), u14, u15, u16, u17, u18, u19, u20]), (mt, eI (gI G) 400 g)]) := hV
        refine W.eq (g2 := F0 mi 4 ls [.int ((-1))]) (by rw [rK_out (by omega)]; rfl) ?_
        refine lv_bipush (v := 32) hx hb d_Mo_see_4 (by decide) ?_
        refine lv_icmp_ne (tgt := 22) hx hb d_Mo_see_6 (by decide) (fun _ => ?_) (fun c_3 => absurd c_3 (by decide))
        have hs : sk t n z = z := sk_stop (by omega)
        refine lv_aload_n hx hb d_Mo_see_22 rfl (lv_at hl 0 rfl) ?_
        refine v_call (va_runV (As := []) (rest := []) ⟨hx, hb, hml, hown, hts⟩ (c_Mo_here l G lo _ _ m mt u0 u3 u4 u5 u6 u7 u8 u9 u10 u11 u12 u14 u15 u16 u17 u18 u19 u20 g t n z hn hT h4 (by omega)) (kwV 0 hts w_co_Mo_here rfl rfl w_it_Mo w_ml_Mo_64 w_im_Mo_here w_se_Mo__Mo_here (by decide +kernel) ⟨(Nat.le_of_ble_eq_true rfl), (Nat.le_of_ble_eq_true rfl)⟩) (u_preV hK hV hn [0, 1] rfl hz 0 rfl rfl) rfl rfl hl.1 rfl (lv_room (Nat.le_of_ble_eq_true rfl)) d_Mo_see_23 ⟨(Nat.le_of_ble_eq_true rfl), (Nat.le_of_ble_eq_true rfl)⟩) hV (fun r9 V9 H locs hp hV hle => ?_)
        obtain ⟨rfl, rfl, hz⟩ := hp
        replace hV := uu_same hV hn [0, 1] rfl
        have hV : vS G.1 cls lo s H locs (vU V [(m, eO 8 [u0, .int (nI n), .ref mt, u3, u4, u5, u6, u7, u8, u9, u10, u11, u12, .int (nI z), u14, u15, u16, u17, u18, u19, u20]), (mt, eI (gI G) 400 g)]) := hV
        refine W.eq (g2 := F0 mi 26 ls [.int (rK t n z)]) rfl ?_
        exact W.iret (v := rK t n z) hx hb hr (v_end hV ⟨by rw [← hzq, hs], by rw [← hzq, hs], hz⟩) hV.2.1.2.2 d_Mo_see_26
  exact loop (n - q + 1) q (by omega) hq4 rfl H locs ls hz hV hl

set_option maxHeartbeats 4000000 in
set_option maxRecDepth 100000 in
/-- fail -/
theorem c_Mo_fail (l : Launch) (G : Gx) (lo : Nat) (V : Vw) (sz : Nat) (m : Nat) (u0 u1 u2 u3 u4 u5 u6 u7 u8 u9 u10 u11 u12 u13 u15 u16 u17 u18 u19 u20 : Value) (hn : [m].Nodup) (p : Int32) : Met l y_Mo_fail ws_Mo_fail ({ frames := 0, cells := 0, slots := 0, locals := 0 } : Room) (vPre G lo [.ref m, .int p] (vU V [(m, eO 8 [u0, u1, u2, u3, u4, u5, u6, u7, u8, u9, u10, u11, u12, u13, .int ((-1)), u15, u16, u17, u18, u19, u20])]) sz) (vPost G lo (fun r V' k => r = none ∧ V' = vU V [(m, eO 8 [u0, u1, u2, u3, u4, u5, u6, u7, u8, u9, u10, u11, u12, u13, .int p, u15, u16, u17, u18, u19, u20])] ∧ k = sz)) 0 0 (vL lo) := by
  refine vMet (R := RMo) (by decide) rfl (Nat.le_of_ble_eq_true rfl) ?_
  intro pg ev s mi args below meth cd hx hb hr hml hlk hnm hts hown hK hz hV ls hl
  have hl : lv_has ls 2 [(0, .ref m), (1, .int p)] := hl
  have hV0 := hV
  obtain ⟨H, hH⟩ : ∃ H, H = s.heap := ⟨_, rfl⟩
  obtain ⟨locs, hlocs⟩ : ∃ locs : List Loc, locs = [] := ⟨_, rfl⟩
  rw [← hH, ← hlocs]
  rw [← hH] at hz
  replace hV : vS G.1 cls lo s H locs (vU V [(m, eO 8 [u0, u1, u2, u3, u4, u5, u6, u7, u8, u9, u10, u11, u12, u13, .int ((-1)), u15, u16, u17, u18, u19, u20])]) := by rw [hH, hlocs]; exact hV
  clear hH hlocs hV0
  refine lv_aload_n hx hb d_Mo_fail_0 rfl (lv_at hl 0 rfl) ?_
  refine u_get hx hb hts inMo hown hK hV hn 0 rfl rfl 14 (by decide) w_fl_Mo_68 rfl rfl d_Mo_fail_1 ?_
  refine lv_if_ge (tgt := 12) hx hb d_Mo_fail_4 (by decide) (fun c_1 => absurd c_1 (by decide)) (fun _ => ?_)
  refine lv_aload_n hx hb d_Mo_fail_7 rfl (lv_at hl 0 rfl) ?_
  refine lv_iload_n hx hb d_Mo_fail_8 rfl (lv_at hl 1 rfl) ?_
  refine u_put hx hb hts inMo tyMo tyMo_ok nmMo hown hK hV hn 0 rfl rfl 14 (by decide) w_fl_Mo_68 rfl rfl rfl rfl (Nat.le_of_ble_eq_true rfl) d_Mo_fail_9 (fun H locs hV hz9 => ?_)
  have hV : vS G.1 cls lo s H locs (vU V [(m, eO 8 [u0, u1, u2, u3, u4, u5, u6, u7, u8, u9, u10, u11, u12, u13, .int p, u15, u16, u17, u18, u19, u20])]) := hV
  replace hz := hz9.trans hz
  exact W.vret hx hb hr (v_end hV ⟨rfl, rfl, hz⟩) hV.2.1.2.2 d_Mo_fail_12

set_option maxHeartbeats 4000000 in
set_option maxRecDepth 100000 in
/-- fail -/
theorem c_Mo_failB (l : Launch) (G : Gx) (lo : Nat) (V : Vw) (sz : Nat) (m : Nat) (u0 u1 u2 u3 u4 u5 u6 u7 u8 u9 u10 u11 u12 u13 u15 u16 u17 u18 u19 u20 : Value) (hn : [m].Nodup) (e : Nat) (he : e < 2 ^ 31) (p : Int32) : Met l y_Mo_fail ws_Mo_fail ({ frames := 0, cells := 0, slots := 0, locals := 0 } : Room) (vPre G lo [.ref m, .int p] (vU V [(m, eO 8 [u0, u1, u2, u3, u4, u5, u6, u7, u8, u9, u10, u11, u12, u13, .int (nI e), u15, u16, u17, u18, u19, u20])]) sz) (vPost G lo (fun r V' k => r = none ∧ V' = vU V [(m, eO 8 [u0, u1, u2, u3, u4, u5, u6, u7, u8, u9, u10, u11, u12, u13, .int (nI e), u15, u16, u17, u18, u19, u20])] ∧ k = sz)) 0 0 (vL lo) := by
  refine vMet (R := RMo) (by decide) rfl (Nat.le_of_ble_eq_true rfl) ?_
  intro pg ev s mi args below meth cd hx hb hr hml hlk hnm hts hown hK hz hV ls hl
  have hl : lv_has ls 2 [(0, .ref m), (1, .int p)] := hl
  have hV0 := hV
  obtain ⟨H, hH⟩ : ∃ H, H = s.heap := ⟨_, rfl⟩
  obtain ⟨locs, hlocs⟩ : ∃ locs : List Loc, locs = [] := ⟨_, rfl⟩
  rw [← hH, ← hlocs]
  rw [← hH] at hz
  replace hV : vS G.1 cls lo s H locs (vU V [(m, eO 8 [u0, u1, u2, u3, u4, u5, u6, u7, u8, u9, u10, u11, u12, u13, .int (nI e), u15, u16, u17, u18, u19, u20])]) := by rw [hH, hlocs]; exact hV
  clear hH hlocs hV0
  refine lv_aload_n hx hb d_Mo_fail_0 rfl (lv_at hl 0 rfl) ?_
  refine u_get hx hb hts inMo hown hK hV hn 0 rfl rfl 14 (by decide) w_fl_Mo_68 rfl rfl d_Mo_fail_1 ?_
  refine lv_if_ge (tgt := 12) hx hb d_Mo_fail_4 (by decide) (fun c_1 => ?_) (fun c_1 => absurd (nI_ge0 he) c_1)
  replace c_1 : 0 ≤ e := (nI_leI (a := 0) (b := e) (by omega) (by omega)).mp c_1
  exact W.vret hx hb hr (v_end hV ⟨rfl, rfl, hz⟩) hV.2.1.2.2 d_Mo_fail_12

set_option maxHeartbeats 4000000 in
set_option maxRecDepth 100000 in
/-- take, behind a fault -/
theorem c_Mo_takeB (l : Launch) (G : Gx) (lo : Nat) (V : Vw) (sz : Nat) (m : Nat) (u0 u1 u2 u3 u4 u5 u6 u7 u8 u9 u10 u11 u12 u13 u15 u16 u17 u18 u19 u20 : Value) (hn : [m].Nodup) (e : Nat) (he : e < 2 ^ 31) (p : Int32) : Met l y_Mo_take ws_Mo_take ({ frames := 0, cells := 0, slots := 0, locals := 0 } : Room) (vPre G lo [.ref m, .int p] (vU V [(m, eO 8 [u0, u1, u2, u3, u4, u5, u6, u7, u8, u9, u10, u11, u12, u13, .int (nI e), u15, u16, u17, u18, u19, u20])]) sz) (vPost G lo (fun r V' k => r = none ∧ V' = vU V [(m, eO 8 [u0, u1, u2, u3, u4, u5, u6, u7, u8, u9, u10, u11, u12, u13, .int (nI e), u15, u16, u17, u18, u19, u20])] ∧ k = sz)) 0 0 (vL lo) := by
  refine vMet (R := RMo) (by decide) rfl (Nat.le_of_ble_eq_true rfl) ?_
  intro pg ev s mi args below meth cd hx hb hr hml hlk hnm hts hown hK hz hV ls hl
  have hl : lv_has ls 2 [(0, .ref m), (1, .int p)] := hl
  have hV0 := hV
  obtain ⟨H, hH⟩ : ∃ H, H = s.heap := ⟨_, rfl⟩
  obtain ⟨locs, hlocs⟩ : ∃ locs : List Loc, locs = [] := ⟨_, rfl⟩
  rw [← hH, ← hlocs]
  rw [← hH] at hz
  replace hV : vS G.1 cls lo s H locs (vU V [(m, eO 8 [u0, u1, u2, u3, u4, u5, u6, u7, u8, u9, u10, u11, u12, u13, .int (nI e), u15, u16, u17, u18, u19, u20])]) := by rw [hH, hlocs]; exact hV
  clear hH hlocs hV0
  refine lv_aload_n hx hb d_Mo_take_0 rfl (lv_at hl 0 rfl) ?_
  refine u_get hx hb hts inMo hown hK hV hn 0 rfl rfl 14 (by decide) w_fl_Mo_68 rfl rfl d_Mo_take_1 ?_
  refine lv_if_lt (tgt := 8) hx hb d_Mo_take_4 (by decide) (fun c_1 => absurd c_1 (nI_nlt0 he)) (fun c_1 => ?_)
  replace c_1 : ¬ e < 0 := fun z9 => c_1 ((nI_ltI (a := e) (b := 0) (by omega) (by omega)).mpr z9)
  exact W.vret hx hb hr (v_end hV ⟨rfl, rfl, hz⟩) hV.2.1.2.2 d_Mo_take_7

set_option maxHeartbeats 4000000 in
set_option maxRecDepth 100000 in
/-- take -/
theorem c_Mo_take (l : Launch) (G : Gx) (lo : Nat) (V : Vw) (sz : Nat) (m mt : Nat) (u0 u3 u4 u5 u6 u7 u8 u9 u10 u11 u12 u15 u16 u17 u18 u19 u20 : Value) (g : Nat → Int32) (t : Nat → Nat) (n q : Nat) (hn : [m, mt].Nodup) (hT : mtOk g t n) (h4 : n ≤ 400) (hq4 : q ≤ 1000) (c : Nat) (hc : c < 128) : Met l y_Mo_take ws_Mo_take ({ frames := 2, cells := 0, slots := 0, locals := 40 } : Room) (vPre G lo [.ref m, .int (nI c)] (vU V [(m, eO 8 [u0, .int (nI n), .ref mt, u3, u4, u5, u6, u7, u8, u9, u10, u11, u12, .int (nI q), .int ((-1)), u15, u16, u17, u18, u19, u20]), (mt, eI (gI G) 400 g)]) sz) (vPost G lo (fun r V' k => r = none ∧ V' = vU V [(m, eO 8 [u0, .int (nI n), .ref mt, u3, u4, u5, u6, u7, u8, u9, u10, u11, u12, .int (nI (rQ (tk t n c q))), .int (wI (tk t n c q)), u15, u16, u17, u18, u19, u20]), (mt, eI (gI G) 400 g)] ∧ k = sz)) 0 0 (vL lo) := by
  refine vMet (R := RMo) (by decide) rfl (Nat.le_of_ble_eq_true rfl) ?_
  intro pg ev s mi args below meth cd hx hb hr hml hlk hnm hts hown hK hz hV ls hl
  have hl : lv_has ls 2 [(0, .ref m), (1, .int (nI c))] := hl
  have hV0 := hV
  obtain ⟨H, hH⟩ : ∃ H, H = s.heap := ⟨_, rfl⟩
  obtain ⟨locs, hlocs⟩ : ∃ locs : List Loc, locs = [] := ⟨_, rfl⟩
  rw [← hH, ← hlocs]
  rw [← hH] at hz
  replace hV : vS G.1 cls lo s H locs (vU V [(m, eO 8 [u0, .int (nI n), .ref mt, u3, u4, u5, u6, u7, u8, u9, u10, u11, u12, .int (nI q), .int ((-1)), u15, u16, u17, u18, u19, u20]), (mt, eI (gI G) 400 g)]) := by rw [hH, hlocs]; exact hV
  clear hH hlocs hV0
  refine lv_aload_n hx hb d_Mo_take_0 rfl (lv_at hl 0 rfl) ?_
  refine u_get hx hb hts inMo hown hK hV hn 0 rfl rfl 14 (by decide) w_fl_Mo_68 rfl rfl d_Mo_take_1 ?_
  refine lv_if_lt (tgt := 8) hx hb d_Mo_take_4 (by decide) (fun _ => ?_) (fun c_1 => absurd c_1 (by decide))
  refine lv_aload_n hx hb d_Mo_take_8 rfl (lv_at hl 0 rfl) ?_
  refine v_call (va_runV (As := []) (rest := []) ⟨hx, hb, hml, hown, hts⟩ (c_Mo_see l G lo _ _ m mt u0 u3 u4 u5 u6 u7 u8 u9 u10 u11 u12 (.int ((-1))) u15 u16 u17 u18 u19 u20 g t n q hn hT h4 (by omega)) (kwV 0 hts w_co_Mo_see rfl rfl w_it_Mo w_ml_Mo_71 w_im_Mo_see w_se_Mo__Mo_see (by decide +kernel) ⟨(Nat.le_of_ble_eq_true rfl), (Nat.le_of_ble_eq_true rfl)⟩) (u_preV hK hV hn [0, 1] rfl hz 0 rfl rfl) rfl rfl hl.1 rfl (lv_room (Nat.le_of_ble_eq_true rfl)) d_Mo_take_9 ⟨(Nat.le_of_ble_eq_true rfl), (Nat.le_of_ble_eq_true rfl)⟩) hV (fun r9 V9 H locs hp hV hle => ?_)
  obtain ⟨rfl, rfl, hz⟩ := hp
  replace hV := u_back hV hn [0, 1] rfl
  have hV : vS G.1 cls lo s H locs (vU V [(m, eO 8 [u0, .int (nI n), .ref mt, u3, u4, u5, u6, u7, u8, u9, u10, u11, u12, .int (nI (sk t n q)), .int ((-1)), u15, u16, u17, u18, u19, u20]), (mt, eI (gI G) 400 g)]) := hV
  obtain ⟨q_2, hq_2⟩ : ∃ z, sk t n q = z := ⟨_, rfl⟩
  rw [hq_2] at hV
  have gq_2 : q ≤ q_2 := by rw [← hq_2]; exact sk_ge t n q
  have bq_2 : q_2 ≤ n ∨ q_2 = q := by rw [← hq_2]; exact sk_le2 t n q
  rcases Nat.lt_or_ge q_2 n with l_3 | l_3
  · have kl_3 := (hT q_2 l_3).1
    have hV : vS G.1 cls lo s H locs (vU V [(m, eO 8 [u0, .int (nI n), .ref mt, u3, u4, u5, u6, u7, u8, u9, u10, u11, u12, .int (nI q_2), .int ((-1)), u15, u16, u17, u18, u19, u20]), (mt, eI (gI G) 400 g)]) := hV
    refine W.eq (g2 := F0 mi 12 ls [.int (nI (t q_2))]) (by rw [hq_2, rK_in l_3]; rfl) ?_
    refine lv_iload_n hx hb d_Mo_take_12 rfl (lv_at hl 1 rfl) ?_
    refine lv_icmp_eq (tgt := 27) hx hb d_Mo_take_13 (by decide) (fun c_4 => ?_) (fun c_4 => ?_)
    · replace c_4 : t q_2 = c := (nI_eq (a := t q_2) (b := c) (by omega) (by omega)).mp c_4
      have hE : tk t n c q = .inr (q_2 + 1) := by unfold tk; rw [hq_2, if_pos ⟨by omega, by omega⟩]
      refine lv_aload_n hx hb d_Mo_take_27 rfl (lv_at hl 0 rfl) ?_
      refine lv_dup hx hb d_Mo_take_28 rfl ?_
      refine u_get hx hb hts inMo hown hK hV hn 0 rfl rfl 13 (by decide) w_fl_Mo_61 rfl rfl d_Mo_take_29 ?_
      refine lv_iconst (v := 1) hx hb d_Mo_take_32 (by decide) ?_
      refine e_iadd (v := nI (q_2 + 1)) hx hb d_Mo_take_33 (nI_add q_2 1) ?_
      refine u_put hx hb hts inMo tyMo tyMo_ok nmMo hown hK hV hn 0 rfl rfl 13 (by decide) w_fl_Mo_61 rfl rfl rfl rfl (Nat.le_of_ble_eq_true rfl) d_Mo_take_34 (fun H locs hV hz9 => ?_)
      have hV : vS G.1 cls lo s H locs (vU V [(m, eO 8 [u0, .int (nI n), .ref mt, u3, u4, u5, u6, u7, u8, u9, u10, u11, u12, .int (nI (q_2 + 1)), .int ((-1)), u15, u16, u17, u18, u19, u20]), (mt, eI (gI G) 400 g)]) := hV
      replace hz := hz9.trans hz
      exact W.vret hx hb hr (v_end hV ⟨rfl, by rw [hE]; rfl, hz⟩) hV.2.1.2.2 d_Mo_take_37
    · replace c_4 : ¬ t q_2 = c := fun z9 => c_4 ((nI_eq (a := t q_2) (b := c) (by omega) (by omega)).mpr z9)
      have hE : tk t n c q = .inl q_2 := by unfold tk; rw [hq_2, if_neg (by omega)]
      refine lv_aload_n hx hb d_Mo_take_16 rfl (lv_at hl 0 rfl) ?_
      refine lv_aload_n hx hb d_Mo_take_17 rfl (lv_at hl 0 rfl) ?_
      refine u_get hx hb hts inMo hown hK hV hn 0 rfl rfl 13 (by decide) w_fl_Mo_61 rfl rfl d_Mo_take_18 ?_
      refine v_call (va_runV (As := [.int (nI q_2)]) (rest := []) ⟨hx, hb, hml, hown, hts⟩ (c_Mo_fail l G lo _ _ m u0 (.int (nI n)) (.ref mt) u3 u4 u5 u6 u7 u8 u9 u10 u11 u12 (.int (nI q_2)) u15 u16 u17 u18 u19 u20 (by simp) (nI q_2)) (kwV 1 hts w_co_Mo_fail rfl rfl w_it_Mo w_ml_Mo_74 w_im_Mo_fail w_se_Mo__Mo_fail (by decide +kernel) ⟨(Nat.le_of_ble_eq_true rfl), (Nat.le_of_ble_eq_true rfl)⟩) (u_preV hK hV hn [0] rfl hz 0 rfl rfl) rfl rfl hl.1 rfl (lv_room (Nat.le_of_ble_eq_true rfl)) d_Mo_take_21 ⟨(Nat.le_of_ble_eq_true rfl), (Nat.le_of_ble_eq_true rfl)⟩) hV (fun r9 V9 H locs hp hV hle => ?_)
      obtain ⟨rfl, rfl, hz⟩ := hp
      replace hV := u_back hV hn [0] rfl
      have hV : vS G.1 cls lo s H locs (vU V [(m, eO 8 [u0, .int (nI n), .ref mt, u3, u4, u5, u6, u7, u8, u9, u10, u11, u12, .int (nI q_2), .int (nI q_2), u15, u16, u17, u18, u19, u20]), (mt, eI (gI G) 400 g)]) := hV
      refine lv_goto (tgt := 37) hx hb d_Mo_take_24 (by decide) ?_
      exact W.vret hx hb hr (v_end hV ⟨rfl, by rw [hE]; rfl, hz⟩) hV.2.1.2.2 d_Mo_take_37
  · have hV : vS G.1 cls lo s H locs (vU V [(m, eO 8 [u0, .int (nI n), .ref mt, u3, u4, u5, u6, u7, u8, u9, u10, u11, u12, .int (nI q_2), .int ((-1)), u15, u16, u17, u18, u19, u20]), (mt, eI (gI G) 400 g)]) := hV
    refine W.eq (g2 := F0 mi 12 ls [.int ((-1))]) (by rw [hq_2, rK_out (by omega)]; rfl) ?_
    refine lv_iload_n hx hb d_Mo_take_12 rfl (lv_at hl 1 rfl) ?_
    refine lv_icmp_eq (tgt := 27) hx hb d_Mo_take_13 (by decide) (fun c_5 => absurd c_5.symm (nI_nem (by omega))) (fun _ => ?_)
    have hE : tk t n c q = .inl q_2 := by unfold tk; rw [hq_2, if_neg (by omega)]
    refine lv_aload_n hx hb d_Mo_take_16 rfl (lv_at hl 0 rfl) ?_
    refine lv_aload_n hx hb d_Mo_take_17 rfl (lv_at hl 0 rfl) ?_
    refine u_get hx hb hts inMo hown hK hV hn 0 rfl rfl 13 (by decide) w_fl_Mo_61 rfl rfl d_Mo_take_18 ?_
    refine v_call (va_runV (As := [.int (nI q_2)]) (rest := []) ⟨hx, hb, hml, hown, hts⟩ (c_Mo_fail l G lo _ _ m u0 (.int (nI n)) (.ref mt) u3 u4 u5 u6 u7 u8 u9 u10 u11 u12 (.int (nI q_2)) u15 u16 u17 u18 u19 u20 (by simp) (nI q_2)) (kwV 1 hts w_co_Mo_fail rfl rfl w_it_Mo w_ml_Mo_74 w_im_Mo_fail w_se_Mo__Mo_fail (by decide +kernel) ⟨(Nat.le_of_ble_eq_true rfl), (Nat.le_of_ble_eq_true rfl)⟩) (u_preV hK hV hn [0] rfl hz 0 rfl rfl) rfl rfl hl.1 rfl (lv_room (Nat.le_of_ble_eq_true rfl)) d_Mo_take_21 ⟨(Nat.le_of_ble_eq_true rfl), (Nat.le_of_ble_eq_true rfl)⟩) hV (fun r9 V9 H locs hp hV hle => ?_)
    obtain ⟨rfl, rfl, hz⟩ := hp
    replace hV := u_back hV hn [0] rfl
    have hV : vS G.1 cls lo s H locs (vU V [(m, eO 8 [u0, .int (nI n), .ref mt, u3, u4, u5, u6, u7, u8, u9, u10, u11, u12, .int (nI q_2), .int (nI q_2), u15, u16, u17, u18, u19, u20]), (mt, eI (gI G) 400 g)]) := hV
    refine lv_goto (tgt := 37) hx hb d_Mo_take_24 (by decide) ?_
    exact W.vret hx hb hr (v_end hV ⟨rfl, by rw [hE]; rfl, hz⟩) hV.2.1.2.2 d_Mo_take_37

set_option maxHeartbeats 4000000 in
set_option maxRecDepth 100000 in
/-- isNext, behind a fault -/
theorem c_Mo_isNextB (l : Launch) (G : Gx) (lo : Nat) (V : Vw) (sz : Nat) (m : Nat) (u0 u1 u2 u3 u4 u5 u6 u7 u8 u9 u10 u11 u12 u13 u15 u16 u17 u18 u19 u20 : Value) (hn : [m].Nodup) (e : Nat) (he : e < 2 ^ 31) (p : Int32) : Met l y_Mo_isNext ws_Mo_isNext ({ frames := 0, cells := 0, slots := 0, locals := 0 } : Room) (vPre G lo [.ref m, .int p] (vU V [(m, eO 8 [u0, u1, u2, u3, u4, u5, u6, u7, u8, u9, u10, u11, u12, u13, .int (nI e), u15, u16, u17, u18, u19, u20])]) sz) (vPost G lo (fun r V' k => r = some (.int 0) ∧ V' = vU V [(m, eO 8 [u0, u1, u2, u3, u4, u5, u6, u7, u8, u9, u10, u11, u12, u13, .int (nI e), u15, u16, u17, u18, u19, u20])] ∧ k = sz)) 0 0 (vL lo) := by
  refine vMet (R := RMo) (by decide) rfl (Nat.le_of_ble_eq_true rfl) ?_
  intro pg ev s mi args below meth cd hx hb hr hml hlk hnm hts hown hK hz hV ls hl
  have hl : lv_has ls 2 [(0, .ref m), (1, .int p)] := hl
  have hV0 := hV
  obtain ⟨H, hH⟩ : ∃ H, H = s.heap := ⟨_, rfl⟩
  obtain ⟨locs, hlocs⟩ : ∃ locs : List Loc, locs = [] := ⟨_, rfl⟩
  rw [← hH, ← hlocs]
  rw [← hH] at hz
  replace hV : vS G.1 cls lo s H locs (vU V [(m, eO 8 [u0, u1, u2, u3, u4, u5, u6, u7, u8, u9, u10, u11, u12, u13, .int (nI e), u15, u16, u17, u18, u19, u20])]) := by rw [hH, hlocs]; exact hV
  clear hH hlocs hV0
  refine lv_aload_n hx hb d_Mo_isNext_0 rfl (lv_at hl 0 rfl) ?_
  refine u_get hx hb hts inMo hown hK hV hn 0 rfl rfl 14 (by decide) w_fl_Mo_68 rfl rfl d_Mo_isNext_1 ?_
  refine lv_if_ge (tgt := 15) hx hb d_Mo_isNext_4 (by decide) (fun c_1 => ?_) (fun c_1 => absurd (nI_ge0 he) c_1)
  replace c_1 : 0 ≤ e := (nI_leI (a := 0) (b := e) (by omega) (by omega)).mp c_1
  refine lv_iconst (v := 0) hx hb d_Mo_isNext_15 (by decide) ?_
  exact W.zret (v := 0) hx hb hr (by decide) (v_end hV ⟨rfl, rfl, hz⟩) hV.2.1.2.2 d_Mo_isNext_16

set_option maxHeartbeats 4000000 in
set_option maxRecDepth 100000 in
/-- isNext -/
theorem c_Mo_isNext (l : Launch) (G : Gx) (lo : Nat) (V : Vw) (sz : Nat) (m mt : Nat) (u0 u3 u4 u5 u6 u7 u8 u9 u10 u11 u12 u15 u16 u17 u18 u19 u20 : Value) (g : Nat → Int32) (t : Nat → Nat) (n q : Nat) (hn : [m, mt].Nodup) (hT : mtOk g t n) (h4 : n ≤ 400) (hq4 : q ≤ 1000) (c : Nat) (hc : c < 128) : Met l y_Mo_isNext ws_Mo_isNext ({ frames := 2, cells := 0, slots := 0, locals := 40 } : Room) (vPre G lo [.ref m, .int (nI c)] (vU V [(m, eO 8 [u0, .int (nI n), .ref mt, u3, u4, u5, u6, u7, u8, u9, u10, u11, u12, .int (nI q), .int ((-1)), u15, u16, u17, u18, u19, u20]), (mt, eI (gI G) 400 g)]) sz) (vPost G lo (fun r V' k => r = some (.int (b2i (decide (sk t n q < n ∧ t (sk t n q) = c)))) ∧ V' = vU V [(m, eO 8 [u0, .int (nI n), .ref mt, u3, u4, u5, u6, u7, u8, u9, u10, u11, u12, .int (nI (if sk t n q < n ∧ t (sk t n q) = c then sk t n q + 1 else sk t n q)), .int ((-1)), u15, u16, u17, u18, u19, u20]), (mt, eI (gI G) 400 g)] ∧ k = sz)) 0 0 (vL lo) := by
  refine vMet (R := RMo) (by decide) rfl (Nat.le_of_ble_eq_true rfl) ?_
  intro pg ev s mi args below meth cd hx hb hr hml hlk hnm hts hown hK hz hV ls hl
  have hl : lv_has ls 2 [(0, .ref m), (1, .int (nI c))] := hl
  have hV0 := hV
  obtain ⟨H, hH⟩ : ∃ H, H = s.heap := ⟨_, rfl⟩
  obtain ⟨locs, hlocs⟩ : ∃ locs : List Loc, locs = [] := ⟨_, rfl⟩
  rw [← hH, ← hlocs]
  rw [← hH] at hz
  replace hV : vS G.1 cls lo s H locs (vU V [(m, eO 8 [u0, .int (nI n), .ref mt, u3, u4, u5, u6, u7, u8, u9, u10, u11, u12, .int (nI q), .int ((-1)), u15, u16, u17, u18, u19, u20]), (mt, eI (gI G) 400 g)]) := by rw [hH, hlocs]; exact hV
  clear hH hlocs hV0
  refine lv_aload_n hx hb d_Mo_isNext_0 rfl (lv_at hl 0 rfl) ?_
  refine u_get hx hb hts inMo hown hK hV hn 0 rfl rfl 14 (by decide) w_fl_Mo_68 rfl rfl d_Mo_isNext_1 ?_
  refine lv_if_ge (tgt := 15) hx hb d_Mo_isNext_4 (by decide) (fun c_1 => absurd c_1 (by decide)) (fun _ => ?_)
  refine lv_aload_n hx hb d_Mo_isNext_7 rfl (lv_at hl 0 rfl) ?_
  refine v_call (va_runV (As := []) (rest := []) ⟨hx, hb, hml, hown, hts⟩ (c_Mo_see l G lo _ _ m mt u0 u3 u4 u5 u6 u7 u8 u9 u10 u11 u12 (.int ((-1))) u15 u16 u17 u18 u19 u20 g t n q hn hT h4 (by omega)) (kwV 0 hts w_co_Mo_see rfl rfl w_it_Mo w_ml_Mo_71 w_im_Mo_see w_se_Mo__Mo_see (by decide +kernel) ⟨(Nat.le_of_ble_eq_true rfl), (Nat.le_of_ble_eq_true rfl)⟩) (u_preV hK hV hn [0, 1] rfl hz 0 rfl rfl) rfl rfl hl.1 rfl (lv_room (Nat.le_of_ble_eq_true rfl)) d_Mo_isNext_8 ⟨(Nat.le_of_ble_eq_true rfl), (Nat.le_of_ble_eq_true rfl)⟩) hV (fun r9 V9 H locs hp hV hle => ?_)
  obtain ⟨rfl, rfl, hz⟩ := hp
  replace hV := u_back hV hn [0, 1] rfl
  have hV : vS G.1 cls lo s H locs (vU V [(m, eO 8 [u0, .int (nI n), .ref mt, u3, u4, u5, u6, u7, u8, u9, u10, u11, u12, .int (nI (sk t n q)), .int ((-1)), u15, u16, u17, u18, u19, u20]), (mt, eI (gI G) 400 g)]) := hV
  obtain ⟨q_2, hq_2⟩ : ∃ z, sk t n q = z := ⟨_, rfl⟩
  rw [hq_2] at hV
  have gq_2 : q ≤ q_2 := by rw [← hq_2]; exact sk_ge t n q
  have bq_2 : q_2 ≤ n ∨ q_2 = q := by rw [← hq_2]; exact sk_le2 t n q
  rcases Nat.lt_or_ge q_2 n with l_3 | l_3
  · have kl_3 := (hT q_2 l_3).1
    have hV : vS G.1 cls lo s H locs (vU V [(m, eO 8 [u0, .int (nI n), .ref mt, u3, u4, u5, u6, u7, u8, u9, u10, u11, u12, .int (nI q_2), .int ((-1)), u15, u16, u17, u18, u19, u20]), (mt, eI (gI G) 400 g)]) := hV
    refine W.eq (g2 := F0 mi 11 ls [.int (nI (t q_2))]) (by rw [hq_2, rK_in l_3]; rfl) ?_
    refine lv_iload_n hx hb d_Mo_isNext_11 rfl (lv_at hl 1 rfl) ?_
    refine lv_icmp_eq (tgt := 17) hx hb d_Mo_isNext_12 (by decide) (fun c_4 => ?_) (fun c_4 => ?_)
    · replace c_4 : t q_2 = c := (nI_eq (a := t q_2) (b := c) (by omega) (by omega)).mp c_4
      have hE : sk t n q < n ∧ t (sk t n q) = c := by rw [hq_2]; exact ⟨by omega, by omega⟩
      refine lv_aload_n hx hb d_Mo_isNext_17 rfl (lv_at hl 0 rfl) ?_
      refine lv_dup hx hb d_Mo_isNext_18 rfl ?_
      refine u_get hx hb hts inMo hown hK hV hn 0 rfl rfl 13 (by decide) w_fl_Mo_61 rfl rfl d_Mo_isNext_19 ?_
      refine lv_iconst (v := 1) hx hb d_Mo_isNext_22 (by decide) ?_
      refine e_iadd (v := nI (q_2 + 1)) hx hb d_Mo_isNext_23 (nI_add q_2 1) ?_
      refine u_put hx hb hts inMo tyMo tyMo_ok nmMo hown hK hV hn 0 rfl rfl 13 (by decide) w_fl_Mo_61 rfl rfl rfl rfl (Nat.le_of_ble_eq_true rfl) d_Mo_isNext_24 (fun H locs hV hz9 => ?_)
      have hV : vS G.1 cls lo s H locs (vU V [(m, eO 8 [u0, .int (nI n), .ref mt, u3, u4, u5, u6, u7, u8, u9, u10, u11, u12, .int (nI (q_2 + 1)), .int ((-1)), u15, u16, u17, u18, u19, u20]), (mt, eI (gI G) 400 g)]) := hV
      replace hz := hz9.trans hz
      refine lv_iconst (v := 1) hx hb d_Mo_isNext_27 (by decide) ?_
      exact W.zret (v := 1) hx hb hr (by decide) (v_end hV ⟨by rw [decide_eq_true hE]; rfl, by rw [if_pos hE, hq_2], hz⟩) hV.2.1.2.2 d_Mo_isNext_28
    · replace c_4 : ¬ t q_2 = c := fun z9 => c_4 ((nI_eq (a := t q_2) (b := c) (by omega) (by omega)).mpr z9)
      have hE : ¬ (sk t n q < n ∧ t (sk t n q) = c) := by rw [hq_2]; omega
      refine lv_iconst (v := 0) hx hb d_Mo_isNext_15 (by decide) ?_
      exact W.zret (v := 0) hx hb hr (by decide) (v_end hV ⟨by rw [decide_eq_false hE]; rfl, by rw [if_neg hE, hq_2], hz⟩) hV.2.1.2.2 d_Mo_isNext_16
  · have hV : vS G.1 cls lo s H locs (vU V [(m, eO 8 [u0, .int (nI n), .ref mt, u3, u4, u5, u6, u7, u8, u9, u10, u11, u12, .int (nI q_2), .int ((-1)), u15, u16, u17, u18, u19, u20]), (mt, eI (gI G) 400 g)]) := hV
    refine W.eq (g2 := F0 mi 11 ls [.int ((-1))]) (by rw [hq_2, rK_out (by omega)]; rfl) ?_
    refine lv_iload_n hx hb d_Mo_isNext_11 rfl (lv_at hl 1 rfl) ?_
    refine lv_icmp_eq (tgt := 17) hx hb d_Mo_isNext_12 (by decide) (fun c_5 => absurd c_5.symm (nI_nem (by omega))) (fun _ => ?_)
    have hE : ¬ (sk t n q < n ∧ t (sk t n q) = c) := by rw [hq_2]; omega
    refine lv_iconst (v := 0) hx hb d_Mo_isNext_15 (by decide) ?_
    exact W.zret (v := 0) hx hb hr (by decide) (v_end hV ⟨by rw [decide_eq_false hE]; rfl, by rw [if_neg hE, hq_2], hz⟩) hV.2.1.2.2 d_Mo_isNext_16

set_option maxHeartbeats 4000000 in
set_option maxRecDepth 100000 in
/-- isDigit -/
theorem c_Mo_isDigit (l : Launch) (G : Gx) (lo : Nat) (V : Vw) (sz : Nat) (m mt : Nat) (u0 u3 u4 u5 u6 u7 u8 u9 u10 u11 u12 u14 u15 u16 u17 u18 u19 u20 : Value) (g : Nat → Int32) (t : Nat → Nat) (n q : Nat) (hn : [m, mt].Nodup) (hT : mtOk g t n) (h4 : n ≤ 400) (hq4 : q ≤ 1000) : Met l y_Mo_isDigit ws_Mo_isDigit ({ frames := 1, cells := 0, slots := 0, locals := 25 } : Room) (vPre G lo [.ref m] (vU V [(m, eO 8 [u0, .int (nI n), .ref mt, u3, u4, u5, u6, u7, u8, u9, u10, u11, u12, .int (nI q), u14, u15, u16, u17, u18, u19, u20]), (mt, eI (gI G) 400 g)]) sz) (vPost G lo (fun r V' k => r = some (.int (b2i (isD t n q))) ∧ V' = vU V [(m, eO 8 [u0, .int (nI n), .ref mt, u3, u4, u5, u6, u7, u8, u9, u10, u11, u12, .int (nI q), u14, u15, u16, u17, u18, u19, u20]), (mt, eI (gI G) 400 g)] ∧ k = sz)) 0 0 (vL lo) := by
  refine vMet (R := RMo) (by decide) rfl (Nat.le_of_ble_eq_true rfl) ?_
  intro pg ev s mi args below meth cd hx hb hr hml hlk hnm hts hown hK hz hV ls hl
  have hl : lv_has ls 1 [(0, .ref m)] := hl
  have hV0 := hV
  obtain ⟨H, hH⟩ : ∃ H, H = s.heap := ⟨_, rfl⟩
  obtain ⟨locs, hlocs⟩ : ∃ locs : List Loc, locs = [] := ⟨_, rfl⟩
  rw [← hH, ← hlocs]
  rw [← hH] at hz
  replace hV : vS G.1 cls lo s H locs (vU V [(m, eO 8 [u0, .int (nI n), .ref mt, u3, u4, u5, u6, u7, u8, u9, u10, u11, u12, .int (nI q), u14, u15, u16, u17, u18, u19, u20]), (mt, eI (gI G) 400 g)]) := by rw [hH, hlocs]; exact hV
  clear hH hlocs hV0
  refine lv_aload_n hx hb d_Mo_isDigit_0 rfl (lv_at hl 0 rfl) ?_
  refine v_call (va_runV (As := []) (rest := []) ⟨hx, hb, hml, hown, hts⟩ (c_Mo_here l G lo _ _ m mt u0 u3 u4 u5 u6 u7 u8 u9 u10 u11 u12 u14 u15 u16 u17 u18 u19 u20 g t n q hn hT h4 (by omega)) (kwV 0 hts w_co_Mo_here rfl rfl w_it_Mo w_ml_Mo_64 w_im_Mo_here w_se_Mo__Mo_here (by decide +kernel) ⟨(Nat.le_of_ble_eq_true rfl), (Nat.le_of_ble_eq_true rfl)⟩) (u_preV hK hV hn [0, 1] rfl hz 0 rfl rfl) rfl rfl hl.1 rfl (lv_room (Nat.le_of_ble_eq_true rfl)) d_Mo_isDigit_1 ⟨(Nat.le_of_ble_eq_true rfl), (Nat.le_of_ble_eq_true rfl)⟩) hV (fun r9 V9 H locs hp hV hle => ?_)
  obtain ⟨rfl, rfl, hz⟩ := hp
  replace hV := uu_same hV hn [0, 1] rfl
  have hV : vS G.1 cls lo s H locs (vU V [(m, eO 8 [u0, .int (nI n), .ref mt, u3, u4, u5, u6, u7, u8, u9, u10, u11, u12, .int (nI q), u14, u15, u16, u17, u18, u19, u20]), (mt, eI (gI G) 400 g)]) := hV
  refine W.eq (g2 := F0 mi 4 ls [.int (rK t n q)]) rfl ?_
  refine lv_bipush (v := 48) hx hb d_Mo_isDigit_4 (by decide) ?_
  refine lv_bipush (v := 57) hx hb d_Mo_isDigit_6 (by decide) ?_
  refine v_call (va_runS (As := [.int (rK t n q), .int 48, .int 57]) (rest := []) ⟨hx, hb, hml, hown, hts⟩ (c_Mo_in l G lo _ _ (rK t n q) ((48 : Int32)) ((57 : Int32))) (kwS 3 hts w_co_Mo_in rfl rfl w_it_Mo w_ml_Mo_54 w_st_Mo_in (by decide +kernel) ⟨(Nat.le_of_ble_eq_true rfl), (Nat.le_of_ble_eq_true rfl)⟩) (u_preS hK hV hn [] rfl hz) rfl rfl hl.1 rfl (lv_room (Nat.le_of_ble_eq_true rfl)) d_Mo_isDigit_8 ⟨(Nat.le_of_ble_eq_true rfl), (Nat.le_of_ble_eq_true rfl)⟩) hV (fun r9 V9 H locs hp hV hle => ?_)
  obtain ⟨rfl, rfl, hz⟩ := hp
  replace hV := uu_same hV hn [] rfl
  rcases tf (inI (rK t n q) ((48 : Int32)) ((57 : Int32))) with d_1 | d_1
  · have hV : vS G.1 cls lo s H locs (vU V [(m, eO 8 [u0, .int (nI n), .ref mt, u3, u4, u5, u6, u7, u8, u9, u10, u11, u12, .int (nI q), u14, u15, u16, u17, u18, u19, u20]), (mt, eI (gI G) 400 g)]) := hV
    refine W.eq (g2 := F0 mi 11 ls [.int 1]) (by rw [d_1]; rfl) ?_
    exact W.zret (v := 1) hx hb hr (by decide) (v_end hV ⟨by rw [← inI_D (g := g) hT, d_1]; rfl, rfl, hz⟩) hV.2.1.2.2 d_Mo_isDigit_11
  · have hV : vS G.1 cls lo s H locs (vU V [(m, eO 8 [u0, .int (nI n), .ref mt, u3, u4, u5, u6, u7, u8, u9, u10, u11, u12, .int (nI q), u14, u15, u16, u17, u18, u19, u20]), (mt, eI (gI G) 400 g)]) := hV
    refine W.eq (g2 := F0 mi 11 ls [.int 0]) (by rw [d_1]; rfl) ?_
    exact W.zret (v := 0) hx hb hr (by decide) (v_end hV ⟨by rw [← inI_D (g := g) hT, d_1]; rfl, rfl, hz⟩) hV.2.1.2.2 d_Mo_isDigit_11

set_option maxHeartbeats 4000000 in
set_option maxRecDepth 100000 in
/-- number, behind a fault -/
theorem c_Mo_numberB (l : Launch) (G : Gx) (lo : Nat) (V : Vw) (sz : Nat) (m : Nat) (u0 u1 u2 u3 u4 u5 u6 u7 u8 u9 u10 u11 u12 u13 u15 u16 u17 u18 u19 u20 : Value) (hn : [m].Nodup) (e : Nat) (he : e < 2 ^ 31) (a b : Int32) : Met l y_Mo_number ws_Mo_number ({ frames := 0, cells := 0, slots := 0, locals := 0 } : Room) (vPre G lo [.ref m, .int a, .int b] (vU V [(m, eO 8 [u0, u1, u2, u3, u4, u5, u6, u7, u8, u9, u10, u11, u12, u13, .int (nI e), u15, u16, u17, u18, u19, u20])]) sz) (vPost G lo (fun r V' k => r = some (.int a) ∧ V' = vU V [(m, eO 8 [u0, u1, u2, u3, u4, u5, u6, u7, u8, u9, u10, u11, u12, u13, .int (nI e), u15, u16, u17, u18, u19, u20])] ∧ k = sz)) 0 0 (vL lo) := by
  refine vMet (R := RMo) (by decide) rfl (Nat.le_of_ble_eq_true rfl) ?_
  intro pg ev s mi args below meth cd hx hb hr hml hlk hnm hts hown hK hz hV ls hl
  have hl : lv_has ls 5 [(0, .ref m), (1, .int a), (2, .int b)] := hl
  have hV0 := hV
  obtain ⟨H, hH⟩ : ∃ H, H = s.heap := ⟨_, rfl⟩
  obtain ⟨locs, hlocs⟩ : ∃ locs : List Loc, locs = [] := ⟨_, rfl⟩
  rw [← hH, ← hlocs]
  rw [← hH] at hz
  replace hV : vS G.1 cls lo s H locs (vU V [(m, eO 8 [u0, u1, u2, u3, u4, u5, u6, u7, u8, u9, u10, u11, u12, u13, .int (nI e), u15, u16, u17, u18, u19, u20])]) := by rw [hH, hlocs]; exact hV
  clear hH hlocs hV0
  refine lv_aload_n hx hb d_Mo_number_0 rfl (lv_at hl 0 rfl) ?_
  refine u_get hx hb hts inMo hown hK hV hn 0 rfl rfl 14 (by decide) w_fl_Mo_68 rfl rfl d_Mo_number_1 ?_
  refine lv_if_lt (tgt := 9) hx hb d_Mo_number_4 (by decide) (fun c_1 => absurd c_1 (nI_nlt0 he)) (fun c_1 => ?_)
  replace c_1 : ¬ e < 0 := fun z9 => c_1 ((nI_ltI (a := e) (b := 0) (by omega) (by omega)).mpr z9)
  refine lv_iload_n hx hb d_Mo_number_7 rfl (lv_at hl 1 rfl) ?_
  exact W.iret (v := a) hx hb hr (v_end hV ⟨rfl, rfl, hz⟩) hV.2.1.2.2 d_Mo_number_8

set_option maxHeartbeats 4000000 in
set_option maxRecDepth 100000 in
/-- number -/
theorem c_Mo_number (l : Launch) (G : Gx) (lo : Nat) (V : Vw) (sz : Nat) (m mt : Nat) (u0 u3 u4 u5 u6 u7 u8 u9 u10 u11 u12 u15 u16 u17 u18 u19 u20 : Value) (g : Nat → Int32) (t : Nat → Nat) (n q : Nat) (hn : [m, mt].Nodup) (hT : mtOk g t n) (h4 : n ≤ 400) (hq4 : q ≤ 1000) (x y : Nat) (hx1 : x < 10000) (hy1 : y < 10000) : Met l y_Mo_number ws_Mo_number ({ frames := 2, cells := 0, slots := 0, locals := 50 } : Room) (vPre G lo [.ref m, .int (nI x), .int (nI y)] (vU V [(m, eO 8 [u0, .int (nI n), .ref mt, u3, u4, u5, u6, u7, u8, u9, u10, u11, u12, .int (nI q), .int ((-1)), u15, u16, u17, u18, u19, u20]), (mt, eI (gI G) 400 g)]) sz) (vPost G lo (fun r V' k => r = some (.int (nI (rA x (num t n x y q)))) ∧ V' = vU V [(m, eO 8 [u0, .int (nI n), .ref mt, u3, u4, u5, u6, u7, u8, u9, u10, u11, u12, .int (nI ((dgs t n 4 0 0 (sk t n q)).2.2)), .int (wI (num t n x y q)), u15, u16, u17, u18, u19, u20]), (mt, eI (gI G) 400 g)] ∧ k = sz)) 0 0 (vL lo) := by
  refine vMet (R := RMo) (by decide) rfl (Nat.le_of_ble_eq_true rfl) ?_
  intro pg ev s mi args below meth cd hx hb hr hml hlk hnm hts hown hK hz hV ls hl
  have hl : lv_has ls 5 [(0, .ref m), (1, .int (nI x)), (2, .int (nI y))] := hl
  have hV0 := hV
  obtain ⟨H, hH⟩ : ∃ H, H = s.heap := ⟨_, rfl⟩
  obtain ⟨locs, hlocs⟩ : ∃ locs : List Loc, locs = [] := ⟨_, rfl⟩
  rw [← hH, ← hlocs]
  rw [← hH] at hz
  replace hV : vS G.1 cls lo s H locs (vU V [(m, eO 8 [u0, .int (nI n), .ref mt, u3, u4, u5, u6, u7, u8, u9, u10, u11, u12, .int (nI q), .int ((-1)), u15, u16, u17, u18, u19, u20]), (mt, eI (gI G) 400 g)]) := by rw [hH, hlocs]; exact hV
  clear hH hlocs hV0
  refine lv_aload_n hx hb d_Mo_number_0 rfl (lv_at hl 0 rfl) ?_
  refine u_get hx hb hts inMo hown hK hV hn 0 rfl rfl 14 (by decide) w_fl_Mo_68 rfl rfl d_Mo_number_1 ?_
  refine lv_if_lt (tgt := 9) hx hb d_Mo_number_4 (by decide) (fun _ => ?_) (fun c_1 => absurd c_1 (by decide))
  refine lv_aload_n hx hb d_Mo_number_9 rfl (lv_at hl 0 rfl) ?_
  refine v_call (va_runV (As := []) (rest := []) ⟨hx, hb, hml, hown, hts⟩ (c_Mo_see l G lo _ _ m mt u0 u3 u4 u5 u6 u7 u8 u9 u10 u11 u12 (.int ((-1))) u15 u16 u17 u18 u19 u20 g t n q hn hT h4 (by omega)) (kwV 0 hts w_co_Mo_see rfl rfl w_it_Mo w_ml_Mo_71 w_im_Mo_see w_se_Mo__Mo_see (by decide +kernel) ⟨(Nat.le_of_ble_eq_true rfl), (Nat.le_of_ble_eq_true rfl)⟩) (u_preV hK hV hn [0, 1] rfl hz 0 rfl rfl) rfl rfl hl.1 rfl (lv_room (Nat.le_of_ble_eq_true rfl)) d_Mo_number_10 ⟨(Nat.le_of_ble_eq_true rfl), (Nat.le_of_ble_eq_true rfl)⟩) hV (fun r9 V9 H locs hp hV hle => ?_)
  obtain ⟨rfl, rfl, hz⟩ := hp
  replace hV := u_back hV hn [0, 1] rfl
  have hV : vS G.1 cls lo s H locs (vU V [(m, eO 8 [u0, .int (nI n), .ref mt, u3, u4, u5, u6, u7, u8, u9, u10, u11, u12, .int (nI (sk t n q)), .int ((-1)), u15, u16, u17, u18, u19, u20]), (mt, eI (gI G) 400 g)]) := hV
  obtain ⟨q_2, hq_2⟩ : ∃ z, sk t n q = z := ⟨_, rfl⟩
  rw [hq_2] at hV
  have gq_2 : q ≤ q_2 := by rw [← hq_2]; exact sk_ge t n q
  have bq_2 : q_2 ≤ n ∨ q_2 = q := by rw [← hq_2]; exact sk_le2 t n q
  have hV : vS G.1 cls lo s H locs (vU V [(m, eO 8 [u0, .int (nI n), .ref mt, u3, u4, u5, u6, u7, u8, u9, u10, u11, u12, .int (nI q_2), .int ((-1)), u15, u16, u17, u18, u19, u20]), (mt, eI (gI G) 400 g)]) := hV
  refine W.eq (g2 := F0 mi 13 ls [.int (rK t n (sk t n q))]) rfl ?_
  refine lv_pop hx hb d_Mo_number_13 rfl ?_
  refine lv_aload_n hx hb d_Mo_number_14 rfl (lv_at hl 0 rfl) ?_
  refine v_call (va_runV (As := []) (rest := []) ⟨hx, hb, hml, hown, hts⟩ (c_Mo_isDigit l G lo _ _ m mt u0 u3 u4 u5 u6 u7 u8 u9 u10 u11 u12 (.int ((-1))) u15 u16 u17 u18 u19 u20 g t n q_2 hn hT h4 (by omega)) (kwV 0 hts w_co_Mo_isDigit rfl rfl w_it_Mo w_ml_Mo_78 w_im_Mo_isDigit w_se_Mo__Mo_isDigit (by decide +kernel) ⟨(Nat.le_of_ble_eq_true rfl), (Nat.le_of_ble_eq_true rfl)⟩) (u_preV hK hV hn [0, 1] rfl hz 0 rfl rfl) rfl rfl hl.1 rfl (lv_room (Nat.le_of_ble_eq_true rfl)) d_Mo_number_15 ⟨(Nat.le_of_ble_eq_true rfl), (Nat.le_of_ble_eq_true rfl)⟩) hV (fun r9 V9 H locs hp hV hle => ?_)
  obtain ⟨rfl, rfl, hz⟩ := hp
  replace hV := uu_same hV hn [0, 1] rfl
  rcases tf (isD t n q_2) with d_4 | d_4
  · have hdg := d_4
    have hV : vS G.1 cls lo s H locs (vU V [(m, eO 8 [u0, .int (nI n), .ref mt, u3, u4, u5, u6, u7, u8, u9, u10, u11, u12, .int (nI q_2), .int ((-1)), u15, u16, u17, u18, u19, u20]), (mt, eI (gI G) 400 g)]) := hV
    refine W.eq (g2 := F0 mi 18 ls [.int 1]) (by rw [d_4]; rfl) ?_
    refine lv_if_ne (tgt := 29) hx hb d_Mo_number_18 (by decide) (fun _ => ?_) (fun c_5 => absurd c_5 (by decide))
    refine lv_iconst (v := 0) hx hb d_Mo_number_29 (by decide) ?_
    refine lv_istore_n (lv' := [(3, .int 0), (0, .ref m), (1, .int (nI x)), (2, .int (nI y))]) hx hb d_Mo_number_30 rfl hl (by decide) rfl (fun ls hl => ?_)
    refine lv_iconst (v := 0) hx hb d_Mo_number_31 (by decide) ?_
    refine lv_istore (lv' := [(4, .int 0), (3, .int 0), (0, .ref m), (1, .int (nI x)), (2, .int (nI y))]) hx hb d_Mo_number_32 hl (by decide) rfl (fun ls hl => ?_)
    have fin : ∀ (v d r : Nat), (v ≤ 9999) → (1 ≤ d) → (d ≤ 4) → (r ≤ n) → (r = q_2 + d) → (dgs t n 4 0 0 (sk t n q) = (v, d, r)) → ∀ (H : Heap) (locs : List Loc) (ls : Array Slot), H.size = sz → vS G.1 cls lo s H locs (vU V [(m, eO 8 [u0, .int (nI n), .ref mt, u3, u4, u5, u6, u7, u8, u9, u10, u11, u12, .int (nI r), .int ((-1)), u15, u16, u17, u18, u19, u20]), (mt, eI (gI G) 400 g)]) → lv_has ls 5 [(0, .ref m), (1, .int (nI x)), (2, .int (nI y)), (3, .int (nI v)), (4, .int (nI d))] → W pg l ev ({ frames := 2, cells := 0, slots := 0, locals := 50 } : Room) s mi args below meth cd H locs 0 0 (MQ below (vPost G lo (fun r V' k => r = some (.int (nI (rA x (num t n x y q)))) ∧ V' = vU V [(m, eO 8 [u0, .int (nI n), .ref mt, u3, u4, u5, u6, u7, u8, u9, u10, u11, u12, .int (nI ((dgs t n 4 0 0 (sk t n q)).2.2)), .int (wI (num t n x y q)), u15, u16, u17, u18, u19, u20]), (mt, eI (gI G) 400 g)] ∧ k = sz)) args s 0 0 (vL lo)) (F0 mi 92 ls []) := by
      intro v d r  hv hd1 hd4 hr1 hr2 hX H locs ls hz hV hl
      refine lv_iload hx hb d_Mo_number_92 (lv_at hl 4 rfl) ?_
      refine lv_iconst (v := 4) hx hb d_Mo_number_94 (by decide) ?_
      refine lv_icmp_ne (tgt := 113) hx hb d_Mo_number_95 (by decide) (fun c_6 => ?_) (fun c_6 => ?_)
      · replace c_6 : ¬ d = 4 := fun z9 => c_6 ((nI_eq (a := d) (b := 4) (by omega) (by omega)).mpr z9)
        have hB : ¬ (d = 0 ∨ (d = 4 ∧ isD t n r = true)) := by rintro (z | ⟨z, -⟩) <;> omega
        refine lv_iload_n hx hb d_Mo_number_113 rfl (lv_at hl 3 rfl) ?_
        refine lv_iload_n hx hb d_Mo_number_114 rfl (lv_at hl 1 rfl) ?_
        refine lv_iload_n hx hb d_Mo_number_115 rfl (lv_at hl 2 rfl) ?_
        refine v_call (va_runS (As := [.int (nI v), .int (nI x), .int (nI y)]) (rest := []) ⟨hx, hb, hml, hown, hts⟩ (c_Mo_in l G lo _ _ (nI v) (nI x) (nI y)) (kwS 3 hts w_co_Mo_in rfl rfl w_it_Mo w_ml_Mo_54 w_st_Mo_in (by decide +kernel) ⟨(Nat.le_of_ble_eq_true rfl), (Nat.le_of_ble_eq_true rfl)⟩) (u_preS hK hV hn [] rfl hz) rfl rfl hl.1 rfl (lv_room (Nat.le_of_ble_eq_true rfl)) d_Mo_number_116 ⟨(Nat.le_of_ble_eq_true rfl), (Nat.le_of_ble_eq_true rfl)⟩) hV (fun r9 V9 H locs hp hV hle => ?_)
        obtain ⟨rfl, rfl, hz⟩ := hp
        replace hV := uu_same hV hn [] rfl
        rcases tf (inI (nI v) (nI x) (nI y)) with d_7 | d_7
        · have hv2 : x ≤ v ∧ v ≤ y := of_decide_eq_true ((inI_N (by omega) (by omega) (by omega)).symm.trans d_7)
          have hE : num t n x y q = .inr (v, r) := num_in hX hB (by omega)
          have hV : vS G.1 cls lo s H locs (vU V [(m, eO 8 [u0, .int (nI n), .ref mt, u3, u4, u5, u6, u7, u8, u9, u10, u11, u12, .int (nI r), .int ((-1)), u15, u16, u17, u18, u19, u20]), (mt, eI (gI G) 400 g)]) := hV
          refine W.eq (g2 := F0 mi 119 ls [.int 1]) (by rw [d_7]; rfl) ?_
          refine lv_if_ne (tgt := 132) hx hb d_Mo_number_119 (by decide) (fun _ => ?_) (fun c_8 => absurd c_8 (by decide))
          refine lv_aload_n hx hb d_Mo_number_132 rfl (lv_at hl 0 rfl) ?_
          refine u_get hx hb hts inMo hown hK hV hn 0 rfl rfl 14 (by decide) w_fl_Mo_68 rfl rfl d_Mo_number_133 ?_
          refine lv_if_ge (tgt := 143) hx hb d_Mo_number_136 (by decide) (fun c_9 => absurd c_9 (by decide)) (fun _ => ?_)
          refine lv_iload_n hx hb d_Mo_number_139 rfl (lv_at hl 3 rfl) ?_
          refine lv_goto (tgt := 144) hx hb d_Mo_number_140 (by decide) ?_
          exact W.iret (v := nI v) hx hb hr (v_end hV ⟨by rw [hE]; rfl, by rw [hE, hX]; rfl, hz⟩) hV.2.1.2.2 d_Mo_number_144
        · have hv2 : ¬ (x ≤ v ∧ v ≤ y) := of_decide_eq_false ((inI_N (by omega) (by omega) (by omega)).symm.trans d_7)
          have hE : num t n x y q = .inl (r - 1) := num_out hX hB (by omega)
          have hV : vS G.1 cls lo s H locs (vU V [(m, eO 8 [u0, .int (nI n), .ref mt, u3, u4, u5, u6, u7, u8, u9, u10, u11, u12, .int (nI r), .int ((-1)), u15, u16, u17, u18, u19, u20]), (mt, eI (gI G) 400 g)]) := hV
          refine W.eq (g2 := F0 mi 119 ls [.int 0]) (by rw [d_7]; rfl) ?_
          refine lv_if_ne (tgt := 132) hx hb d_Mo_number_119 (by decide) (fun c_10 => absurd c_10 (by decide)) (fun _ => ?_)
          refine lv_aload_n hx hb d_Mo_number_122 rfl (lv_at hl 0 rfl) ?_
          refine lv_aload_n hx hb d_Mo_number_123 rfl (lv_at hl 0 rfl) ?_
          refine u_get hx hb hts inMo hown hK hV hn 0 rfl rfl 13 (by decide) w_fl_Mo_61 rfl rfl d_Mo_number_124 ?_
          refine lv_iconst (v := 1) hx hb d_Mo_number_127 (by decide) ?_
          refine e_isub (v := nI (r - 1)) hx hb d_Mo_number_128 (pk_sub (a := r) (b := 1) (by omega)) ?_
          refine v_call (va_runV (As := [.int (nI (r - 1))]) (rest := []) ⟨hx, hb, hml, hown, hts⟩ (c_Mo_fail l G lo _ _ m u0 (.int (nI n)) (.ref mt) u3 u4 u5 u6 u7 u8 u9 u10 u11 u12 (.int (nI r)) u15 u16 u17 u18 u19 u20 (by simp) (nI (r - 1))) (kwV 1 hts w_co_Mo_fail rfl rfl w_it_Mo w_ml_Mo_74 w_im_Mo_fail w_se_Mo__Mo_fail (by decide +kernel) ⟨(Nat.le_of_ble_eq_true rfl), (Nat.le_of_ble_eq_true rfl)⟩) (u_preV hK hV hn [0] rfl hz 0 rfl rfl) rfl rfl hl.1 rfl (lv_room (Nat.le_of_ble_eq_true rfl)) d_Mo_number_129 ⟨(Nat.le_of_ble_eq_true rfl), (Nat.le_of_ble_eq_true rfl)⟩) hV (fun r9 V9 H locs hp hV hle => ?_)
          obtain ⟨rfl, rfl, hz⟩ := hp
          replace hV := u_back hV hn [0] rfl
          have hV : vS G.1 cls lo s H locs (vU V [(m, eO 8 [u0, .int (nI n), .ref mt, u3, u4, u5, u6, u7, u8, u9, u10, u11, u12, .int (nI r), .int (nI (r - 1)), u15, u16, u17, u18, u19, u20]), (mt, eI (gI G) 400 g)]) := hV
          refine lv_aload_n hx hb d_Mo_number_132 rfl (lv_at hl 0 rfl) ?_
          refine u_get hx hb hts inMo hown hK hV hn 0 rfl rfl 14 (by decide) w_fl_Mo_68 rfl rfl d_Mo_number_133 ?_
          refine lv_if_ge (tgt := 143) hx hb d_Mo_number_136 (by decide) (fun c_11 => ?_) (fun c_11 => absurd (nI_ge0 (by omega)) c_11)
          replace c_11 : 0 ≤ r - 1 := (nI_leI (a := 0) (b := r - 1) (by omega) (by omega)).mp c_11
          refine lv_iload_n hx hb d_Mo_number_143 rfl (lv_at hl 1 rfl) ?_
          exact W.iret (v := nI x) hx hb hr (v_end hV ⟨by rw [hE]; rfl, by rw [hE, hX]; rfl, hz⟩) hV.2.1.2.2 d_Mo_number_144
      · replace c_6 : d = 4 := (nI_eq (a := d) (b := 4) (by omega) (by omega)).mp c_6
        refine lv_aload_n hx hb d_Mo_number_98 rfl (lv_at hl 0 rfl) ?_
        refine v_call (va_runV (As := []) (rest := []) ⟨hx, hb, hml, hown, hts⟩ (c_Mo_isDigit l G lo _ _ m mt u0 u3 u4 u5 u6 u7 u8 u9 u10 u11 u12 (.int ((-1))) u15 u16 u17 u18 u19 u20 g t n r hn hT h4 (by omega)) (kwV 0 hts w_co_Mo_isDigit rfl rfl w_it_Mo w_ml_Mo_78 w_im_Mo_isDigit w_se_Mo__Mo_isDigit (by decide +kernel) ⟨(Nat.le_of_ble_eq_true rfl), (Nat.le_of_ble_eq_true rfl)⟩) (u_preV hK hV hn [0, 1] rfl hz 0 rfl rfl) rfl rfl hl.1 rfl (lv_room (Nat.le_of_ble_eq_true rfl)) d_Mo_number_99 ⟨(Nat.le_of_ble_eq_true rfl), (Nat.le_of_ble_eq_true rfl)⟩) hV (fun r9 V9 H locs hp hV hle => ?_)
        obtain ⟨rfl, rfl, hz⟩ := hp
        replace hV := uu_same hV hn [0, 1] rfl
        rcases tf (isD t n r) with d_12 | d_12
        · have hE : num t n x y q = .inl r := num_bad hX (Or.inr ⟨by omega, d_12⟩)
          have hV : vS G.1 cls lo s H locs (vU V [(m, eO 8 [u0, .int (nI n), .ref mt, u3, u4, u5, u6, u7, u8, u9, u10, u11, u12, .int (nI r), .int ((-1)), u15, u16, u17, u18, u19, u20]), (mt, eI (gI G) 400 g)]) := hV
          refine W.eq (g2 := F0 mi 102 ls [.int 1]) (by rw [d_12]; rfl) ?_
          refine lv_if_eq (tgt := 113) hx hb d_Mo_number_102 (by decide) (fun c_13 => absurd c_13 (by decide)) (fun _ => ?_)
          refine lv_aload_n hx hb d_Mo_number_105 rfl (lv_at hl 0 rfl) ?_
          refine lv_aload_n hx hb d_Mo_number_106 rfl (lv_at hl 0 rfl) ?_
          refine u_get hx hb hts inMo hown hK hV hn 0 rfl rfl 13 (by decide) w_fl_Mo_61 rfl rfl d_Mo_number_107 ?_
          refine v_call (va_runV (As := [.int (nI r)]) (rest := []) ⟨hx, hb, hml, hown, hts⟩ (c_Mo_fail l G lo _ _ m u0 (.int (nI n)) (.ref mt) u3 u4 u5 u6 u7 u8 u9 u10 u11 u12 (.int (nI r)) u15 u16 u17 u18 u19 u20 (by simp) (nI r)) (kwV 1 hts w_co_Mo_fail rfl rfl w_it_Mo w_ml_Mo_74 w_im_Mo_fail w_se_Mo__Mo_fail (by decide +kernel) ⟨(Nat.le_of_ble_eq_true rfl), (Nat.le_of_ble_eq_true rfl)⟩) (u_preV hK hV hn [0] rfl hz 0 rfl rfl) rfl rfl hl.1 rfl (lv_room (Nat.le_of_ble_eq_true rfl)) d_Mo_number_110 ⟨(Nat.le_of_ble_eq_true rfl), (Nat.le_of_ble_eq_true rfl)⟩) hV (fun r9 V9 H locs hp hV hle => ?_)
          obtain ⟨rfl, rfl, hz⟩ := hp
          replace hV := u_back hV hn [0] rfl
          have hV : vS G.1 cls lo s H locs (vU V [(m, eO 8 [u0, .int (nI n), .ref mt, u3, u4, u5, u6, u7, u8, u9, u10, u11, u12, .int (nI r), .int (nI r), u15, u16, u17, u18, u19, u20]), (mt, eI (gI G) 400 g)]) := hV
          refine lv_iload_n hx hb d_Mo_number_113 rfl (lv_at hl 3 rfl) ?_
          refine lv_iload_n hx hb d_Mo_number_114 rfl (lv_at hl 1 rfl) ?_
          refine lv_iload_n hx hb d_Mo_number_115 rfl (lv_at hl 2 rfl) ?_
          refine v_call (va_runS (As := [.int (nI v), .int (nI x), .int (nI y)]) (rest := []) ⟨hx, hb, hml, hown, hts⟩ (c_Mo_in l G lo _ _ (nI v) (nI x) (nI y)) (kwS 3 hts w_co_Mo_in rfl rfl w_it_Mo w_ml_Mo_54 w_st_Mo_in (by decide +kernel) ⟨(Nat.le_of_ble_eq_true rfl), (Nat.le_of_ble_eq_true rfl)⟩) (u_preS hK hV hn [] rfl hz) rfl rfl hl.1 rfl (lv_room (Nat.le_of_ble_eq_true rfl)) d_Mo_number_116 ⟨(Nat.le_of_ble_eq_true rfl), (Nat.le_of_ble_eq_true rfl)⟩) hV (fun r9 V9 H locs hp hV hle => ?_)
          obtain ⟨rfl, rfl, hz⟩ := hp
          replace hV := uu_same hV hn [] rfl
          rcases tf (inI (nI v) (nI x) (nI y)) with d_14 | d_14
          · have hV : vS G.1 cls lo s H locs (vU V [(m, eO 8 [u0, .int (nI n), .ref mt, u3, u4, u5, u6, u7, u8, u9, u10, u11, u12, .int (nI r), .int (nI r), u15, u16, u17, u18, u19, u20]), (mt, eI (gI G) 400 g)]) := hV
            refine W.eq (g2 := F0 mi 119 ls [.int 1]) (by rw [d_14]; rfl) ?_
            refine lv_if_ne (tgt := 132) hx hb d_Mo_number_119 (by decide) (fun _ => ?_) (fun c_15 => absurd c_15 (by decide))
            refine lv_aload_n hx hb d_Mo_number_132 rfl (lv_at hl 0 rfl) ?_
            refine u_get hx hb hts inMo hown hK hV hn 0 rfl rfl 14 (by decide) w_fl_Mo_68 rfl rfl d_Mo_number_133 ?_
            refine lv_if_ge (tgt := 143) hx hb d_Mo_number_136 (by decide) (fun c_16 => ?_) (fun c_16 => absurd (nI_ge0 (by omega)) c_16)
            replace c_16 : 0 ≤ r := (nI_leI (a := 0) (b := r) (by omega) (by omega)).mp c_16
            refine lv_iload_n hx hb d_Mo_number_143 rfl (lv_at hl 1 rfl) ?_
            exact W.iret (v := nI x) hx hb hr (v_end hV ⟨by rw [hE]; rfl, by rw [hE, hX]; rfl, hz⟩) hV.2.1.2.2 d_Mo_number_144
          · have hV : vS G.1 cls lo s H locs (vU V [(m, eO 8 [u0, .int (nI n), .ref mt, u3, u4, u5, u6, u7, u8, u9, u10, u11, u12, .int (nI r), .int (nI r), u15, u16, u17, u18, u19, u20]), (mt, eI (gI G) 400 g)]) := hV
            refine W.eq (g2 := F0 mi 119 ls [.int 0]) (by rw [d_14]; rfl) ?_
            refine lv_if_ne (tgt := 132) hx hb d_Mo_number_119 (by decide) (fun c_17 => absurd c_17 (by decide)) (fun _ => ?_)
            refine lv_aload_n hx hb d_Mo_number_122 rfl (lv_at hl 0 rfl) ?_
            refine lv_aload_n hx hb d_Mo_number_123 rfl (lv_at hl 0 rfl) ?_
            refine u_get hx hb hts inMo hown hK hV hn 0 rfl rfl 13 (by decide) w_fl_Mo_61 rfl rfl d_Mo_number_124 ?_
            refine lv_iconst (v := 1) hx hb d_Mo_number_127 (by decide) ?_
            refine e_isub (v := (nI r) - 1) hx hb d_Mo_number_128 (rfl) ?_
            refine v_call (va_runV (As := [.int ((nI r) - 1)]) (rest := []) ⟨hx, hb, hml, hown, hts⟩ (c_Mo_failB l G lo _ _ m u0 (.int (nI n)) (.ref mt) u3 u4 u5 u6 u7 u8 u9 u10 u11 u12 (.int (nI r)) u15 u16 u17 u18 u19 u20 (by simp) r (by omega) ((nI r) - 1)) (kwV 1 hts w_co_Mo_fail rfl rfl w_it_Mo w_ml_Mo_74 w_im_Mo_fail w_se_Mo__Mo_fail (by decide +kernel) ⟨(Nat.le_of_ble_eq_true rfl), (Nat.le_of_ble_eq_true rfl)⟩) (u_preV hK hV hn [0] rfl hz 0 rfl rfl) rfl rfl hl.1 rfl (lv_room (Nat.le_of_ble_eq_true rfl)) d_Mo_number_129 ⟨(Nat.le_of_ble_eq_true rfl), (Nat.le_of_ble_eq_true rfl)⟩) hV (fun r9 V9 H locs hp hV hle => ?_)
            obtain ⟨rfl, rfl, hz⟩ := hp
            replace hV := uu_same hV hn [0] rfl
            have hV : vS G.1 cls lo s H locs (vU V [(m, eO 8 [u0, .int (nI n), .ref mt, u3, u4, u5, u6, u7, u8, u9, u10, u11, u12, .int (nI r), .int (nI r), u15, u16, u17, u18, u19, u20]), (mt, eI (gI G) 400 g)]) := hV
            refine lv_aload_n hx hb d_Mo_number_132 rfl (lv_at hl 0 rfl) ?_
            refine u_get hx hb hts inMo hown hK hV hn 0 rfl rfl 14 (by decide) w_fl_Mo_68 rfl rfl d_Mo_number_133 ?_
            refine lv_if_ge (tgt := 143) hx hb d_Mo_number_136 (by decide) (fun c_18 => ?_) (fun c_18 => absurd (nI_ge0 (by omega)) c_18)
            replace c_18 : 0 ≤ r := (nI_leI (a := 0) (b := r) (by omega) (by omega)).mp c_18
            refine lv_iload_n hx hb d_Mo_number_143 rfl (lv_at hl 1 rfl) ?_
            exact W.iret (v := nI x) hx hb hr (v_end hV ⟨by rw [hE]; rfl, by rw [hE, hX]; rfl, hz⟩) hV.2.1.2.2 d_Mo_number_144
        · have hB : ¬ (d = 0 ∨ (d = 4 ∧ isD t n r = true)) := by rintro (z | ⟨-, z⟩); omega; rw [d_12] at z; cases z
          have hV : vS G.1 cls lo s H locs (vU V [(m, eO 8 [u0, .int (nI n), .ref mt, u3, u4, u5, u6, u7, u8, u9, u10, u11, u12, .int (nI r), .int ((-1)), u15, u16, u17, u18, u19, u20]), (mt, eI (gI G) 400 g)]) := hV
          refine W.eq (g2 := F0 mi 102 ls [.int 0]) (by rw [d_12]; rfl) ?_
          refine lv_if_eq (tgt := 113) hx hb d_Mo_number_102 (by decide) (fun _ => ?_) (fun c_19 => absurd c_19 (by decide))
          refine lv_iload_n hx hb d_Mo_number_113 rfl (lv_at hl 3 rfl) ?_
          refine lv_iload_n hx hb d_Mo_number_114 rfl (lv_at hl 1 rfl) ?_
          refine lv_iload_n hx hb d_Mo_number_115 rfl (lv_at hl 2 rfl) ?_
          refine v_call (va_runS (As := [.int (nI v), .int (nI x), .int (nI y)]) (rest := []) ⟨hx, hb, hml, hown, hts⟩ (c_Mo_in l G lo _ _ (nI v) (nI x) (nI y)) (kwS 3 hts w_co_Mo_in rfl rfl w_it_Mo w_ml_Mo_54 w_st_Mo_in (by decide +kernel) ⟨(Nat.le_of_ble_eq_true rfl), (Nat.le_of_ble_eq_true rfl)⟩) (u_preS hK hV hn [] rfl hz) rfl rfl hl.1 rfl (lv_room (Nat.le_of_ble_eq_true rfl)) d_Mo_number_116 ⟨(Nat.le_of_ble_eq_true rfl), (Nat.le_of_ble_eq_true rfl)⟩) hV (fun r9 V9 H locs hp hV hle => ?_)
          obtain ⟨rfl, rfl, hz⟩ := hp
          replace hV := uu_same hV hn [] rfl
          rcases tf (inI (nI v) (nI x) (nI y)) with d_20 | d_20
          · have hv2 : x ≤ v ∧ v ≤ y := of_decide_eq_true ((inI_N (by omega) (by omega) (by omega)).symm.trans d_20)
            have hE : num t n x y q = .inr (v, r) := num_in hX hB (by omega)
            have hV : vS G.1 cls lo s H locs (vU V [(m, eO 8 [u0, .int (nI n), .ref mt, u3, u4, u5, u6, u7, u8, u9, u10, u11, u12, .int (nI r), .int ((-1)), u15, u16, u17, u18, u19, u20]), (mt, eI (gI G) 400 g)]) := hV
            refine W.eq (g2 := F0 mi 119 ls [.int 1]) (by rw [d_20]; rfl) ?_
            refine lv_if_ne (tgt := 132) hx hb d_Mo_number_119 (by decide) (fun _ => ?_) (fun c_21 => absurd c_21 (by decide))
            refine lv_aload_n hx hb d_Mo_number_132 rfl (lv_at hl 0 rfl) ?_
            refine u_get hx hb hts inMo hown hK hV hn 0 rfl rfl 14 (by decide) w_fl_Mo_68 rfl rfl d_Mo_number_133 ?_
            refine lv_if_ge (tgt := 143) hx hb d_Mo_number_136 (by decide) (fun c_22 => absurd c_22 (by decide)) (fun _ => ?_)
            refine lv_iload_n hx hb d_Mo_number_139 rfl (lv_at hl 3 rfl) ?_
            refine lv_goto (tgt := 144) hx hb d_Mo_number_140 (by decide) ?_
            exact W.iret (v := nI v) hx hb hr (v_end hV ⟨by rw [hE]; rfl, by rw [hE, hX]; rfl, hz⟩) hV.2.1.2.2 d_Mo_number_144
          · have hv2 : ¬ (x ≤ v ∧ v ≤ y) := of_decide_eq_false ((inI_N (by omega) (by omega) (by omega)).symm.trans d_20)
            have hE : num t n x y q = .inl (r - 1) := num_out hX hB (by omega)
            have hV : vS G.1 cls lo s H locs (vU V [(m, eO 8 [u0, .int (nI n), .ref mt, u3, u4, u5, u6, u7, u8, u9, u10, u11, u12, .int (nI r), .int ((-1)), u15, u16, u17, u18, u19, u20]), (mt, eI (gI G) 400 g)]) := hV
            refine W.eq (g2 := F0 mi 119 ls [.int 0]) (by rw [d_20]; rfl) ?_
            refine lv_if_ne (tgt := 132) hx hb d_Mo_number_119 (by decide) (fun c_23 => absurd c_23 (by decide)) (fun _ => ?_)
            refine lv_aload_n hx hb d_Mo_number_122 rfl (lv_at hl 0 rfl) ?_
            refine lv_aload_n hx hb d_Mo_number_123 rfl (lv_at hl 0 rfl) ?_
            refine u_get hx hb hts inMo hown hK hV hn 0 rfl rfl 13 (by decide) w_fl_Mo_61 rfl rfl d_Mo_number_124 ?_
            refine lv_iconst (v := 1) hx hb d_Mo_number_127 (by decide) ?_
            refine e_isub (v := nI (r - 1)) hx hb d_Mo_number_128 (pk_sub (a := r) (b := 1) (by omega)) ?_
            refine v_call (va_runV (As := [.int (nI (r - 1))]) (rest := []) ⟨hx, hb, hml, hown, hts⟩ (c_Mo_fail l G lo _ _ m u0 (.int (nI n)) (.ref mt) u3 u4 u5 u6 u7 u8 u9 u10 u11 u12 (.int (nI r)) u15 u16 u17 u18 u19 u20 (by simp) (nI (r - 1))) (kwV 1 hts w_co_Mo_fail rfl rfl w_it_Mo w_ml_Mo_74 w_im_Mo_fail w_se_Mo__Mo_fail (by decide +kernel) ⟨(Nat.le_of_ble_eq_true rfl), (Nat.le_of_ble_eq_true rfl)⟩) (u_preV hK hV hn [0] rfl hz 0 rfl rfl) rfl rfl hl.1 rfl (lv_room (Nat.le_of_ble_eq_true rfl)) d_Mo_number_129 ⟨(Nat.le_of_ble_eq_true rfl), (Nat.le_of_ble_eq_true rfl)⟩) hV (fun r9 V9 H locs hp hV hle => ?_)
            obtain ⟨rfl, rfl, hz⟩ := hp
            replace hV := u_back hV hn [0] rfl
            have hV : vS G.1 cls lo s H locs (vU V [(m, eO 8 [u0, .int (nI n), .ref mt, u3, u4, u5, u6, u7, u8, u9, u10, u11, u12, .int (nI r), .int (nI (r - 1)), u15, u16, u17, u18, u19, u20]), (mt, eI (gI G) 400 g)]) := hV
            refine lv_aload_n hx hb d_Mo_number_132 rfl (lv_at hl 0 rfl) ?_
            refine u_get hx hb hts inMo hown hK hV hn 0 rfl rfl 14 (by decide) w_fl_Mo_68 rfl rfl d_Mo_number_133 ?_
            refine lv_if_ge (tgt := 143) hx hb d_Mo_number_136 (by decide) (fun c_24 => ?_) (fun c_24 => absurd (nI_ge0 (by omega)) c_24)
            replace c_24 : 0 ≤ r - 1 := (nI_leI (a := 0) (b := r - 1) (by omega) (by omega)).mp c_24
            refine lv_iload_n hx hb d_Mo_number_143 rfl (lv_at hl 1 rfl) ?_
            exact W.iret (v := nI x) hx hb hr (v_end hV ⟨by rw [hE]; rfl, by rw [hE, hX]; rfl, hz⟩) hV.2.1.2.2 d_Mo_number_144
    have loop : ∀ (k : Nat) (v d r : Nat), 4 - d < k → (d ≤ 4) → ((d = 0 → v = 0) ∧ (d ≤ 1 → v ≤ 9) ∧ (d ≤ 2 → v ≤ 99) ∧ (d ≤ 3 → v ≤ 999) ∧ v ≤ 9999) → (r ≤ n) → (r = q_2 + d) → (dgs t n (4 - d) v d r = dgs t n 4 0 0 q_2) → ∀ (H : Heap) (locs : List Loc) (ls : Array Slot), H.size = sz → vS G.1 cls lo s H locs (vU V [(m, eO 8 [u0, .int (nI n), .ref mt, u3, u4, u5, u6, u7, u8, u9, u10, u11, u12, .int (nI r), .int ((-1)), u15, u16, u17, u18, u19, u20]), (mt, eI (gI G) 400 g)]) → lv_has ls 5 [(0, .ref m), (1, .int (nI x)), (2, .int (nI y)), (3, .int (nI v)), (4, .int (nI d))] → W pg l ev ({ frames := 2, cells := 0, slots := 0, locals := 50 } : Room) s mi args below meth cd H locs 0 0 (MQ below (vPost G lo (fun r V' k => r = some (.int (nI (rA x (num t n x y q)))) ∧ V' = vU V [(m, eO 8 [u0, .int (nI n), .ref mt, u3, u4, u5, u6, u7, u8, u9, u10, u11, u12, .int (nI ((dgs t n 4 0 0 (sk t n q)).2.2)), .int (wI (num t n x y q)), u15, u16, u17, u18, u19, u20]), (mt, eI (gI G) 400 g)] ∧ k = sz)) args s 0 0 (vL lo)) (F0 mi 34 ls []) := by
      intro k
      induction k with
      | zero => intro v d r hk; exact absurd hk (by omega)
      | succ k ih =>
        intro v d r hk hd4 hv hrn hr2 hX H locs ls hz hV hl
        refine lv_aload_n hx hb d_Mo_number_34 rfl (lv_at hl 0 rfl) ?_
        refine u_get hx hb hts inMo hown hK hV hn 0 rfl rfl 14 (by decide) w_fl_Mo_68 rfl rfl d_Mo_number_35 ?_
        refine lv_if_ge (tgt := 92) hx hb d_Mo_number_38 (by decide) (fun c_25 => absurd c_25 (by decide)) (fun _ => ?_)
        refine lv_aload_n hx hb d_Mo_number_41 rfl (lv_at hl 0 rfl) ?_
        refine v_call (va_runV (As := []) (rest := []) ⟨hx, hb, hml, hown, hts⟩ (c_Mo_isDigit l G lo _ _ m mt u0 u3 u4 u5 u6 u7 u8 u9 u10 u11 u12 (.int ((-1))) u15 u16 u17 u18 u19 u20 g t n r hn hT h4 (by omega)) (kwV 0 hts w_co_Mo_isDigit rfl rfl w_it_Mo w_ml_Mo_78 w_im_Mo_isDigit w_se_Mo__Mo_isDigit (by decide +kernel) ⟨(Nat.le_of_ble_eq_true rfl), (Nat.le_of_ble_eq_true rfl)⟩) (u_preV hK hV hn [0, 1] rfl hz 0 rfl rfl) rfl rfl hl.1 rfl (lv_room (Nat.le_of_ble_eq_true rfl)) d_Mo_number_42 ⟨(Nat.le_of_ble_eq_true rfl), (Nat.le_of_ble_eq_true rfl)⟩) hV (fun r9 V9 H locs hp hV hle => ?_)
        obtain ⟨rfl, rfl, hz⟩ := hp
        replace hV := uu_same hV hn [0, 1] rfl
        rcases tf (isD t n r) with d_26 | d_26
        · have hdg := d_26
          obtain ⟨i1, i2, i3⟩ := isD_spec d_26
          have hV : vS G.1 cls lo s H locs (vU V [(m, eO 8 [u0, .int (nI n), .ref mt, u3, u4, u5, u6, u7, u8, u9, u10, u11, u12, .int (nI r), .int ((-1)), u15, u16, u17, u18, u19, u20]), (mt, eI (gI G) 400 g)]) := hV
          refine W.eq (g2 := F0 mi 45 ls [.int 1]) (by rw [d_26]; rfl) ?_
          refine lv_if_eq (tgt := 92) hx hb d_Mo_number_45 (by decide) (fun c_27 => absurd c_27 (by decide)) (fun _ => ?_)
          refine lv_iload hx hb d_Mo_number_48 (lv_at hl 4 rfl) ?_
          refine lv_iconst (v := 4) hx hb d_Mo_number_50 (by decide) ?_
          refine lv_icmp_ge (tgt := 92) hx hb d_Mo_number_51 (by decide) (fun c_28 => ?_) (fun c_28 => ?_)
          · replace c_28 : 4 ≤ d := (nI_leI (a := 4) (b := d) (by omega) (by omega)).mp c_28
            have hd9 : 1 ≤ d := by omega
            exact fin v d r (by omega) hd9 (by omega) hrn (by omega) (by rw [hq_2, ← hX]; exact dgs_stop (Or.inr (by omega))) H locs ls hz hV (lv_sub hl [0, 1, 2, 3, 4] rfl)
          · replace c_28 : ¬ 4 ≤ d := fun z9 => c_28 ((nI_leI (a := 4) (b := d) (by omega) (by omega)).mpr z9)
            refine lv_iload hx hb d_Mo_number_54 (lv_at hl 4 rfl) ?_
            refine lv_if_eq (tgt := 63) hx hb d_Mo_number_56 (by decide) (fun c_29 => ?_) (fun c_29 => ?_)
            · replace c_29 : d = 0 := (nI_eq (a := d) (b := 0) (by omega) (by omega)).mp c_29
              refine lv_bipush (v := 10) hx hb d_Mo_number_63 (by decide) ?_
              refine lv_iload_n hx hb d_Mo_number_65 rfl (lv_at hl 3 rfl) ?_
              refine e_imul (v := nI (10 * v)) hx hb d_Mo_number_66 (pk_mul 10 v) ?_
              refine lv_aload_n hx hb d_Mo_number_67 rfl (lv_at hl 0 rfl) ?_
              refine v_call (va_runV (As := []) (rest := [.int (nI (10 * v))]) ⟨hx, hb, hml, hown, hts⟩ (c_Mo_here l G lo _ _ m mt u0 u3 u4 u5 u6 u7 u8 u9 u10 u11 u12 (.int ((-1))) u15 u16 u17 u18 u19 u20 g t n r hn hT h4 (by omega)) (kwV 0 hts w_co_Mo_here rfl rfl w_it_Mo w_ml_Mo_64 w_im_Mo_here w_se_Mo__Mo_here (by decide +kernel) ⟨(Nat.le_of_ble_eq_true rfl), (Nat.le_of_ble_eq_true rfl)⟩) (u_preV hK hV hn [0, 1] rfl hz 0 rfl rfl) rfl rfl hl.1 rfl (lv_room (Nat.le_of_ble_eq_true rfl)) d_Mo_number_68 ⟨(Nat.le_of_ble_eq_true rfl), (Nat.le_of_ble_eq_true rfl)⟩) hV (fun r9 V9 H locs hp hV hle => ?_)
              obtain ⟨rfl, rfl, hz⟩ := hp
              replace hV := uu_same hV hn [0, 1] rfl
              have hV : vS G.1 cls lo s H locs (vU V [(m, eO 8 [u0, .int (nI n), .ref mt, u3, u4, u5, u6, u7, u8, u9, u10, u11, u12, .int (nI r), .int ((-1)), u15, u16, u17, u18, u19, u20]), (mt, eI (gI G) 400 g)]) := hV
              refine W.eq (g2 := F0 mi 71 ls [.int (rK t n r), .int (nI (10 * v))]) rfl ?_
              have k9 := (hT r i1).1
              refine W.eq (g2 := F0 mi 71 ls [.int (nI (t r)), .int (nI (10 * v))]) (by rw [rK_in i1] <;> rfl) ?_
              refine e_iadd (v := nI (10 * v + (t r))) hx hb d_Mo_number_71 (nI_add (10 * v) (t r)) ?_
              refine lv_bipush (v := 48) hx hb d_Mo_number_72 (by decide) ?_
              refine e_isub (v := nI (10 * v + (t r - 48))) hx hb d_Mo_number_74 (by rw [show nI (10 * v + t r) - 48 = nI (10 * v + t r - 48) from pk_sub (a := 10 * v + t r) (b := 48) (by omega), show 10 * v + t r - 48 = 10 * v + (t r - 48) by omega]) ?_
              refine lv_istore_n (lv' := [(3, .int (nI (10 * v + (t r - 48)))), (0, .ref m), (1, .int (nI x)), (2, .int (nI y)), (4, .int (nI d))]) hx hb d_Mo_number_75 rfl hl (by decide) rfl (fun ls hl => ?_)
              refine lv_iinc (v := nI (d + 1)) (lv' := [(4, .int (nI (d + 1))), (3, .int (nI (10 * v + (t r - 48)))), (0, .ref m), (1, .int (nI x)), (2, .int (nI y))]) hx hb d_Mo_number_76 hl (k := 4) rfl (nI_add d 1) (by decide) rfl (fun ls hl => ?_)
              refine lv_aload_n hx hb d_Mo_number_79 rfl (lv_at hl 2 rfl) ?_
              refine lv_dup hx hb d_Mo_number_80 rfl ?_
              refine u_get hx hb hts inMo hown hK hV hn 0 rfl rfl 13 (by decide) w_fl_Mo_61 rfl rfl d_Mo_number_81 ?_
              refine lv_iconst (v := 1) hx hb d_Mo_number_84 (by decide) ?_
              refine e_iadd (v := nI (r + 1)) hx hb d_Mo_number_85 (nI_add r 1) ?_
              refine u_put hx hb hts inMo tyMo tyMo_ok nmMo hown hK hV hn 0 rfl rfl 13 (by decide) w_fl_Mo_61 rfl rfl rfl rfl (Nat.le_of_ble_eq_true rfl) d_Mo_number_86 (fun H locs hV hz9 => ?_)
              have hV : vS G.1 cls lo s H locs (vU V [(m, eO 8 [u0, .int (nI n), .ref mt, u3, u4, u5, u6, u7, u8, u9, u10, u11, u12, .int (nI (r + 1)), .int ((-1)), u15, u16, u17, u18, u19, u20]), (mt, eI (gI G) 400 g)]) := hV
              replace hz := hz9.trans hz
              refine lv_goto (tgt := 34) hx hb d_Mo_number_89 (by decide) ?_
              exact ih (10 * v + (t r - 48)) (d + 1) (r + 1) (by omega) (by omega) (by omega) (by omega) (by omega) (by rw [← hX]; exact (dgs_go d_26 (by omega) (by omega)).symm) H locs ls hz hV (lv_sub hl [2, 3, 4, 1, 0] rfl)
            · replace c_29 : ¬ d = 0 := fun z9 => c_29 ((nI_eq (a := d) (b := 0) (by omega) (by omega)).mpr z9)
              refine lv_iload_n hx hb d_Mo_number_59 rfl (lv_at hl 3 rfl) ?_
              refine lv_if_le (tgt := 92) hx hb d_Mo_number_60 (by decide) (fun c_30 => ?_) (fun c_30 => ?_)
              · replace c_30 : v ≤ 0 := (nI_leI (a := v) (b := 0) (by omega) (by omega)).mp c_30
                have hd9 : 1 ≤ d := by omega
                exact fin v d r (by omega) hd9 (by omega) hrn (by omega) (by rw [hq_2, ← hX]; exact dgs_stop (Or.inl (by rintro ⟨-, z | z⟩ <;> omega))) H locs ls hz hV (lv_sub hl [0, 1, 2, 3, 4] rfl)
              · replace c_30 : ¬ v ≤ 0 := fun z9 => c_30 ((nI_leI (a := v) (b := 0) (by omega) (by omega)).mpr z9)
                refine lv_bipush (v := 10) hx hb d_Mo_number_63 (by decide) ?_
                refine lv_iload_n hx hb d_Mo_number_65 rfl (lv_at hl 3 rfl) ?_
                refine e_imul (v := nI (10 * v)) hx hb d_Mo_number_66 (pk_mul 10 v) ?_
                refine lv_aload_n hx hb d_Mo_number_67 rfl (lv_at hl 0 rfl) ?_
                refine v_call (va_runV (As := []) (rest := [.int (nI (10 * v))]) ⟨hx, hb, hml, hown, hts⟩ (c_Mo_here l G lo _ _ m mt u0 u3 u4 u5 u6 u7 u8 u9 u10 u11 u12 (.int ((-1))) u15 u16 u17 u18 u19 u20 g t n r hn hT h4 (by omega)) (kwV 0 hts w_co_Mo_here rfl rfl w_it_Mo w_ml_Mo_64 w_im_Mo_here w_se_Mo__Mo_here (by decide +kernel) ⟨(Nat.le_of_ble_eq_true rfl), (Nat.le_of_ble_eq_true rfl)⟩) (u_preV hK hV hn [0, 1] rfl hz 0 rfl rfl) rfl rfl hl.1 rfl (lv_room (Nat.le_of_ble_eq_true rfl)) d_Mo_number_68 ⟨(Nat.le_of_ble_eq_true rfl), (Nat.le_of_ble_eq_true rfl)⟩) hV (fun r9 V9 H locs hp hV hle => ?_)
                obtain ⟨rfl, rfl, hz⟩ := hp
                replace hV := uu_same hV hn [0, 1] rfl
                have hV : vS G.1 cls lo s H locs (vU V [(m, eO 8 [u0, .int (nI n), .ref mt, u3, u4, u5, u6, u7, u8, u9, u10, u11, u12, .int (nI r), .int ((-1)), u15, u16, u17, u18, u19, u20]), (mt, eI (gI G) 400 g)]) := hV
                refine W.eq (g2 := F0 mi 71 ls [.int (rK t n r), .int (nI (10 * v))]) rfl ?_
                have k9 := (hT r i1).1
                refine W.eq (g2 := F0 mi 71 ls [.int (nI (t r)), .int (nI (10 * v))]) (by rw [rK_in i1] <;> rfl) ?_
                refine e_iadd (v := nI (10 * v + (t r))) hx hb d_Mo_number_71 (nI_add (10 * v) (t r)) ?_
                refine lv_bipush (v := 48) hx hb d_Mo_number_72 (by decide) ?_
                refine e_isub (v := nI (10 * v + (t r - 48))) hx hb d_Mo_number_74 (by rw [show nI (10 * v + t r) - 48 = nI (10 * v + t r - 48) from pk_sub (a := 10 * v + t r) (b := 48) (by omega), show 10 * v + t r - 48 = 10 * v + (t r - 48) by omega]) ?_
                refine lv_istore_n (lv' := [(3, .int (nI (10 * v + (t r - 48)))), (0, .ref m), (1, .int (nI x)), (2, .int (nI y)), (4, .int (nI d))]) hx hb d_Mo_number_75 rfl hl (by decide) rfl (fun ls hl => ?_)
                refine lv_iinc (v := nI (d + 1)) (lv' := [(4, .int (nI (d + 1))), (3, .int (nI (10 * v + (t r - 48)))), (0, .ref m), (1, .int (nI x)), (2, .int (nI y))]) hx hb d_Mo_number_76 hl (k := 4) rfl (nI_add d 1) (by decide) rfl (fun ls hl => ?_)
                refine lv_aload_n hx hb d_Mo_number_79 rfl (lv_at hl 2 rfl) ?_
                refine lv_dup hx hb d_Mo_number_80 rfl ?_
                refine u_get hx hb hts inMo hown hK hV hn 0 rfl rfl 13 (by decide) w_fl_Mo_61 rfl rfl d_Mo_number_81 ?_
                refine lv_iconst (v := 1) hx hb d_Mo_number_84 (by decide) ?_
                refine e_iadd (v := nI (r + 1)) hx hb d_Mo_number_85 (nI_add r 1) ?_
                refine u_put hx hb hts inMo tyMo tyMo_ok nmMo hown hK hV hn 0 rfl rfl 13 (by decide) w_fl_Mo_61 rfl rfl rfl rfl (Nat.le_of_ble_eq_true rfl) d_Mo_number_86 (fun H locs hV hz9 => ?_)
                have hV : vS G.1 cls lo s H locs (vU V [(m, eO 8 [u0, .int (nI n), .ref mt, u3, u4, u5, u6, u7, u8, u9, u10, u11, u12, .int (nI (r + 1)), .int ((-1)), u15, u16, u17, u18, u19, u20]), (mt, eI (gI G) 400 g)]) := hV
                replace hz := hz9.trans hz
                refine lv_goto (tgt := 34) hx hb d_Mo_number_89 (by decide) ?_
                exact ih (10 * v + (t r - 48)) (d + 1) (r + 1) (by omega) (by omega) (by omega) (by omega) (by omega) (by rw [← hX]; exact (dgs_go d_26 (by omega) (by omega)).symm) H locs ls hz hV (lv_sub hl [2, 3, 4, 1, 0] rfl)
        · have hV : vS G.1 cls lo s H locs (vU V [(m, eO 8 [u0, .int (nI n), .ref mt, u3, u4, u5, u6, u7, u8, u9, u10, u11, u12, .int (nI r), .int ((-1)), u15, u16, u17, u18, u19, u20]), (mt, eI (gI G) 400 g)]) := hV
          refine W.eq (g2 := F0 mi 45 ls [.int 0]) (by rw [d_26]; rfl) ?_
          refine lv_if_eq (tgt := 92) hx hb d_Mo_number_45 (by decide) (fun _ => ?_) (fun c_31 => absurd c_31 (by decide))
          have hd9 : 1 ≤ d := by
            rcases Nat.eq_zero_or_pos d with z | z
            · rw [show r = q_2 by omega, hdg] at d_26; cases d_26
            · exact z
          exact fin v d r (by omega) hd9 (by omega) hrn (by omega) (by rw [hq_2, ← hX]; exact dgs_stop (Or.inl (by rintro ⟨z, -⟩; rw [d_26] at z; cases z))) H locs ls hz hV (lv_sub hl [0, 1, 2, 3, 4] rfl)
    exact loop 5 0 0 q_2 (by omega) (by omega) (by omega) (by have := (isD_spec hdg).1; omega) (by omega) rfl H locs ls hz hV (lv_sub hl [2, 3, 4, 1, 0] rfl)
  · have hX : dgs t n 4 0 0 (sk t n q) = (0, 0, q_2) := by rw [hq_2]; exact dgs_stop (d := 0) (Or.inl (fun z => by rw [d_4] at z; cases z.1))
    have hE : num t n x y q = .inl q_2 := num_bad hX (Or.inl rfl)
    have hV : vS G.1 cls lo s H locs (vU V [(m, eO 8 [u0, .int (nI n), .ref mt, u3, u4, u5, u6, u7, u8, u9, u10, u11, u12, .int (nI q_2), .int ((-1)), u15, u16, u17, u18, u19, u20]), (mt, eI (gI G) 400 g)]) := hV
    refine W.eq (g2 := F0 mi 18 ls [.int 0]) (by rw [d_4]; rfl) ?_
    refine lv_if_ne (tgt := 29) hx hb d_Mo_number_18 (by decide) (fun c_32 => absurd c_32 (by decide)) (fun _ => ?_)
    refine lv_aload_n hx hb d_Mo_number_21 rfl (lv_at hl 0 rfl) ?_
    refine lv_aload_n hx hb d_Mo_number_22 rfl (lv_at hl 0 rfl) ?_
    refine u_get hx hb hts inMo hown hK hV hn 0 rfl rfl 13 (by decide) w_fl_Mo_61 rfl rfl d_Mo_number_23 ?_
    refine v_call (va_runV (As := [.int (nI q_2)]) (rest := []) ⟨hx, hb, hml, hown, hts⟩ (c_Mo_fail l G lo _ _ m u0 (.int (nI n)) (.ref mt) u3 u4 u5 u6 u7 u8 u9 u10 u11 u12 (.int (nI q_2)) u15 u16 u17 u18 u19 u20 (by simp) (nI q_2)) (kwV 1 hts w_co_Mo_fail rfl rfl w_it_Mo w_ml_Mo_74 w_im_Mo_fail w_se_Mo__Mo_fail (by decide +kernel) ⟨(Nat.le_of_ble_eq_true rfl), (Nat.le_of_ble_eq_true rfl)⟩) (u_preV hK hV hn [0] rfl hz 0 rfl rfl) rfl rfl hl.1 rfl (lv_room (Nat.le_of_ble_eq_true rfl)) d_Mo_number_26 ⟨(Nat.le_of_ble_eq_true rfl), (Nat.le_of_ble_eq_true rfl)⟩) hV (fun r9 V9 H locs hp hV hle => ?_)
    obtain ⟨rfl, rfl, hz⟩ := hp
    replace hV := u_back hV hn [0] rfl
    have hV : vS G.1 cls lo s H locs (vU V [(m, eO 8 [u0, .int (nI n), .ref mt, u3, u4, u5, u6, u7, u8, u9, u10, u11, u12, .int (nI q_2), .int (nI q_2), u15, u16, u17, u18, u19, u20]), (mt, eI (gI G) 400 g)]) := hV
    refine lv_iconst (v := 0) hx hb d_Mo_number_29 (by decide) ?_
    refine lv_istore_n (lv' := [(3, .int 0), (0, .ref m), (1, .int (nI x)), (2, .int (nI y))]) hx hb d_Mo_number_30 rfl hl (by decide) rfl (fun ls hl => ?_)
    refine lv_iconst (v := 0) hx hb d_Mo_number_31 (by decide) ?_
    refine lv_istore (lv' := [(4, .int 0), (3, .int 0), (0, .ref m), (1, .int (nI x)), (2, .int (nI y))]) hx hb d_Mo_number_32 hl (by decide) rfl (fun ls hl => ?_)
    refine lv_aload_n hx hb d_Mo_number_34 rfl (lv_at hl 2 rfl) ?_
    refine u_get hx hb hts inMo hown hK hV hn 0 rfl rfl 14 (by decide) w_fl_Mo_68 rfl rfl d_Mo_number_35 ?_
    refine lv_if_ge (tgt := 92) hx hb d_Mo_number_38 (by decide) (fun c_33 => ?_) (fun c_33 => absurd (nI_ge0 (by omega)) c_33)
    replace c_33 : 0 ≤ q_2 := (nI_leI (a := 0) (b := q_2) (by omega) (by omega)).mp c_33
    refine lv_iload hx hb d_Mo_number_92 (lv_at hl 0 rfl) ?_
    refine lv_iconst (v := 4) hx hb d_Mo_number_94 (by decide) ?_
    refine lv_icmp_ne (tgt := 113) hx hb d_Mo_number_95 (by decide) (fun _ => ?_) (fun c_34 => absurd c_34 (by decide))
    refine lv_iload_n hx hb d_Mo_number_113 rfl (lv_at hl 1 rfl) ?_
    refine lv_iload_n hx hb d_Mo_number_114 rfl (lv_at hl 3 rfl) ?_
    refine lv_iload_n hx hb d_Mo_number_115 rfl (lv_at hl 4 rfl) ?_
    refine v_call (va_runS (As := [.int 0, .int (nI x), .int (nI y)]) (rest := []) ⟨hx, hb, hml, hown, hts⟩ (c_Mo_in l G lo _ _ ((0 : Int32)) (nI x) (nI y)) (kwS 3 hts w_co_Mo_in rfl rfl w_it_Mo w_ml_Mo_54 w_st_Mo_in (by decide +kernel) ⟨(Nat.le_of_ble_eq_true rfl), (Nat.le_of_ble_eq_true rfl)⟩) (u_preS hK hV hn [] rfl hz) rfl rfl hl.1 rfl (lv_room (Nat.le_of_ble_eq_true rfl)) d_Mo_number_116 ⟨(Nat.le_of_ble_eq_true rfl), (Nat.le_of_ble_eq_true rfl)⟩) hV (fun r9 V9 H locs hp hV hle => ?_)
    obtain ⟨rfl, rfl, hz⟩ := hp
    replace hV := uu_same hV hn [] rfl
    rcases tf (inI ((0 : Int32)) (nI x) (nI y)) with d_35 | d_35
    · have hV : vS G.1 cls lo s H locs (vU V [(m, eO 8 [u0, .int (nI n), .ref mt, u3, u4, u5, u6, u7, u8, u9, u10, u11, u12, .int (nI q_2), .int (nI q_2), u15, u16, u17, u18, u19, u20]), (mt, eI (gI G) 400 g)]) := hV
      refine W.eq (g2 := F0 mi 119 ls [.int 1]) (by rw [d_35]; rfl) ?_
      refine lv_if_ne (tgt := 132) hx hb d_Mo_number_119 (by decide) (fun _ => ?_) (fun c_36 => absurd c_36 (by decide))
      refine lv_aload_n hx hb d_Mo_number_132 rfl (lv_at hl 2 rfl) ?_
      refine u_get hx hb hts inMo hown hK hV hn 0 rfl rfl 14 (by decide) w_fl_Mo_68 rfl rfl d_Mo_number_133 ?_
      refine lv_if_ge (tgt := 143) hx hb d_Mo_number_136 (by decide) (fun c_37 => ?_) (fun c_37 => absurd (nI_ge0 (by omega)) c_37)
      replace c_37 : 0 ≤ q_2 := (nI_leI (a := 0) (b := q_2) (by omega) (by omega)).mp c_37
      refine lv_iload_n hx hb d_Mo_number_143 rfl (lv_at hl 3 rfl) ?_
      exact W.iret (v := nI x) hx hb hr (v_end hV ⟨by rw [hE]; rfl, by rw [hE, hX]; rfl, hz⟩) hV.2.1.2.2 d_Mo_number_144
    · have hV : vS G.1 cls lo s H locs (vU V [(m, eO 8 [u0, .int (nI n), .ref mt, u3, u4, u5, u6, u7, u8, u9, u10, u11, u12, .int (nI q_2), .int (nI q_2), u15, u16, u17, u18, u19, u20]), (mt, eI (gI G) 400 g)]) := hV
      refine W.eq (g2 := F0 mi 119 ls [.int 0]) (by rw [d_35]; rfl) ?_
      refine lv_if_ne (tgt := 132) hx hb d_Mo_number_119 (by decide) (fun c_38 => absurd c_38 (by decide)) (fun _ => ?_)
      refine lv_aload_n hx hb d_Mo_number_122 rfl (lv_at hl 2 rfl) ?_
      refine lv_aload_n hx hb d_Mo_number_123 rfl (lv_at hl 2 rfl) ?_
      refine u_get hx hb hts inMo hown hK hV hn 0 rfl rfl 13 (by decide) w_fl_Mo_61 rfl rfl d_Mo_number_124 ?_
      refine lv_iconst (v := 1) hx hb d_Mo_number_127 (by decide) ?_
      refine e_isub (v := (nI q_2) - 1) hx hb d_Mo_number_128 (rfl) ?_
      refine v_call (va_runV (As := [.int ((nI q_2) - 1)]) (rest := []) ⟨hx, hb, hml, hown, hts⟩ (c_Mo_failB l G lo _ _ m u0 (.int (nI n)) (.ref mt) u3 u4 u5 u6 u7 u8 u9 u10 u11 u12 (.int (nI q_2)) u15 u16 u17 u18 u19 u20 (by simp) q_2 (by omega) ((nI q_2) - 1)) (kwV 1 hts w_co_Mo_fail rfl rfl w_it_Mo w_ml_Mo_74 w_im_Mo_fail w_se_Mo__Mo_fail (by decide +kernel) ⟨(Nat.le_of_ble_eq_true rfl), (Nat.le_of_ble_eq_true rfl)⟩) (u_preV hK hV hn [0] rfl hz 0 rfl rfl) rfl rfl hl.1 rfl (lv_room (Nat.le_of_ble_eq_true rfl)) d_Mo_number_129 ⟨(Nat.le_of_ble_eq_true rfl), (Nat.le_of_ble_eq_true rfl)⟩) hV (fun r9 V9 H locs hp hV hle => ?_)
      obtain ⟨rfl, rfl, hz⟩ := hp
      replace hV := uu_same hV hn [0] rfl
      have hV : vS G.1 cls lo s H locs (vU V [(m, eO 8 [u0, .int (nI n), .ref mt, u3, u4, u5, u6, u7, u8, u9, u10, u11, u12, .int (nI q_2), .int (nI q_2), u15, u16, u17, u18, u19, u20]), (mt, eI (gI G) 400 g)]) := hV
      refine lv_aload_n hx hb d_Mo_number_132 rfl (lv_at hl 2 rfl) ?_
      refine u_get hx hb hts inMo hown hK hV hn 0 rfl rfl 14 (by decide) w_fl_Mo_68 rfl rfl d_Mo_number_133 ?_
      refine lv_if_ge (tgt := 143) hx hb d_Mo_number_136 (by decide) (fun c_39 => ?_) (fun c_39 => absurd (nI_ge0 (by omega)) c_39)
      replace c_39 : 0 ≤ q_2 := (nI_leI (a := 0) (b := q_2) (by omega) (by omega)).mp c_39
      refine lv_iload_n hx hb d_Mo_number_143 rfl (lv_at hl 3 rfl) ?_
      exact W.iret (v := nI x) hx hb hr (v_end hV ⟨by rw [hE]; rfl, by rw [hE, hX]; rfl, hz⟩) hV.2.1.2.2 d_Mo_number_144

set_option maxHeartbeats 4000000 in
set_option maxRecDepth 100000 in
/-- kindOf -/
theorem c_Mo_kindOf (l : Launch) (G : Gx) (lo : Nat) (V : Vw) (sz : Nat) (c : Int32) : Met l y_Mo_kindOf ws_Mo_kindOf ({ frames := 0, cells := 0, slots := 0, locals := 0 } : Room) (vPre G lo [.int c] (vU V []) sz) (vPost G lo (fun r V' k => r = some (.int (kindI c)) ∧ V' = vU V [] ∧ k = sz)) 0 0 (vL lo) := by
  refine vMet (R := RMo) (by decide) rfl (Nat.le_of_ble_eq_true rfl) ?_
  intro pg ev s mi args below meth cd hx hb hr hml hlk hnm hts hown hK hz hV ls hl
  have hl : lv_has ls 1 [(0, .int c)] := hl
  have hV0 := hV
  obtain ⟨H, hH⟩ : ∃ H, H = s.heap := ⟨_, rfl⟩
  obtain ⟨locs, hlocs⟩ : ∃ locs : List Loc, locs = [] := ⟨_, rfl⟩
  rw [← hH, ← hlocs]
  rw [← hH] at hz
  replace hV : vS G.1 cls lo s H locs (vU V []) := by rw [hH, hlocs]; exact hV
  clear hH hlocs hV0
  refine lv_iload_n hx hb d_Mo_kindOf_0 rfl (lv_at hl 0 rfl) ?_
  refine lv_bipush (v := 114) hx hb d_Mo_kindOf_1 (by decide) ?_
  refine lv_icmp_ne (tgt := 10) hx hb d_Mo_kindOf_3 (by decide) (fun c_1 => ?_) (fun c_1 => ?_)
  · have hk0 := c_1
    refine lv_iload_n hx hb d_Mo_kindOf_10 rfl (lv_at hl 0 rfl) ?_
    refine lv_bipush (v := 98) hx hb d_Mo_kindOf_11 (by decide) ?_
    refine lv_icmp_ne (tgt := 20) hx hb d_Mo_kindOf_13 (by decide) (fun c_2 => ?_) (fun c_2 => ?_)
    · have hk1 := c_2
      refine lv_iload_n hx hb d_Mo_kindOf_20 rfl (lv_at hl 0 rfl) ?_
      refine lv_bipush (v := 116) hx hb d_Mo_kindOf_21 (by decide) ?_
      refine lv_icmp_ne (tgt := 30) hx hb d_Mo_kindOf_23 (by decide) (fun c_3 => ?_) (fun c_3 => ?_)
      · have hk2 := c_3
        refine lv_iload_n hx hb d_Mo_kindOf_30 rfl (lv_at hl 0 rfl) ?_
        refine lv_bipush (v := 102) hx hb d_Mo_kindOf_31 (by decide) ?_
        refine lv_icmp_ne (tgt := 40) hx hb d_Mo_kindOf_33 (by decide) (fun c_4 => ?_) (fun c_4 => ?_)
        · have hk3 := c_4
          refine lv_iload_n hx hb d_Mo_kindOf_40 rfl (lv_at hl 0 rfl) ?_
          refine lv_bipush (v := 119) hx hb d_Mo_kindOf_41 (by decide) ?_
          refine lv_icmp_ne (tgt := 50) hx hb d_Mo_kindOf_43 (by decide) (fun c_5 => ?_) (fun c_5 => ?_)
          · have hk4 := c_5
            refine lv_iconst (v := (-1)) hx hb d_Mo_kindOf_50 (by decide) ?_
            exact W.iret (v := (-1)) hx hb hr (v_end hV ⟨by unfold kindI; rw [if_neg hk0, if_neg hk1, if_neg hk2, if_neg hk3, if_neg hk4], rfl, hz⟩) hV.2.1.2.2 d_Mo_kindOf_51
          · have hE : kindI c = 4 := by unfold kindI; rw [if_neg hk0, if_neg hk1, if_neg hk2, if_neg hk3, if_pos c_5]
            refine lv_iconst (v := 4) hx hb d_Mo_kindOf_46 (by decide) ?_
            refine lv_goto (tgt := 51) hx hb d_Mo_kindOf_47 (by decide) ?_
            exact W.iret (v := 4) hx hb hr (v_end hV ⟨by rw [hE], rfl, hz⟩) hV.2.1.2.2 d_Mo_kindOf_51
        · have hE : kindI c = 3 := by unfold kindI; rw [if_neg hk0, if_neg hk1, if_neg hk2, if_pos c_4]
          refine lv_iconst (v := 3) hx hb d_Mo_kindOf_36 (by decide) ?_
          refine lv_goto (tgt := 51) hx hb d_Mo_kindOf_37 (by decide) ?_
          exact W.iret (v := 3) hx hb hr (v_end hV ⟨by rw [hE], rfl, hz⟩) hV.2.1.2.2 d_Mo_kindOf_51
      · have hE : kindI c = 2 := by unfold kindI; rw [if_neg hk0, if_neg hk1, if_pos c_3]
        refine lv_iconst (v := 2) hx hb d_Mo_kindOf_26 (by decide) ?_
        refine lv_goto (tgt := 51) hx hb d_Mo_kindOf_27 (by decide) ?_
        exact W.iret (v := 2) hx hb hr (v_end hV ⟨by rw [hE], rfl, hz⟩) hV.2.1.2.2 d_Mo_kindOf_51
    · have hE : kindI c = 1 := by unfold kindI; rw [if_neg hk0, if_pos c_2]
      refine lv_iconst (v := 1) hx hb d_Mo_kindOf_16 (by decide) ?_
      refine lv_goto (tgt := 51) hx hb d_Mo_kindOf_17 (by decide) ?_
      exact W.iret (v := 1) hx hb hr (v_end hV ⟨by rw [hE], rfl, hz⟩) hV.2.1.2.2 d_Mo_kindOf_51
  · have hE : kindI c = 0 := by unfold kindI; rw [if_pos c_1]
    refine lv_iconst (v := 0) hx hb d_Mo_kindOf_6 (by decide) ?_
    refine lv_goto (tgt := 51) hx hb d_Mo_kindOf_7 (by decide) ?_
    exact W.iret (v := 0) hx hb hr (v_end hV ⟨by rw [hE], rfl, hz⟩) hV.2.1.2.2 d_Mo_kindOf_51
