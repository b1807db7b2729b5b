/-! THE REFERENCE'S TOWN: pieces in rows of 29 numbers, spots in 62, barred turns in threes -/
def thI {α : Type} : Sum Nat α → Int32
  | .inl k => nI k
  | .inr _ => 0
def vaI : Sum Nat Int32 → Int32
  | .inl _ => 0
  | .inr v => v
def mpR (P : Nat → Int32) (p : Nat) (R : PcR) : Prop := P p = 1 ∧ P (p + 1) = nI R.1.1 ∧ P (p + 2) = nI R.1.2.2 ∧ P (p + 3) = b2i R.1.2.1 ∧ P (p + 4) = nI R.2.1.1 ∧ P (p + 5) = nI R.2.1.2.1 ∧ P (p + 6) = nI R.2.1.2.2 ∧ P (p + 7) = nI R.2.2.1.length ∧
  (∀ i, i < R.2.2.1.length → P (p + 8 + 3 * i) = nI (R.2.2.1.getD i z3).1 ∧ P (p + 8 + 3 * i + 1) = nI (R.2.2.1.getD i z3).2.1 ∧ P (p + 8 + 3 * i + 2) = nI (R.2.2.1.getD i z3).2.2) ∧
  P (p + 17) = nI R.2.2.2.1.1 ∧ P (p + 18) = nI R.2.2.2.1.2 ∧ P (p + 19) = nmA R.2.2.2.2 ∧ P (p + 20) = nI (nmL R.2.2.2.2).length ∧ ∀ i, i < (nmL R.2.2.2.2).length → P (p + 21 + i) = nI ((nmL R.2.2.2.2).getD i 0)
def mpA (P : Nat → Int32) (Q : Nat → Option PcR) : Prop := ∀ j, 1 ≤ j → j ≤ 60 → (P (29 * j) = 0 ∧ Q j = none) ∨ ∃ R, Q j = some R ∧ mpR P (29 * j) R ∧ pcV R
def msA (sp al : Nat → Int32) (B S : Nat → Option (Nat × Nat)) : Prop := spOk sp al B ∧ spOk (fun j => sp (31 + j)) (fun j => al (31 + j)) S ∧ sp 31 = 0
def mbA (b : Nat → Int32) (L : List Tri) : Prop := ∀ i, i < L.length → b (3 * i) = nI (L.getD i z3).1 ∧ b (3 * i + 1) = nI (L.getD i z3).2.1 ∧ b (3 * i + 2) = nI (L.getD i z3).2.2 ∧ (L.getD i z3).1 < 41 ∧ (L.getD i z3).2.1 < 41 ∧ (L.getD i z3).2.2 < 41
def askN (x y : Nat) : Nat := if x = 0 then 1 else if y = 0 then 2 else 0
/-- among the first i -/
def hasT (L : List Tri) (x : Tri) : Nat → Bool
  | 0 => false
  | i + 1 => hasT L x i || decide (L.getD i z3 = x)
theorem hasT_mem {L : List Tri} {x : Tri} : ∀ i, i ≤ L.length → (hasT L x i = true ↔ x ∈ L.take i)
  | 0, _ => by simp [hasT]
  | i + 1, h => by
    have h2 := hasT_mem (L := L) (x := x) i (by omega)
    rw [List.take_succ_eq_append_getElem (by omega), List.mem_append, ← h2]
    simp only [hasT, Bool.or_eq_true, decide_eq_true_eq, List.mem_singleton]
    rw [show L.getD i z3 = L[i] by rw [List.getD_eq_getElem?_getD, List.getElem?_eq_getElem (by omega)]; rfl]
    constructor
    · rintro (h | h)
      · exact Or.inl h
      · exact Or.inr h.symm
    · rintro (h | h)
      · exact Or.inl h
      · exact Or.inr h.symm
theorem hasT_all {L : List Tri} {x : Tri} : hasT L x L.length = decide (x ∈ L) := by
  have h := hasT_mem (L := L) (x := x) L.length (Nat.le_refl _)
  rw [List.take_length] at h
  by_cases hx : x ∈ L
  · rw [decide_eq_true hx]; exact h.mpr hx
  · rw [decide_eq_false hx]
    cases hh : hasT L x L.length with
    | false => rfl
    | true => exact absurd (h.mp hh) hx
theorem hasT_mono {L : List Tri} {x : Tri} {i : Nat} (h : hasT L x i = true) : ∀ k, i ≤ k → hasT L x k = true
  | 0, hk => by rw [show i = 0 by omega] at h; exact h
  | k + 1, hk => by
    by_cases he : i = k + 1
    · rw [← he]; exact h
    · simp [hasT, hasT_mono h k (by omega)]
theorem inI_bd {x : Int32} {a b : Nat} (ha : a < 2 ^ 31) (hb : b < 2 ^ 31) (h : inI x (nI a) (nI b) = true) : ∃ j, a ≤ j ∧ j ≤ b ∧ x = nI j := by
  simp only [inI, Bool.and_eq_true, Bool.not_eq_true', decide_eq_false_iff_not] at h
  exact nI_bd hb h.1 h.2 ha
theorem inI_no {x : Int32} {a b : Nat} (h : inI x (nI a) (nI b) = false) : ¬ (nI a ≤ x ∧ x ≤ nI b) := by
  rintro ⟨h1, h2⟩
  simp only [inI, decide_eq_false (Int32.not_lt.mpr h1), decide_eq_false (Int32.not_lt.mpr h2), Bool.not_false, Bool.and_self] at h
  cases h
theorem inI_lt {x : Int32} {a b : Nat} (h : inI x (nI a) (nI b) = false) : x < nI a ∨ nI b < x := by
  by_cases h1 : x < nI a
  · exact Or.inl h1
  · by_cases h2 : nI b < x
    · exact Or.inr h2
    · exact absurd ⟨Int32.not_lt.mp h1, Int32.not_lt.mp h2⟩ (inI_no h)
theorem qF_out {Q : Nat → Option PcR} {x : Int32} (h : inI x (nI 1) (nI 60) = false) : qF Q x = none := if_neg (inI_no h)
theorem qF_in {Q : Nat → Option PcR} {j : Nat} (h1 : 1 ≤ j) (h2 : j ≤ 60) : qF Q (nI j) = Q j := by
  unfold qF
  rw [if_pos ⟨nI_le h1 (by omega), nI_le h2 (by omega)⟩, nI_clamp (by omega)]
theorem isN_in (x : Int32) : isN x = inI x (nI 1) (nI 40) := rfl

theorem d_Mo_isBarred_0 : decode b_Mo_isBarred 0 = .ok (.iconst 0, 1) := by decide +kernel
theorem d_Mo_isBarred_1 : decode b_Mo_isBarred 1 = .ok (.istore 5, 2) := by decide +kernel
theorem d_Mo_isBarred_3 : decode b_Mo_isBarred 3 = .ok (.iload 5, 2) := by decide +kernel
theorem d_Mo_isBarred_5 : decode b_Mo_isBarred 5 = .ok (.iload_n 1, 1) := by decide +kernel
theorem d_Mo_isBarred_6 : decode b_Mo_isBarred 6 = .ok (.if_icmp .ge 55, 3) := by decide +kernel
theorem d_Mo_isBarred_9 : decode b_Mo_isBarred 9 = .ok (.aload_n 0, 1) := by decide +kernel
theorem d_Mo_isBarred_10 : decode b_Mo_isBarred 10 = .ok (.getfield 26, 3) := by decide +kernel
theorem d_Mo_isBarred_13 : decode b_Mo_isBarred 13 = .ok (.iconst 3, 1) := by decide +kernel
theorem d_Mo_isBarred_14 : decode b_Mo_isBarred 14 = .ok (.iload 5, 2) := by decide +kernel
theorem d_Mo_isBarred_16 : decode b_Mo_isBarred 16 = .ok (.imul, 1) := by decide +kernel
theorem d_Mo_isBarred_17 : decode b_Mo_isBarred 17 = .ok (.iaload, 1) := by decide +kernel
theorem d_Mo_isBarred_18 : decode b_Mo_isBarred 18 = .ok (.iload_n 2, 1) := by decide +kernel
theorem d_Mo_isBarred_19 : decode b_Mo_isBarred 19 = .ok (.if_icmp .ne 36, 3) := by decide +kernel
theorem d_Mo_isBarred_22 : decode b_Mo_isBarred 22 = .ok (.aload_n 0, 1) := by decide +kernel
theorem d_Mo_isBarred_23 : decode b_Mo_isBarred 23 = .ok (.getfield 26, 3) := by decide +kernel
theorem d_Mo_isBarred_26 : decode b_Mo_isBarred 26 = .ok (.iconst 3, 1) := by decide +kernel
theorem d_Mo_isBarred_27 : decode b_Mo_isBarred 27 = .ok (.iload 5, 2) := by decide +kernel
theorem d_Mo_isBarred_29 : decode b_Mo_isBarred 29 = .ok (.imul, 1) := by decide +kernel
theorem d_Mo_isBarred_30 : decode b_Mo_isBarred 30 = .ok (.iconst 1, 1) := by decide +kernel
theorem d_Mo_isBarred_31 : decode b_Mo_isBarred 31 = .ok (.iadd, 1) := by decide +kernel
theorem d_Mo_isBarred_32 : decode b_Mo_isBarred 32 = .ok (.iaload, 1) := by decide +kernel
theorem d_Mo_isBarred_33 : decode b_Mo_isBarred 33 = .ok (.iload_n 3, 1) := by decide +kernel
theorem d_Mo_isBarred_34 : decode b_Mo_isBarred 34 = .ok (.if_icmp .ne 21, 3) := by decide +kernel
theorem d_Mo_isBarred_37 : decode b_Mo_isBarred 37 = .ok (.aload_n 0, 1) := by decide +kernel
theorem d_Mo_isBarred_38 : decode b_Mo_isBarred 38 = .ok (.getfield 26, 3) := by decide +kernel
theorem d_Mo_isBarred_41 : decode b_Mo_isBarred 41 = .ok (.iconst 3, 1) := by decide +kernel
theorem d_Mo_isBarred_42 : decode b_Mo_isBarred 42 = .ok (.iload 5, 2) := by decide +kernel
theorem d_Mo_isBarred_44 : decode b_Mo_isBarred 44 = .ok (.imul, 1) := by decide +kernel
theorem d_Mo_isBarred_45 : decode b_Mo_isBarred 45 = .ok (.iconst 2, 1) := by decide +kernel
theorem d_Mo_isBarred_46 : decode b_Mo_isBarred 46 = .ok (.iadd, 1) := by decide +kernel
theorem d_Mo_isBarred_47 : decode b_Mo_isBarred 47 = .ok (.iaload, 1) := by decide +kernel
theorem d_Mo_isBarred_48 : decode b_Mo_isBarred 48 = .ok (.iload 4, 2) := by decide +kernel
theorem d_Mo_isBarred_50 : decode b_Mo_isBarred 50 = .ok (.if_icmp .ne 5, 3) := by decide +kernel
theorem d_Mo_isBarred_53 : decode b_Mo_isBarred 53 = .ok (.iconst 1, 1) := by decide +kernel
theorem d_Mo_isBarred_54 : decode b_Mo_isBarred 54 = .ok (.ireturn, 1) := by decide +kernel
theorem d_Mo_isBarred_55 : decode b_Mo_isBarred 55 = .ok (.iinc 5 1, 3) := by decide +kernel
theorem d_Mo_isBarred_58 : decode b_Mo_isBarred 58 = .ok (.goto (-55), 3) := by decide +kernel
theorem d_Mo_isBarred_61 : decode b_Mo_isBarred 61 = .ok (.iconst 0, 1) := by decide +kernel
theorem d_Mo_isBarred_62 : decode b_Mo_isBarred 62 = .ok (.ireturn, 1) := by decide +kernel
theorem d_Mo_pieces_0 : decode b_Mo_pieces 0 = .ok (.iconst 0, 1) := by decide +kernel
theorem d_Mo_pieces_1 : decode b_Mo_pieces 1 = .ok (.istore_n 1, 1) := by decide +kernel
theorem d_Mo_pieces_2 : decode b_Mo_pieces 2 = .ok (.iconst 1, 1) := by decide +kernel
theorem d_Mo_pieces_3 : decode b_Mo_pieces 3 = .ok (.istore_n 2, 1) := by decide +kernel
theorem d_Mo_pieces_4 : decode b_Mo_pieces 4 = .ok (.iload_n 2, 1) := by decide +kernel
theorem d_Mo_pieces_5 : decode b_Mo_pieces 5 = .ok (.bipush 61, 2) := by decide +kernel
theorem d_Mo_pieces_7 : decode b_Mo_pieces 7 = .ok (.if_icmp .ge 23, 3) := by decide +kernel
theorem d_Mo_pieces_10 : decode b_Mo_pieces 10 = .ok (.iload_n 1, 1) := by decide +kernel
theorem d_Mo_pieces_11 : decode b_Mo_pieces 11 = .ok (.aload_n 0, 1) := by decide +kernel
theorem d_Mo_pieces_12 : decode b_Mo_pieces 12 = .ok (.getfield 17, 3) := by decide +kernel
theorem d_Mo_pieces_15 : decode b_Mo_pieces 15 = .ok (.iload_n 2, 1) := by decide +kernel
theorem d_Mo_pieces_16 : decode b_Mo_pieces 16 = .ok (.bipush 29, 2) := by decide +kernel
theorem d_Mo_pieces_18 : decode b_Mo_pieces 18 = .ok (.imul, 1) := by decide +kernel
theorem d_Mo_pieces_19 : decode b_Mo_pieces 19 = .ok (.iconst 0, 1) := by decide +kernel
theorem d_Mo_pieces_20 : decode b_Mo_pieces 20 = .ok (.iadd, 1) := by decide +kernel
theorem d_Mo_pieces_21 : decode b_Mo_pieces 21 = .ok (.iaload, 1) := by decide +kernel
theorem d_Mo_pieces_22 : decode b_Mo_pieces 22 = .ok (.iadd, 1) := by decide +kernel
theorem d_Mo_pieces_23 : decode b_Mo_pieces 23 = .ok (.istore_n 1, 1) := by decide +kernel
theorem d_Mo_pieces_24 : decode b_Mo_pieces 24 = .ok (.iinc 2 1, 3) := by decide +kernel
theorem d_Mo_pieces_27 : decode b_Mo_pieces 27 = .ok (.goto (-23), 3) := by decide +kernel
theorem d_Mo_pieces_30 : decode b_Mo_pieces 30 = .ok (.iload_n 1, 1) := by decide +kernel
theorem d_Mo_pieces_31 : decode b_Mo_pieces 31 = .ok (.ireturn, 1) := by decide +kernel
theorem d_Mo_place_0 : decode b_Mo_place 0 = .ok (.aload_n 0, 1) := by decide +kernel
theorem d_Mo_place_1 : decode b_Mo_place 1 = .ok (.iconst 0, 1) := by decide +kernel
theorem d_Mo_place_2 : decode b_Mo_place 2 = .ok (.putfield 51, 3) := by decide +kernel
theorem d_Mo_place_5 : decode b_Mo_place 5 = .ok (.aload_n 0, 1) := by decide +kernel
theorem d_Mo_place_6 : decode b_Mo_place 6 = .ok (.getfield 13, 3) := by decide +kernel
theorem d_Mo_place_9 : decode b_Mo_place 9 = .ok (.ireturn, 1) := by decide +kernel
theorem d_Mo_isPiece_0 : decode b_Mo_isPiece 0 = .ok (.iload_n 1, 1) := by decide +kernel
theorem d_Mo_isPiece_1 : decode b_Mo_isPiece 1 = .ok (.iconst 1, 1) := by decide +kernel
theorem d_Mo_isPiece_2 : decode b_Mo_isPiece 2 = .ok (.bipush 60, 2) := by decide +kernel
theorem d_Mo_isPiece_4 : decode b_Mo_isPiece 4 = .ok (.invokestatic 54, 3) := by decide +kernel
theorem d_Mo_isPiece_7 : decode b_Mo_isPiece 7 = .ok (.ifCond .eq 22, 3) := by decide +kernel
theorem d_Mo_isPiece_10 : decode b_Mo_isPiece 10 = .ok (.aload_n 0, 1) := by decide +kernel
theorem d_Mo_isPiece_11 : decode b_Mo_isPiece 11 = .ok (.getfield 17, 3) := by decide +kernel
theorem d_Mo_isPiece_14 : decode b_Mo_isPiece 14 = .ok (.iload_n 1, 1) := by decide +kernel
theorem d_Mo_isPiece_15 : decode b_Mo_isPiece 15 = .ok (.bipush 29, 2) := by decide +kernel
theorem d_Mo_isPiece_17 : decode b_Mo_isPiece 17 = .ok (.imul, 1) := by decide +kernel
theorem d_Mo_isPiece_18 : decode b_Mo_isPiece 18 = .ok (.iconst 0, 1) := by decide +kernel
theorem d_Mo_isPiece_19 : decode b_Mo_isPiece 19 = .ok (.iadd, 1) := by decide +kernel
theorem d_Mo_isPiece_20 : decode b_Mo_isPiece 20 = .ok (.iaload, 1) := by decide +kernel
theorem d_Mo_isPiece_21 : decode b_Mo_isPiece 21 = .ok (.iconst 1, 1) := by decide +kernel
theorem d_Mo_isPiece_22 : decode b_Mo_isPiece 22 = .ok (.if_icmp .ne 7, 3) := by decide +kernel
theorem d_Mo_isPiece_25 : decode b_Mo_isPiece 25 = .ok (.iconst 1, 1) := by decide +kernel
theorem d_Mo_isPiece_26 : decode b_Mo_isPiece 26 = .ok (.goto 4, 3) := by decide +kernel
theorem d_Mo_isPiece_29 : decode b_Mo_isPiece 29 = .ok (.iconst 0, 1) := by decide +kernel
theorem d_Mo_isPiece_30 : decode b_Mo_isPiece 30 = .ok (.ireturn, 1) := by decide +kernel
theorem d_Mo_asks_0 : decode b_Mo_asks 0 = .ok (.aload_n 0, 1) := by decide +kernel
theorem d_Mo_asks_1 : decode b_Mo_asks 1 = .ok (.iload_n 1, 1) := by decide +kernel
theorem d_Mo_asks_2 : decode b_Mo_asks 2 = .ok (.ifCond .ne 7, 3) := by decide +kernel
theorem d_Mo_asks_5 : decode b_Mo_asks 5 = .ok (.iconst 1, 1) := by decide +kernel
theorem d_Mo_asks_6 : decode b_Mo_asks 6 = .ok (.goto 12, 3) := by decide +kernel
theorem d_Mo_asks_9 : decode b_Mo_asks 9 = .ok (.iload_n 2, 1) := by decide +kernel
theorem d_Mo_asks_10 : decode b_Mo_asks 10 = .ok (.ifCond .ne 7, 3) := by decide +kernel
theorem d_Mo_asks_13 : decode b_Mo_asks 13 = .ok (.iconst 2, 1) := by decide +kernel
theorem d_Mo_asks_14 : decode b_Mo_asks 14 = .ok (.goto 4, 3) := by decide +kernel
theorem d_Mo_asks_17 : decode b_Mo_asks 17 = .ok (.iconst 0, 1) := by decide +kernel
theorem d_Mo_asks_18 : decode b_Mo_asks 18 = .ok (.putfield 51, 3) := by decide +kernel
theorem d_Mo_asks_21 : decode b_Mo_asks 21 = .ok (.aload_n 0, 1) := by decide +kernel
theorem d_Mo_asks_22 : decode b_Mo_asks 22 = .ok (.getfield 51, 3) := by decide +kernel
theorem d_Mo_asks_25 : decode b_Mo_asks 25 = .ok (.ifCond .ne 7, 3) := by decide +kernel
theorem d_Mo_asks_28 : decode b_Mo_asks 28 = .ok (.iconst 1, 1) := by decide +kernel
theorem d_Mo_asks_29 : decode b_Mo_asks 29 = .ok (.goto 4, 3) := by decide +kernel
theorem d_Mo_asks_32 : decode b_Mo_asks 32 = .ok (.iconst 0, 1) := by decide +kernel
theorem d_Mo_asks_33 : decode b_Mo_asks 33 = .ok (.ireturn, 1) := by decide +kernel
theorem d_Mo_piece_0 : decode b_Mo_piece 0 = .ok (.aload_n 0, 1) := by decide +kernel
theorem d_Mo_piece_1 : decode b_Mo_piece 1 = .ok (.aload_n 0, 1) := by decide +kernel
theorem d_Mo_piece_2 : decode b_Mo_piece 2 = .ok (.iload_n 1, 1) := by decide +kernel
theorem d_Mo_piece_3 : decode b_Mo_piece 3 = .ok (.invokevirtual 129, 3) := by decide +kernel
theorem d_Mo_piece_6 : decode b_Mo_piece 6 = .ok (.iload_n 2, 1) := by decide +kernel
theorem d_Mo_piece_7 : decode b_Mo_piece 7 = .ok (.iconst 0, 1) := by decide +kernel
theorem d_Mo_piece_8 : decode b_Mo_piece 8 = .ok (.bipush 7, 2) := by decide +kernel
theorem d_Mo_piece_10 : decode b_Mo_piece 10 = .ok (.invokestatic 54, 3) := by decide +kernel
theorem d_Mo_piece_13 : decode b_Mo_piece 13 = .ok (.invokevirtual 132, 3) := by decide +kernel
theorem d_Mo_piece_16 : decode b_Mo_piece 16 = .ok (.ifCond .ne 5, 3) := by decide +kernel
theorem d_Mo_piece_19 : decode b_Mo_piece 19 = .ok (.iconst 0, 1) := by decide +kernel
theorem d_Mo_piece_20 : decode b_Mo_piece 20 = .ok (.ireturn, 1) := by decide +kernel
theorem d_Mo_piece_21 : decode b_Mo_piece 21 = .ok (.iload_n 1, 1) := by decide +kernel
theorem d_Mo_piece_22 : decode b_Mo_piece 22 = .ok (.bipush 29, 2) := by decide +kernel
theorem d_Mo_piece_24 : decode b_Mo_piece 24 = .ok (.imul, 1) := by decide +kernel
theorem d_Mo_piece_25 : decode b_Mo_piece 25 = .ok (.istore_n 3, 1) := by decide +kernel
theorem d_Mo_piece_26 : decode b_Mo_piece 26 = .ok (.aload_n 0, 1) := by decide +kernel
theorem d_Mo_piece_27 : decode b_Mo_piece 27 = .ok (.getfield 17, 3) := by decide +kernel
theorem d_Mo_piece_30 : decode b_Mo_piece 30 = .ok (.iload_n 3, 1) := by decide +kernel
theorem d_Mo_piece_31 : decode b_Mo_piece 31 = .ok (.iload_n 2, 1) := by decide +kernel
theorem d_Mo_piece_32 : decode b_Mo_piece 32 = .ok (.ifCond .ne 7, 3) := by decide +kernel
theorem d_Mo_piece_35 : decode b_Mo_piece 35 = .ok (.iconst 1, 1) := by decide +kernel
theorem d_Mo_piece_36 : decode b_Mo_piece 36 = .ok (.goto 62, 3) := by decide +kernel
theorem d_Mo_piece_39 : decode b_Mo_piece 39 = .ok (.iload_n 2, 1) := by decide +kernel
theorem d_Mo_piece_40 : decode b_Mo_piece 40 = .ok (.iconst 1, 1) := by decide +kernel
theorem d_Mo_piece_41 : decode b_Mo_piece 41 = .ok (.if_icmp .ne 7, 3) := by decide +kernel
theorem d_Mo_piece_44 : decode b_Mo_piece 44 = .ok (.iconst 2, 1) := by decide +kernel
theorem d_Mo_piece_45 : decode b_Mo_piece 45 = .ok (.goto 53, 3) := by decide +kernel
theorem d_Mo_piece_48 : decode b_Mo_piece 48 = .ok (.iload_n 2, 1) := by decide +kernel
theorem d_Mo_piece_49 : decode b_Mo_piece 49 = .ok (.iconst 2, 1) := by decide +kernel
theorem d_Mo_piece_50 : decode b_Mo_piece 50 = .ok (.if_icmp .ne 7, 3) := by decide +kernel
theorem d_Mo_piece_53 : decode b_Mo_piece 53 = .ok (.iconst 4, 1) := by decide +kernel
theorem d_Mo_piece_54 : decode b_Mo_piece 54 = .ok (.goto 44, 3) := by decide +kernel
theorem d_Mo_piece_57 : decode b_Mo_piece 57 = .ok (.iload_n 2, 1) := by decide +kernel
theorem d_Mo_piece_58 : decode b_Mo_piece 58 = .ok (.iconst 3, 1) := by decide +kernel
theorem d_Mo_piece_59 : decode b_Mo_piece 59 = .ok (.if_icmp .ne 7, 3) := by decide +kernel
theorem d_Mo_piece_62 : decode b_Mo_piece 62 = .ok (.iconst 5, 1) := by decide +kernel
theorem d_Mo_piece_63 : decode b_Mo_piece 63 = .ok (.goto 35, 3) := by decide +kernel
theorem d_Mo_piece_66 : decode b_Mo_piece 66 = .ok (.iload_n 2, 1) := by decide +kernel
theorem d_Mo_piece_67 : decode b_Mo_piece 67 = .ok (.iconst 4, 1) := by decide +kernel
theorem d_Mo_piece_68 : decode b_Mo_piece 68 = .ok (.if_icmp .ne 7, 3) := by decide +kernel
theorem d_Mo_piece_71 : decode b_Mo_piece 71 = .ok (.iconst 3, 1) := by decide +kernel
theorem d_Mo_piece_72 : decode b_Mo_piece 72 = .ok (.goto 26, 3) := by decide +kernel
theorem d_Mo_piece_75 : decode b_Mo_piece 75 = .ok (.iload_n 2, 1) := by decide +kernel
theorem d_Mo_piece_76 : decode b_Mo_piece 76 = .ok (.iconst 5, 1) := by decide +kernel
theorem d_Mo_piece_77 : decode b_Mo_piece 77 = .ok (.if_icmp .ne 8, 3) := by decide +kernel
theorem d_Mo_piece_80 : decode b_Mo_piece 80 = .ok (.bipush 17, 2) := by decide +kernel
theorem d_Mo_piece_82 : decode b_Mo_piece 82 = .ok (.goto 16, 3) := by decide +kernel
theorem d_Mo_piece_85 : decode b_Mo_piece 85 = .ok (.iload_n 2, 1) := by decide +kernel
theorem d_Mo_piece_86 : decode b_Mo_piece 86 = .ok (.bipush 6, 2) := by decide +kernel
theorem d_Mo_piece_88 : decode b_Mo_piece 88 = .ok (.if_icmp .ne 8, 3) := by decide +kernel
theorem d_Mo_piece_91 : decode b_Mo_piece 91 = .ok (.bipush 18, 2) := by decide +kernel
theorem d_Mo_piece_93 : decode b_Mo_piece 93 = .ok (.goto 5, 3) := by decide +kernel
theorem d_Mo_piece_96 : decode b_Mo_piece 96 = .ok (.bipush 19, 2) := by decide +kernel
theorem d_Mo_piece_98 : decode b_Mo_piece 98 = .ok (.iadd, 1) := by decide +kernel
theorem d_Mo_piece_99 : decode b_Mo_piece 99 = .ok (.iaload, 1) := by decide +kernel
theorem d_Mo_piece_100 : decode b_Mo_piece 100 = .ok (.ireturn, 1) := by decide +kernel
theorem d_Mo_speed_0 : decode b_Mo_speed 0 = .ok (.aload_n 0, 1) := by decide +kernel
theorem d_Mo_speed_1 : decode b_Mo_speed 1 = .ok (.aload_n 0, 1) := by decide +kernel
theorem d_Mo_speed_2 : decode b_Mo_speed 2 = .ok (.iload_n 1, 1) := by decide +kernel
theorem d_Mo_speed_3 : decode b_Mo_speed 3 = .ok (.invokevirtual 129, 3) := by decide +kernel
theorem d_Mo_speed_6 : decode b_Mo_speed 6 = .ok (.iload_n 2, 1) := by decide +kernel
theorem d_Mo_speed_7 : decode b_Mo_speed 7 = .ok (.iconst 0, 1) := by decide +kernel
theorem d_Mo_speed_8 : decode b_Mo_speed 8 = .ok (.bipush 23, 2) := by decide +kernel
theorem d_Mo_speed_10 : decode b_Mo_speed 10 = .ok (.invokestatic 54, 3) := by decide +kernel
theorem d_Mo_speed_13 : decode b_Mo_speed 13 = .ok (.invokevirtual 132, 3) := by decide +kernel
theorem d_Mo_speed_16 : decode b_Mo_speed 16 = .ok (.ifCond .ne 5, 3) := by decide +kernel
theorem d_Mo_speed_19 : decode b_Mo_speed 19 = .ok (.iconst 0, 1) := by decide +kernel
theorem d_Mo_speed_20 : decode b_Mo_speed 20 = .ok (.ireturn, 1) := by decide +kernel
theorem d_Mo_speed_21 : decode b_Mo_speed 21 = .ok (.iload_n 1, 1) := by decide +kernel
theorem d_Mo_speed_22 : decode b_Mo_speed 22 = .ok (.bipush 29, 2) := by decide +kernel
theorem d_Mo_speed_24 : decode b_Mo_speed 24 = .ok (.imul, 1) := by decide +kernel
theorem d_Mo_speed_25 : decode b_Mo_speed 25 = .ok (.istore_n 3, 1) := by decide +kernel
theorem d_Mo_speed_26 : decode b_Mo_speed 26 = .ok (.iconst 0, 1) := by decide +kernel
theorem d_Mo_speed_27 : decode b_Mo_speed 27 = .ok (.istore 4, 2) := by decide +kernel
theorem d_Mo_speed_29 : decode b_Mo_speed 29 = .ok (.iload 4, 2) := by decide +kernel
theorem d_Mo_speed_31 : decode b_Mo_speed 31 = .ok (.aload_n 0, 1) := by decide +kernel
theorem d_Mo_speed_32 : decode b_Mo_speed 32 = .ok (.getfield 17, 3) := by decide +kernel
theorem d_Mo_speed_35 : decode b_Mo_speed 35 = .ok (.iload_n 3, 1) := by decide +kernel
theorem d_Mo_speed_36 : decode b_Mo_speed 36 = .ok (.bipush 7, 2) := by decide +kernel
theorem d_Mo_speed_38 : decode b_Mo_speed 38 = .ok (.iadd, 1) := by decide +kernel
theorem d_Mo_speed_39 : decode b_Mo_speed 39 = .ok (.iaload, 1) := by decide +kernel
theorem d_Mo_speed_40 : decode b_Mo_speed 40 = .ok (.if_icmp .ge 63, 3) := by decide +kernel
theorem d_Mo_speed_43 : decode b_Mo_speed 43 = .ok (.iload_n 2, 1) := by decide +kernel
theorem d_Mo_speed_44 : decode b_Mo_speed 44 = .ok (.aload_n 0, 1) := by decide +kernel
theorem d_Mo_speed_45 : decode b_Mo_speed 45 = .ok (.getfield 17, 3) := by decide +kernel
theorem d_Mo_speed_48 : decode b_Mo_speed 48 = .ok (.iload_n 3, 1) := by decide +kernel
theorem d_Mo_speed_49 : decode b_Mo_speed 49 = .ok (.bipush 8, 2) := by decide +kernel
theorem d_Mo_speed_51 : decode b_Mo_speed 51 = .ok (.iadd, 1) := by decide +kernel
theorem d_Mo_speed_52 : decode b_Mo_speed 52 = .ok (.iconst 3, 1) := by decide +kernel
theorem d_Mo_speed_53 : decode b_Mo_speed 53 = .ok (.iload 4, 2) := by decide +kernel
theorem d_Mo_speed_55 : decode b_Mo_speed 55 = .ok (.imul, 1) := by decide +kernel
theorem d_Mo_speed_56 : decode b_Mo_speed 56 = .ok (.iadd, 1) := by decide +kernel
theorem d_Mo_speed_57 : decode b_Mo_speed 57 = .ok (.iaload, 1) := by decide +kernel
theorem d_Mo_speed_58 : decode b_Mo_speed 58 = .ok (.aload_n 0, 1) := by decide +kernel
theorem d_Mo_speed_59 : decode b_Mo_speed 59 = .ok (.getfield 17, 3) := by decide +kernel
theorem d_Mo_speed_62 : decode b_Mo_speed 62 = .ok (.iload_n 3, 1) := by decide +kernel
theorem d_Mo_speed_63 : decode b_Mo_speed 63 = .ok (.bipush 8, 2) := by decide +kernel
theorem d_Mo_speed_65 : decode b_Mo_speed 65 = .ok (.iadd, 1) := by decide +kernel
theorem d_Mo_speed_66 : decode b_Mo_speed 66 = .ok (.iconst 3, 1) := by decide +kernel
theorem d_Mo_speed_67 : decode b_Mo_speed 67 = .ok (.iload 4, 2) := by decide +kernel
theorem d_Mo_speed_69 : decode b_Mo_speed 69 = .ok (.imul, 1) := by decide +kernel
theorem d_Mo_speed_70 : decode b_Mo_speed 70 = .ok (.iadd, 1) := by decide +kernel
theorem d_Mo_speed_71 : decode b_Mo_speed 71 = .ok (.iconst 1, 1) := by decide +kernel
theorem d_Mo_speed_72 : decode b_Mo_speed 72 = .ok (.iadd, 1) := by decide +kernel
theorem d_Mo_speed_73 : decode b_Mo_speed 73 = .ok (.iaload, 1) := by decide +kernel
theorem d_Mo_speed_74 : decode b_Mo_speed 74 = .ok (.invokestatic 54, 3) := by decide +kernel
theorem d_Mo_speed_77 : decode b_Mo_speed 77 = .ok (.ifCond .eq 20, 3) := by decide +kernel
theorem d_Mo_speed_80 : decode b_Mo_speed 80 = .ok (.aload_n 0, 1) := by decide +kernel
theorem d_Mo_speed_81 : decode b_Mo_speed 81 = .ok (.getfield 17, 3) := by decide +kernel
theorem d_Mo_speed_84 : decode b_Mo_speed 84 = .ok (.iload_n 3, 1) := by decide +kernel
theorem d_Mo_speed_85 : decode b_Mo_speed 85 = .ok (.bipush 8, 2) := by decide +kernel
theorem d_Mo_speed_87 : decode b_Mo_speed 87 = .ok (.iadd, 1) := by decide +kernel
theorem d_Mo_speed_88 : decode b_Mo_speed 88 = .ok (.iconst 3, 1) := by decide +kernel
theorem d_Mo_speed_89 : decode b_Mo_speed 89 = .ok (.iload 4, 2) := by decide +kernel
theorem d_Mo_speed_91 : decode b_Mo_speed 91 = .ok (.imul, 1) := by decide +kernel
theorem d_Mo_speed_92 : decode b_Mo_speed 92 = .ok (.iadd, 1) := by decide +kernel
theorem d_Mo_speed_93 : decode b_Mo_speed 93 = .ok (.iconst 2, 1) := by decide +kernel
theorem d_Mo_speed_94 : decode b_Mo_speed 94 = .ok (.iadd, 1) := by decide +kernel
theorem d_Mo_speed_95 : decode b_Mo_speed 95 = .ok (.iaload, 1) := by decide +kernel
theorem d_Mo_speed_96 : decode b_Mo_speed 96 = .ok (.ireturn, 1) := by decide +kernel
theorem d_Mo_speed_97 : decode b_Mo_speed 97 = .ok (.iinc 4 1, 3) := by decide +kernel
theorem d_Mo_speed_100 : decode b_Mo_speed 100 = .ok (.goto (-71), 3) := by decide +kernel
theorem d_Mo_speed_103 : decode b_Mo_speed 103 = .ok (.aload_n 0, 1) := by decide +kernel
theorem d_Mo_speed_104 : decode b_Mo_speed 104 = .ok (.getfield 17, 3) := by decide +kernel
theorem d_Mo_speed_107 : decode b_Mo_speed 107 = .ok (.iload_n 3, 1) := by decide +kernel
theorem d_Mo_speed_108 : decode b_Mo_speed 108 = .ok (.bipush 6, 2) := by decide +kernel
theorem d_Mo_speed_110 : decode b_Mo_speed 110 = .ok (.iadd, 1) := by decide +kernel
theorem d_Mo_speed_111 : decode b_Mo_speed 111 = .ok (.iaload, 1) := by decide +kernel
theorem d_Mo_speed_112 : decode b_Mo_speed 112 = .ok (.ireturn, 1) := by decide +kernel
theorem d_Mo_name_0 : decode b_Mo_name 0 = .ok (.aload_n 0, 1) := by decide +kernel
theorem d_Mo_name_1 : decode b_Mo_name 1 = .ok (.aload_n 0, 1) := by decide +kernel
theorem d_Mo_name_2 : decode b_Mo_name 2 = .ok (.iload_n 1, 1) := by decide +kernel
theorem d_Mo_name_3 : decode b_Mo_name 3 = .ok (.invokevirtual 129, 3) := by decide +kernel
theorem d_Mo_name_6 : decode b_Mo_name 6 = .ok (.iload_n 2, 1) := by decide +kernel
theorem d_Mo_name_7 : decode b_Mo_name 7 = .ok (.ifCond .lt 7, 3) := by decide +kernel
theorem d_Mo_name_10 : decode b_Mo_name 10 = .ok (.iconst 1, 1) := by decide +kernel
theorem d_Mo_name_11 : decode b_Mo_name 11 = .ok (.goto 4, 3) := by decide +kernel
theorem d_Mo_name_14 : decode b_Mo_name 14 = .ok (.iconst 0, 1) := by decide +kernel
theorem d_Mo_name_15 : decode b_Mo_name 15 = .ok (.invokevirtual 132, 3) := by decide +kernel
theorem d_Mo_name_18 : decode b_Mo_name 18 = .ok (.ifCond .ne 5, 3) := by decide +kernel
theorem d_Mo_name_21 : decode b_Mo_name 21 = .ok (.iconst 0, 1) := by decide +kernel
theorem d_Mo_name_22 : decode b_Mo_name 22 = .ok (.ireturn, 1) := by decide +kernel
theorem d_Mo_name_23 : decode b_Mo_name 23 = .ok (.iload_n 2, 1) := by decide +kernel
theorem d_Mo_name_24 : decode b_Mo_name 24 = .ok (.aload_n 0, 1) := by decide +kernel
theorem d_Mo_name_25 : decode b_Mo_name 25 = .ok (.getfield 17, 3) := by decide +kernel
theorem d_Mo_name_28 : decode b_Mo_name 28 = .ok (.iload_n 1, 1) := by decide +kernel
theorem d_Mo_name_29 : decode b_Mo_name 29 = .ok (.bipush 29, 2) := by decide +kernel
theorem d_Mo_name_31 : decode b_Mo_name 31 = .ok (.imul, 1) := by decide +kernel
theorem d_Mo_name_32 : decode b_Mo_name 32 = .ok (.bipush 20, 2) := by decide +kernel
theorem d_Mo_name_34 : decode b_Mo_name 34 = .ok (.iadd, 1) := by decide +kernel
theorem d_Mo_name_35 : decode b_Mo_name 35 = .ok (.iaload, 1) := by decide +kernel
theorem d_Mo_name_36 : decode b_Mo_name 36 = .ok (.if_icmp .ge 20, 3) := by decide +kernel
theorem d_Mo_name_39 : decode b_Mo_name 39 = .ok (.aload_n 0, 1) := by decide +kernel
theorem d_Mo_name_40 : decode b_Mo_name 40 = .ok (.getfield 17, 3) := by decide +kernel
theorem d_Mo_name_43 : decode b_Mo_name 43 = .ok (.iload_n 1, 1) := by decide +kernel
theorem d_Mo_name_44 : decode b_Mo_name 44 = .ok (.bipush 29, 2) := by decide +kernel
theorem d_Mo_name_46 : decode b_Mo_name 46 = .ok (.imul, 1) := by decide +kernel
theorem d_Mo_name_47 : decode b_Mo_name 47 = .ok (.bipush 21, 2) := by decide +kernel
theorem d_Mo_name_49 : decode b_Mo_name 49 = .ok (.iadd, 1) := by decide +kernel
theorem d_Mo_name_50 : decode b_Mo_name 50 = .ok (.iload_n 2, 1) := by decide +kernel
theorem d_Mo_name_51 : decode b_Mo_name 51 = .ok (.iadd, 1) := by decide +kernel
theorem d_Mo_name_52 : decode b_Mo_name 52 = .ok (.iaload, 1) := by decide +kernel
theorem d_Mo_name_53 : decode b_Mo_name 53 = .ok (.goto 4, 3) := by decide +kernel
theorem d_Mo_name_56 : decode b_Mo_name 56 = .ok (.iconst (-1), 1) := by decide +kernel
theorem d_Mo_name_57 : decode b_Mo_name 57 = .ok (.ireturn, 1) := by decide +kernel
theorem d_Mo_isNode_0 : decode b_Mo_isNode 0 = .ok (.iload_n 0, 1) := by decide +kernel
theorem d_Mo_isNode_1 : decode b_Mo_isNode 1 = .ok (.iconst 1, 1) := by decide +kernel
theorem d_Mo_isNode_2 : decode b_Mo_isNode 2 = .ok (.bipush 40, 2) := by decide +kernel
theorem d_Mo_isNode_4 : decode b_Mo_isNode 4 = .ok (.invokestatic 54, 3) := by decide +kernel
theorem d_Mo_isNode_7 : decode b_Mo_isNode 7 = .ok (.ireturn, 1) := by decide +kernel
theorem d_Mo_barred_0 : decode b_Mo_barred 0 = .ok (.aload_n 0, 1) := by decide +kernel
theorem d_Mo_barred_1 : decode b_Mo_barred 1 = .ok (.iload_n 1, 1) := by decide +kernel
theorem d_Mo_barred_2 : decode b_Mo_barred 2 = .ok (.invokestatic 136, 3) := by decide +kernel
theorem d_Mo_barred_5 : decode b_Mo_barred 5 = .ok (.ifCond .eq 21, 3) := by decide +kernel
theorem d_Mo_barred_8 : decode b_Mo_barred 8 = .ok (.iload_n 2, 1) := by decide +kernel
theorem d_Mo_barred_9 : decode b_Mo_barred 9 = .ok (.invokestatic 136, 3) := by decide +kernel
theorem d_Mo_barred_12 : decode b_Mo_barred 12 = .ok (.ifCond .eq 14, 3) := by decide +kernel
theorem d_Mo_barred_15 : decode b_Mo_barred 15 = .ok (.iload_n 3, 1) := by decide +kernel
theorem d_Mo_barred_16 : decode b_Mo_barred 16 = .ok (.invokestatic 136, 3) := by decide +kernel
theorem d_Mo_barred_19 : decode b_Mo_barred 19 = .ok (.ifCond .eq 7, 3) := by decide +kernel
theorem d_Mo_barred_22 : decode b_Mo_barred 22 = .ok (.iconst 1, 1) := by decide +kernel
theorem d_Mo_barred_23 : decode b_Mo_barred 23 = .ok (.goto 4, 3) := by decide +kernel
theorem d_Mo_barred_26 : decode b_Mo_barred 26 = .ok (.iconst 0, 1) := by decide +kernel
theorem d_Mo_barred_27 : decode b_Mo_barred 27 = .ok (.iconst 1, 1) := by decide +kernel
theorem d_Mo_barred_28 : decode b_Mo_barred 28 = .ok (.invokevirtual 132, 3) := by decide +kernel
theorem d_Mo_barred_31 : decode b_Mo_barred 31 = .ok (.ifCond .eq 21, 3) := by decide +kernel
theorem d_Mo_barred_34 : decode b_Mo_barred 34 = .ok (.aload_n 0, 1) := by decide +kernel
theorem d_Mo_barred_35 : decode b_Mo_barred 35 = .ok (.aload_n 0, 1) := by decide +kernel
theorem d_Mo_barred_36 : decode b_Mo_barred 36 = .ok (.getfield 111, 3) := by decide +kernel
theorem d_Mo_barred_39 : decode b_Mo_barred 39 = .ok (.iload_n 1, 1) := by decide +kernel
theorem d_Mo_barred_40 : decode b_Mo_barred 40 = .ok (.iload_n 2, 1) := by decide +kernel
theorem d_Mo_barred_41 : decode b_Mo_barred 41 = .ok (.iload_n 3, 1) := by decide +kernel
theorem d_Mo_barred_42 : decode b_Mo_barred 42 = .ok (.invokevirtual 107, 3) := by decide +kernel
theorem d_Mo_barred_45 : decode b_Mo_barred 45 = .ok (.ifCond .eq 7, 3) := by decide +kernel
theorem d_Mo_barred_48 : decode b_Mo_barred 48 = .ok (.iconst 1, 1) := by decide +kernel
theorem d_Mo_barred_49 : decode b_Mo_barred 49 = .ok (.goto 4, 3) := by decide +kernel
theorem d_Mo_barred_52 : decode b_Mo_barred 52 = .ok (.iconst 0, 1) := by decide +kernel
theorem d_Mo_barred_53 : decode b_Mo_barred 53 = .ok (.ireturn, 1) := by decide +kernel
theorem d_Mo_clear_0 : decode b_Mo_clear 0 = .ok (.aload_n 0, 1) := by decide +kernel
theorem d_Mo_clear_1 : decode b_Mo_clear 1 = .ok (.iconst 0, 1) := by decide +kernel
theorem d_Mo_clear_2 : decode b_Mo_clear 2 = .ok (.putfield 51, 3) := by decide +kernel
theorem d_Mo_clear_5 : decode b_Mo_clear 5 = .ok (.aload_n 0, 1) := by decide +kernel
theorem d_Mo_clear_6 : decode b_Mo_clear 6 = .ok (.getfield 111, 3) := by decide +kernel
theorem d_Mo_clear_9 : decode b_Mo_clear 9 = .ok (.istore_n 1, 1) := by decide +kernel
theorem d_Mo_clear_10 : decode b_Mo_clear 10 = .ok (.aload_n 0, 1) := by decide +kernel
theorem d_Mo_clear_11 : decode b_Mo_clear 11 = .ok (.iconst 0, 1) := by decide +kernel
theorem d_Mo_clear_12 : decode b_Mo_clear 12 = .ok (.putfield 111, 3) := by decide +kernel
theorem d_Mo_clear_15 : decode b_Mo_clear 15 = .ok (.iload_n 1, 1) := by decide +kernel
theorem d_Mo_clear_16 : decode b_Mo_clear 16 = .ok (.ireturn, 1) := by decide +kernel
theorem d_Mo_spotAt_0 : decode b_Mo_spotAt 0 = .ok (.iload_n 1, 1) := by decide +kernel
theorem d_Mo_spotAt_1 : decode b_Mo_spotAt 1 = .ok (.ifCond .eq 10, 3) := by decide +kernel
theorem d_Mo_spotAt_4 : decode b_Mo_spotAt 4 = .ok (.bipush 31, 2) := by decide +kernel
theorem d_Mo_spotAt_6 : decode b_Mo_spotAt 6 = .ok (.iload_n 0, 1) := by decide +kernel
theorem d_Mo_spotAt_7 : decode b_Mo_spotAt 7 = .ok (.iadd, 1) := by decide +kernel
theorem d_Mo_spotAt_8 : decode b_Mo_spotAt 8 = .ok (.goto 4, 3) := by decide +kernel
theorem d_Mo_spotAt_11 : decode b_Mo_spotAt 11 = .ok (.iload_n 0, 1) := by decide +kernel
theorem d_Mo_spotAt_12 : decode b_Mo_spotAt 12 = .ok (.ireturn, 1) := by decide +kernel
theorem d_Mo_spot_0 : decode b_Mo_spot 0 = .ok (.aload_n 0, 1) := by decide +kernel
theorem d_Mo_spot_1 : decode b_Mo_spot 1 = .ok (.iload_n 1, 1) := by decide +kernel
theorem d_Mo_spot_2 : decode b_Mo_spot 2 = .ok (.iconst 1, 1) := by decide +kernel
theorem d_Mo_spot_3 : decode b_Mo_spot 3 = .ok (.bipush 30, 2) := by decide +kernel
theorem d_Mo_spot_5 : decode b_Mo_spot 5 = .ok (.invokestatic 54, 3) := by decide +kernel
theorem d_Mo_spot_8 : decode b_Mo_spot 8 = .ok (.ifCond .eq 34, 3) := by decide +kernel
theorem d_Mo_spot_11 : decode b_Mo_spot 11 = .ok (.aload_n 0, 1) := by decide +kernel
theorem d_Mo_spot_12 : decode b_Mo_spot 12 = .ok (.getfield 20, 3) := by decide +kernel
theorem d_Mo_spot_15 : decode b_Mo_spot 15 = .ok (.iload_n 1, 1) := by decide +kernel
theorem d_Mo_spot_16 : decode b_Mo_spot 16 = .ok (.iconst 1, 1) := by decide +kernel
theorem d_Mo_spot_17 : decode b_Mo_spot 17 = .ok (.bipush 30, 2) := by decide +kernel
theorem d_Mo_spot_19 : decode b_Mo_spot 19 = .ok (.invokestatic 54, 3) := by decide +kernel
theorem d_Mo_spot_22 : decode b_Mo_spot 22 = .ok (.ifCond .eq 7, 3) := by decide +kernel
theorem d_Mo_spot_25 : decode b_Mo_spot 25 = .ok (.iload_n 1, 1) := by decide +kernel
theorem d_Mo_spot_26 : decode b_Mo_spot 26 = .ok (.goto 4, 3) := by decide +kernel
theorem d_Mo_spot_29 : decode b_Mo_spot 29 = .ok (.iconst 0, 1) := by decide +kernel
theorem d_Mo_spot_30 : decode b_Mo_spot 30 = .ok (.iload_n 2, 1) := by decide +kernel
theorem d_Mo_spot_31 : decode b_Mo_spot 31 = .ok (.invokestatic 139, 3) := by decide +kernel
theorem d_Mo_spot_34 : decode b_Mo_spot 34 = .ok (.iaload, 1) := by decide +kernel
theorem d_Mo_spot_35 : decode b_Mo_spot 35 = .ok (.ifCond .le 7, 3) := by decide +kernel
theorem d_Mo_spot_38 : decode b_Mo_spot 38 = .ok (.iconst 1, 1) := by decide +kernel
theorem d_Mo_spot_39 : decode b_Mo_spot 39 = .ok (.goto 4, 3) := by decide +kernel
theorem d_Mo_spot_42 : decode b_Mo_spot 42 = .ok (.iconst 0, 1) := by decide +kernel
theorem d_Mo_spot_43 : decode b_Mo_spot 43 = .ok (.iconst 1, 1) := by decide +kernel
theorem d_Mo_spot_44 : decode b_Mo_spot 44 = .ok (.invokevirtual 132, 3) := by decide +kernel
theorem d_Mo_spot_47 : decode b_Mo_spot 47 = .ok (.ifCond .ne 5, 3) := by decide +kernel
theorem d_Mo_spot_50 : decode b_Mo_spot 50 = .ok (.iconst 0, 1) := by decide +kernel
theorem d_Mo_spot_51 : decode b_Mo_spot 51 = .ok (.ireturn, 1) := by decide +kernel
theorem d_Mo_spot_52 : decode b_Mo_spot 52 = .ok (.aload_n 0, 1) := by decide +kernel
theorem d_Mo_spot_53 : decode b_Mo_spot 53 = .ok (.getfield 20, 3) := by decide +kernel
theorem d_Mo_spot_56 : decode b_Mo_spot 56 = .ok (.iload_n 1, 1) := by decide +kernel
theorem d_Mo_spot_57 : decode b_Mo_spot 57 = .ok (.iload_n 2, 1) := by decide +kernel
theorem d_Mo_spot_58 : decode b_Mo_spot 58 = .ok (.invokestatic 139, 3) := by decide +kernel
theorem d_Mo_spot_61 : decode b_Mo_spot 61 = .ok (.iaload, 1) := by decide +kernel
theorem d_Mo_spot_62 : decode b_Mo_spot 62 = .ok (.ireturn, 1) := by decide +kernel
theorem d_Mo_along_0 : decode b_Mo_along 0 = .ok (.aload_n 0, 1) := by decide +kernel
theorem d_Mo_along_1 : decode b_Mo_along 1 = .ok (.iload_n 1, 1) := by decide +kernel
theorem d_Mo_along_2 : decode b_Mo_along 2 = .ok (.iload_n 2, 1) := by decide +kernel
theorem d_Mo_along_3 : decode b_Mo_along 3 = .ok (.invokevirtual 143, 3) := by decide +kernel
theorem d_Mo_along_6 : decode b_Mo_along 6 = .ok (.istore_n 3, 1) := by decide +kernel
theorem d_Mo_along_7 : decode b_Mo_along 7 = .ok (.aload_n 0, 1) := by decide +kernel
theorem d_Mo_along_8 : decode b_Mo_along 8 = .ok (.getfield 51, 3) := by decide +kernel
theorem d_Mo_along_11 : decode b_Mo_along 11 = .ok (.ifCond .le 7, 3) := by decide +kernel
theorem d_Mo_along_14 : decode b_Mo_along 14 = .ok (.iconst 0, 1) := by decide +kernel
theorem d_Mo_along_15 : decode b_Mo_along 15 = .ok (.goto 13, 3) := by decide +kernel
theorem d_Mo_along_18 : decode b_Mo_along 18 = .ok (.aload_n 0, 1) := by decide +kernel
theorem d_Mo_along_19 : decode b_Mo_along 19 = .ok (.getfield 23, 3) := by decide +kernel
theorem d_Mo_along_22 : decode b_Mo_along 22 = .ok (.iload_n 1, 1) := by decide +kernel
theorem d_Mo_along_23 : decode b_Mo_along 23 = .ok (.iload_n 2, 1) := by decide +kernel
theorem d_Mo_along_24 : decode b_Mo_along 24 = .ok (.invokestatic 139, 3) := by decide +kernel
theorem d_Mo_along_27 : decode b_Mo_along 27 = .ok (.iaload, 1) := by decide +kernel
theorem d_Mo_along_28 : decode b_Mo_along 28 = .ok (.ireturn, 1) := by decide +kernel
theorem d_Mo_fault_0 : decode b_Mo_fault 0 = .ok (.aload_n 0, 1) := by decide +kernel
theorem d_Mo_fault_1 : decode b_Mo_fault 1 = .ok (.iload_n 1, 1) := by decide +kernel
theorem d_Mo_fault_2 : decode b_Mo_fault 2 = .ok (.iconst 0, 1) := by decide +kernel
theorem d_Mo_fault_3 : decode b_Mo_fault 3 = .ok (.aload_n 0, 1) := by decide +kernel
theorem d_Mo_fault_4 : decode b_Mo_fault 4 = .ok (.getfield 145, 3) := by decide +kernel
theorem d_Mo_fault_7 : decode b_Mo_fault 7 = .ok (.iconst 1, 1) := by decide +kernel
theorem d_Mo_fault_8 : decode b_Mo_fault 8 = .ok (.isub, 1) := by decide +kernel
theorem d_Mo_fault_9 : decode b_Mo_fault 9 = .ok (.invokestatic 54, 3) := by decide +kernel
theorem d_Mo_fault_12 : decode b_Mo_fault 12 = .ok (.iload_n 2, 1) := by decide +kernel
theorem d_Mo_fault_13 : decode b_Mo_fault 13 = .ok (.iconst 0, 1) := by decide +kernel
theorem d_Mo_fault_14 : decode b_Mo_fault 14 = .ok (.iconst 1, 1) := by decide +kernel
theorem d_Mo_fault_15 : decode b_Mo_fault 15 = .ok (.invokestatic 54, 3) := by decide +kernel
theorem d_Mo_fault_18 : decode b_Mo_fault 18 = .ok (.invokevirtual 132, 3) := by decide +kernel
theorem d_Mo_fault_21 : decode b_Mo_fault 21 = .ok (.ifCond .ne 5, 3) := by decide +kernel
theorem d_Mo_fault_24 : decode b_Mo_fault 24 = .ok (.iconst 0, 1) := by decide +kernel
theorem d_Mo_fault_25 : decode b_Mo_fault 25 = .ok (.ireturn, 1) := by decide +kernel
theorem d_Mo_fault_26 : decode b_Mo_fault 26 = .ok (.iload_n 2, 1) := by decide +kernel
theorem d_Mo_fault_27 : decode b_Mo_fault 27 = .ok (.ifCond .ne 12, 3) := by decide +kernel
theorem d_Mo_fault_30 : decode b_Mo_fault 30 = .ok (.aload_n 0, 1) := by decide +kernel
theorem d_Mo_fault_31 : decode b_Mo_fault 31 = .ok (.getfield 38, 3) := by decide +kernel
theorem d_Mo_fault_34 : decode b_Mo_fault 34 = .ok (.iload_n 1, 1) := by decide +kernel
theorem d_Mo_fault_35 : decode b_Mo_fault 35 = .ok (.iaload, 1) := by decide +kernel
theorem d_Mo_fault_36 : decode b_Mo_fault 36 = .ok (.goto 9, 3) := by decide +kernel
theorem d_Mo_fault_39 : decode b_Mo_fault 39 = .ok (.aload_n 0, 1) := by decide +kernel
theorem d_Mo_fault_40 : decode b_Mo_fault 40 = .ok (.getfield 41, 3) := by decide +kernel
theorem d_Mo_fault_43 : decode b_Mo_fault 43 = .ok (.iload_n 1, 1) := by decide +kernel
theorem d_Mo_fault_44 : decode b_Mo_fault 44 = .ok (.iaload, 1) := by decide +kernel
theorem d_Mo_fault_45 : decode b_Mo_fault 45 = .ok (.ireturn, 1) := by decide +kernel
theorem d_Mo_at_0 : decode b_Mo_at 0 = .ok (.aload_n 0, 1) := by decide +kernel
theorem d_Mo_at_1 : decode b_Mo_at 1 = .ok (.iload_n 1, 1) := by decide +kernel
theorem d_Mo_at_2 : decode b_Mo_at 2 = .ok (.ifCond .lt 7, 3) := by decide +kernel
theorem d_Mo_at_5 : decode b_Mo_at 5 = .ok (.iconst 1, 1) := by decide +kernel
theorem d_Mo_at_6 : decode b_Mo_at 6 = .ok (.goto 4, 3) := by decide +kernel
theorem d_Mo_at_9 : decode b_Mo_at 9 = .ok (.iconst 0, 1) := by decide +kernel
theorem d_Mo_at_10 : decode b_Mo_at 10 = .ok (.iconst 1, 1) := by decide +kernel
theorem d_Mo_at_11 : decode b_Mo_at 11 = .ok (.invokevirtual 132, 3) := by decide +kernel
theorem d_Mo_at_14 : decode b_Mo_at 14 = .ok (.ifCond .ne 5, 3) := by decide +kernel
theorem d_Mo_at_17 : decode b_Mo_at 17 = .ok (.iconst 0, 1) := by decide +kernel
theorem d_Mo_at_18 : decode b_Mo_at 18 = .ok (.ireturn, 1) := by decide +kernel
theorem d_Mo_at_19 : decode b_Mo_at 19 = .ok (.iload_n 1, 1) := by decide +kernel
theorem d_Mo_at_20 : decode b_Mo_at 20 = .ok (.aload_n 0, 1) := by decide +kernel
theorem d_Mo_at_21 : decode b_Mo_at 21 = .ok (.getfield 177, 3) := by decide +kernel
theorem d_Mo_at_24 : decode b_Mo_at 24 = .ok (.if_icmp .ge 12, 3) := by decide +kernel
theorem d_Mo_at_27 : decode b_Mo_at 27 = .ok (.aload_n 0, 1) := by decide +kernel
theorem d_Mo_at_28 : decode b_Mo_at 28 = .ok (.getfield 48, 3) := by decide +kernel
theorem d_Mo_at_31 : decode b_Mo_at 31 = .ok (.iload_n 1, 1) := by decide +kernel
theorem d_Mo_at_32 : decode b_Mo_at 32 = .ok (.iaload, 1) := by decide +kernel
theorem d_Mo_at_33 : decode b_Mo_at 33 = .ok (.goto 4, 3) := by decide +kernel
theorem d_Mo_at_36 : decode b_Mo_at 36 = .ok (.iconst (-1), 1) := by decide +kernel
theorem d_Mo_at_37 : decode b_Mo_at 37 = .ok (.ireturn, 1) := by decide +kernel
theorem d_Mo_sign_0 : decode b_Mo_sign 0 = .ok (.aload_n 0, 1) := by decide +kernel
theorem d_Mo_sign_1 : decode b_Mo_sign 1 = .ok (.iload_n 3, 1) := by decide +kernel
theorem d_Mo_sign_2 : decode b_Mo_sign 2 = .ok (.iconst 1, 1) := by decide +kernel
theorem d_Mo_sign_3 : decode b_Mo_sign 3 = .ok (.bipush 8, 2) := by decide +kernel
theorem d_Mo_sign_5 : decode b_Mo_sign 5 = .ok (.invokestatic 54, 3) := by decide +kernel
theorem d_Mo_sign_8 : decode b_Mo_sign 8 = .ok (.ifCond .ne 7, 3) := by decide +kernel
theorem d_Mo_sign_11 : decode b_Mo_sign 11 = .ok (.iconst 1, 1) := by decide +kernel
theorem d_Mo_sign_12 : decode b_Mo_sign 12 = .ok (.goto 20, 3) := by decide +kernel
theorem d_Mo_sign_15 : decode b_Mo_sign 15 = .ok (.aload_n 0, 1) := by decide +kernel
theorem d_Mo_sign_16 : decode b_Mo_sign 16 = .ok (.getfield 58, 3) := by decide +kernel
theorem d_Mo_sign_19 : decode b_Mo_sign 19 = .ok (.iload_n 3, 1) := by decide +kernel
theorem d_Mo_sign_20 : decode b_Mo_sign 20 = .ok (.iadd, 1) := by decide +kernel
theorem d_Mo_sign_21 : decode b_Mo_sign 21 = .ok (.sipush 400, 3) := by decide +kernel
theorem d_Mo_sign_24 : decode b_Mo_sign 24 = .ok (.if_icmp .le 7, 3) := by decide +kernel
theorem d_Mo_sign_27 : decode b_Mo_sign 27 = .ok (.iconst 2, 1) := by decide +kernel
theorem d_Mo_sign_28 : decode b_Mo_sign 28 = .ok (.goto 4, 3) := by decide +kernel
theorem d_Mo_sign_31 : decode b_Mo_sign 31 = .ok (.iconst 0, 1) := by decide +kernel
theorem d_Mo_sign_32 : decode b_Mo_sign 32 = .ok (.putfield 51, 3) := by decide +kernel
theorem d_Mo_sign_35 : decode b_Mo_sign 35 = .ok (.aload_n 0, 1) := by decide +kernel
theorem d_Mo_sign_36 : decode b_Mo_sign 36 = .ok (.getfield 51, 3) := by decide +kernel
theorem d_Mo_sign_39 : decode b_Mo_sign 39 = .ok (.ifCond .le 5, 3) := by decide +kernel
theorem d_Mo_sign_42 : decode b_Mo_sign 42 = .ok (.iconst 0, 1) := by decide +kernel
theorem d_Mo_sign_43 : decode b_Mo_sign 43 = .ok (.ireturn, 1) := by decide +kernel
theorem d_Mo_sign_44 : decode b_Mo_sign 44 = .ok (.iload_n 3, 1) := by decide +kernel
theorem d_Mo_sign_45 : decode b_Mo_sign 45 = .ok (.iconst 1, 1) := by decide +kernel
theorem d_Mo_sign_46 : decode b_Mo_sign 46 = .ok (.isub, 1) := by decide +kernel
theorem d_Mo_sign_47 : decode b_Mo_sign 47 = .ok (.istore 4, 2) := by decide +kernel
theorem d_Mo_sign_49 : decode b_Mo_sign 49 = .ok (.iload 4, 2) := by decide +kernel
theorem d_Mo_sign_51 : decode b_Mo_sign 51 = .ok (.ifCond .lt 40, 3) := by decide +kernel
theorem d_Mo_sign_54 : decode b_Mo_sign 54 = .ok (.aload_n 0, 1) := by decide +kernel
theorem d_Mo_sign_55 : decode b_Mo_sign 55 = .ok (.getfield 7, 3) := by decide +kernel
theorem d_Mo_sign_58 : decode b_Mo_sign 58 = .ok (.aload_n 0, 1) := by decide +kernel
theorem d_Mo_sign_59 : decode b_Mo_sign 59 = .ok (.getfield 58, 3) := by decide +kernel
theorem d_Mo_sign_62 : decode b_Mo_sign 62 = .ok (.lload_n 1, 1) := by decide +kernel
theorem d_Mo_sign_63 : decode b_Mo_sign 63 = .ok (.bipush 8, 2) := by decide +kernel
theorem d_Mo_sign_65 : decode b_Mo_sign 65 = .ok (.iload 4, 2) := by decide +kernel
theorem d_Mo_sign_67 : decode b_Mo_sign 67 = .ok (.imul, 1) := by decide +kernel
theorem d_Mo_sign_68 : decode b_Mo_sign 68 = .ok (.lshr, 1) := by decide +kernel
theorem d_Mo_sign_69 : decode b_Mo_sign 69 = .ok (.l2i, 1) := by decide +kernel
theorem d_Mo_sign_70 : decode b_Mo_sign 70 = .ok (.sipush 255, 3) := by decide +kernel
theorem d_Mo_sign_73 : decode b_Mo_sign 73 = .ok (.iand, 1) := by decide +kernel
theorem d_Mo_sign_74 : decode b_Mo_sign 74 = .ok (.iastore, 1) := by decide +kernel
theorem d_Mo_sign_75 : decode b_Mo_sign 75 = .ok (.aload_n 0, 1) := by decide +kernel
theorem d_Mo_sign_76 : decode b_Mo_sign 76 = .ok (.dup, 1) := by decide +kernel
theorem d_Mo_sign_77 : decode b_Mo_sign 77 = .ok (.getfield 58, 3) := by decide +kernel
theorem d_Mo_sign_80 : decode b_Mo_sign 80 = .ok (.iconst 1, 1) := by decide +kernel
theorem d_Mo_sign_81 : decode b_Mo_sign 81 = .ok (.iadd, 1) := by decide +kernel
theorem d_Mo_sign_82 : decode b_Mo_sign 82 = .ok (.putfield 58, 3) := by decide +kernel
theorem d_Mo_sign_85 : decode b_Mo_sign 85 = .ok (.iinc 4 (-1), 3) := by decide +kernel
theorem d_Mo_sign_88 : decode b_Mo_sign 88 = .ok (.goto (-39), 3) := by decide +kernel
theorem d_Mo_sign_91 : decode b_Mo_sign 91 = .ok (.aload_n 0, 1) := by decide +kernel
theorem d_Mo_sign_92 : decode b_Mo_sign 92 = .ok (.getfield 58, 3) := by decide +kernel
theorem d_Mo_sign_95 : decode b_Mo_sign 95 = .ok (.ireturn, 1) := by decide +kernel

set_option maxHeartbeats 4000000 in
set_option maxRecDepth 100000 in
/-- place -/
theorem c_Mo_place (l : Launch) (G : Gx) (lo : Nat) (V : Vw) (sz : Nat) (m : Nat) (u1 u2 u4 u5 u6 u7 u8 u9 u10 u11 u12 u13 u14 u15 u16 u17 u18 u19 u20 : Value) (hn : [m].Nodup) (th pl : Int32) : Met l y_Mo_place ws_Mo_place ({ frames := 0, cells := 0, slots := 0, locals := 0 } : Room) (vPre G lo [.ref m] (vU V [(m, eO 8 [.int th, u1, u2, .int pl, u4, u5, u6, u7, u8, u9, u10, u11, u12, u13, u14, u15, u16, u17, u18, u19, u20])]) sz) (vPost G lo (fun r V' k => r = some (.int pl) ∧ V' = vU V [(m, eO 8 [.int 0, u1, u2, .int pl, u4, u5, u6, u7, u8, u9, u10, u11, u12, u13, u14, u15, u16, u17, u18, u19, u20])] ∧ k = sz)) 0 0 (vL lo) := by
  refine vMet (R := RMo) (by decide) rfl (Nat.le_of_ble_eq_true rfl) ?_
  intro pg ev s mi args below meth cd hx hb hr hml hlk hnm hts hown hK hz hV ls hl
  have hl : lv_has ls 1 [(0, .ref m)] := hl
  have hV0 := hV
  obtain ⟨H, hH⟩ : ∃ H, H = s.heap := ⟨_, rfl⟩
  obtain ⟨locs, hlocs⟩ : ∃ locs : List Loc, locs = [] := ⟨_, rfl⟩
  rw [← hH, ← hlocs]
  rw [← hH] at hz
  replace hV : vS G.1 cls lo s H locs (vU V [(m, eO 8 [.int th, u1, u2, .int pl, u4, u5, u6, u7, u8, u9, u10, u11, u12, u13, u14, u15, u16, u17, u18, u19, u20])]) := by rw [hH, hlocs]; exact hV
  clear hH hlocs hV0
  refine lv_aload_n hx hb d_Mo_place_0 rfl (lv_at hl 0 rfl) ?_
  refine lv_iconst (v := 0) hx hb d_Mo_place_1 (by decide) ?_
  refine u_put hx hb hts inMo tyMo tyMo_ok nmMo hown hK hV hn 0 rfl rfl 0 (by decide) w_fl_Mo_51 rfl rfl rfl rfl (Nat.le_of_ble_eq_true rfl) d_Mo_place_2 (fun H locs hV hz9 => ?_)
  have hV : vS G.1 cls lo s H locs (vU V [(m, eO 8 [.int 0, u1, u2, .int pl, u4, u5, u6, u7, u8, u9, u10, u11, u12, u13, u14, u15, u16, u17, u18, u19, u20])]) := hV
  replace hz := hz9.trans hz
  refine lv_aload_n hx hb d_Mo_place_5 rfl (lv_at hl 0 rfl) ?_
  refine u_get hx hb hts inMo hown hK hV hn 0 rfl rfl 3 (by decide) w_fl_Mo_13 rfl rfl d_Mo_place_6 ?_
  exact W.iret (v := pl) hx hb hr (v_end hV ⟨rfl, rfl, hz⟩) hV.2.1.2.2 d_Mo_place_9

set_option maxHeartbeats 4000000 in
set_option maxRecDepth 100000 in
/-- clear -/
theorem c_Mo_clear (l : Launch) (G : Gx) (lo : Nat) (V : Vw) (sz : Nat) (m : Nat) (u1 u2 u3 u4 u5 u6 u8 u9 u10 u11 u12 u13 u14 u15 u16 u17 u18 u19 u20 : Value) (hn : [m].Nodup) (th : Int32) (k0 : Nat) : Met l y_Mo_clear ws_Mo_clear ({ frames := 0, cells := 0, slots := 0, locals := 0 } : Room) (vPre G lo [.ref m] (vU V [(m, eO 8 [.int th, u1, u2, u3, u4, u5, u6, .int (nI k0), u8, u9, u10, u11, u12, u13, u14, u15, u16, u17, u18, u19, u20])]) sz) (vPost G lo (fun r V' k => r = some (.int (nI k0)) ∧ V' = vU V [(m, eO 8 [.int 0, u1, u2, u3, u4, u5, u6, .int 0, u8, u9, u10, u11, u12, u13, u14, u15, u16, u17, u18, u19, u20])] ∧ k = sz)) 0 0 (vL lo) := by
  refine vMet (R := RMo) (by decide) rfl (Nat.le_of_ble_eq_true rfl) ?_
  intro pg ev s mi args below meth cd hx hb hr hml hlk hnm hts hown hK hz hV ls hl
  have hl : lv_has ls 2 [(0, .ref m)] := hl
  have hV0 := hV
  obtain ⟨H, hH⟩ : ∃ H, H = s.heap := ⟨_, rfl⟩
  obtain ⟨locs, hlocs⟩ : ∃ locs : List Loc, locs = [] := ⟨_, rfl⟩
  rw [← hH, ← hlocs]
  rw [← hH] at hz
  replace hV : vS G.1 cls lo s H locs (vU V [(m, eO 8 [.int th, u1, u2, u3, u4, u5, u6, .int (nI k0), u8, u9, u10, u11, u12, u13, u14, u15, u16, u17, u18, u19, u20])]) := by rw [hH, hlocs]; exact hV
  clear hH hlocs hV0
  refine lv_aload_n hx hb d_Mo_clear_0 rfl (lv_at hl 0 rfl) ?_
  refine lv_iconst (v := 0) hx hb d_Mo_clear_1 (by decide) ?_
  refine u_put hx hb hts inMo tyMo tyMo_ok nmMo hown hK hV hn 0 rfl rfl 0 (by decide) w_fl_Mo_51 rfl rfl rfl rfl (Nat.le_of_ble_eq_true rfl) d_Mo_clear_2 (fun H locs hV hz9 => ?_)
  have hV : vS G.1 cls lo s H locs (vU V [(m, eO 8 [.int 0, u1, u2, u3, u4, u5, u6, .int (nI k0), u8, u9, u10, u11, u12, u13, u14, u15, u16, u17, u18, u19, u20])]) := hV
  replace hz := hz9.trans hz
  refine lv_aload_n hx hb d_Mo_clear_5 rfl (lv_at hl 0 rfl) ?_
  refine u_get hx hb hts inMo hown hK hV hn 0 rfl rfl 7 (by decide) w_fl_Mo_111 rfl rfl d_Mo_clear_6 ?_
  refine lv_istore_n (lv' := [(1, .int (nI k0)), (0, .ref m)]) hx hb d_Mo_clear_9 rfl hl (by decide) rfl (fun ls hl => ?_)
  refine lv_aload_n hx hb d_Mo_clear_10 rfl (lv_at hl 1 rfl) ?_
  refine lv_iconst (v := 0) hx hb d_Mo_clear_11 (by decide) ?_
  refine u_put hx hb hts inMo tyMo tyMo_ok nmMo hown hK hV hn 0 rfl rfl 7 (by decide) w_fl_Mo_111 rfl rfl rfl rfl (Nat.le_of_ble_eq_true rfl) d_Mo_clear_12 (fun H locs hV hz9 => ?_)
  have hV : vS G.1 cls lo s H locs (vU V [(m, eO 8 [.int 0, u1, u2, u3, u4, u5, u6, .int 0, u8, u9, u10, u11, u12, u13, u14, u15, u16, u17, u18, u19, u20])]) := hV
  replace hz := hz9.trans hz
  refine lv_iload_n hx hb d_Mo_clear_15 rfl (lv_at hl 0 rfl) ?_
  exact W.iret (v := nI k0) hx hb hr (v_end hV ⟨rfl, rfl, hz⟩) hV.2.1.2.2 d_Mo_clear_16

set_option maxHeartbeats 4000000 in
set_option maxRecDepth 100000 in
/-- asks -/
theorem c_Mo_asks (l : Launch) (G : Gx) (lo : Nat) (V : Vw) (sz : Nat) (m : Nat) (u1 u2 u3 u4 u5 u6 u7 u8 u9 u10 u11 u12 u13 u14 u15 u16 u17 u18 u19 u20 : Value) (th : Value) (hn : [m].Nodup) (x y : Nat) (hx1 : x < 2) (hy1 : y < 2) : Met l y_Mo_asks ws_Mo_asks ({ frames := 0, cells := 0, slots := 0, locals := 0 } : Room) (vPre G lo [.ref m, .int (nI x), .int (nI y)] (vU V [(m, eO 8 [th, u1, u2, u3, u4, u5, u6, u7, u8, u9, u10, u11, u12, u13, u14, u15, u16, u17, u18, u19, u20])]) sz) (vPost G lo (fun r V' k => r = some (.int (b2i (decide (askN x y = 0)))) ∧ V' = vU V [(m, eO 8 [.int (nI (askN x y)), u1, u2, u3, u4, u5, u6, u7, u8, u9, u10, u11, u12, u13, u14, u15, u16, u17, u18, u19, u20])] ∧ k = sz)) 0 0 (vL lo) := by
  refine vMet (R := RMo) (by decide) rfl (Nat.le_of_ble_eq_true rfl) ?_
  intro pg ev s mi args below meth cd hx hb hr hml hlk hnm hts hown hK hz hV ls hl
  have hl : lv_has ls 3 [(0, .ref m), (1, .int (nI x)), (2, .int (nI y))] := hl
  have hV0 := hV
  obtain ⟨H, hH⟩ : ∃ H, H = s.heap := ⟨_, rfl⟩
  obtain ⟨locs, hlocs⟩ : ∃ locs : List Loc, locs = [] := ⟨_, rfl⟩
  rw [← hH, ← hlocs]
  rw [← hH] at hz
  replace hV : vS G.1 cls lo s H locs (vU V [(m, eO 8 [th, u1, u2, u3, u4, u5, u6, u7, u8, u9, u10, u11, u12, u13, u14, u15, u16, u17, u18, u19, u20])]) := by rw [hH, hlocs]; exact hV
  clear hH hlocs hV0
  refine lv_aload_n hx hb d_Mo_asks_0 rfl (lv_at hl 0 rfl) ?_
  refine lv_iload_n hx hb d_Mo_asks_1 rfl (lv_at hl 1 rfl) ?_
  refine lv_if_ne (tgt := 9) hx hb d_Mo_asks_2 (by decide) (fun c_1 => ?_) (fun c_1 => ?_)
  · replace c_1 : ¬ x = 0 := fun z9 => c_1 ((nI_eq (a := x) (b := 0) (by omega) (by omega)).mpr z9)
    refine lv_iload_n hx hb d_Mo_asks_9 rfl (lv_at hl 2 rfl) ?_
    refine lv_if_ne (tgt := 17) hx hb d_Mo_asks_10 (by decide) (fun c_2 => ?_) (fun c_2 => ?_)
    · replace c_2 : ¬ y = 0 := fun z9 => c_2 ((nI_eq (a := y) (b := 0) (by omega) (by omega)).mpr z9)
      have hE : askN x y = 0 := by unfold askN; rw [if_neg c_1, if_neg c_2]
      refine lv_iconst (v := 0) hx hb d_Mo_asks_17 (by decide) ?_
      refine u_put hx hb hts inMo tyMo tyMo_ok nmMo hown hK hV hn 0 rfl rfl 0 (by decide) w_fl_Mo_51 rfl rfl rfl rfl (Nat.le_of_ble_eq_true rfl) d_Mo_asks_18 (fun H locs hV hz9 => ?_)
      have hV : vS G.1 cls lo s H locs (vU V [(m, eO 8 [.int 0, u1, u2, u3, u4, u5, u6, u7, u8, u9, u10, u11, u12, u13, u14, u15, u16, u17, u18, u19, u20])]) := hV
      replace hz := hz9.trans hz
      refine lv_aload_n hx hb d_Mo_asks_21 rfl (lv_at hl 0 rfl) ?_
      refine u_get hx hb hts inMo hown hK hV hn 0 rfl rfl 0 (by decide) w_fl_Mo_51 rfl rfl d_Mo_asks_22 ?_
      refine lv_if_ne (tgt := 32) hx hb d_Mo_asks_25 (by decide) (fun c_3 => absurd c_3 (by decide)) (fun _ => ?_)
      refine lv_iconst (v := 1) hx hb d_Mo_asks_28 (by decide) ?_
      refine lv_goto (tgt := 33) hx hb d_Mo_asks_29 (by decide) ?_
      exact W.zret (v := 1) hx hb hr (by decide) (v_end hV ⟨by rw [hE]; rfl, by rw [hE]; rfl, hz⟩) hV.2.1.2.2 d_Mo_asks_33
    · replace c_2 : y = 0 := (nI_eq (a := y) (b := 0) (by omega) (by omega)).mp c_2
      have hE : askN x y = 2 := by unfold askN; rw [if_neg c_1, if_pos c_2]
      refine lv_iconst (v := 2) hx hb d_Mo_asks_13 (by decide) ?_
      refine lv_goto (tgt := 18) hx hb d_Mo_asks_14 (by decide) ?_
      refine u_put hx hb hts inMo tyMo tyMo_ok nmMo hown hK hV hn 0 rfl rfl 0 (by decide) w_fl_Mo_51 rfl rfl rfl rfl (Nat.le_of_ble_eq_true rfl) d_Mo_asks_18 (fun H locs hV hz9 => ?_)
      have hV : vS G.1 cls lo s H locs (vU V [(m, eO 8 [.int 2, u1, u2, u3, u4, u5, u6, u7, u8, u9, u10, u11, u12, u13, u14, u15, u16, u17, u18, u19, u20])]) := hV
      replace hz := hz9.trans hz
      refine lv_aload_n hx hb d_Mo_asks_21 rfl (lv_at hl 0 rfl) ?_
      refine u_get hx hb hts inMo hown hK hV hn 0 rfl rfl 0 (by decide) w_fl_Mo_51 rfl rfl d_Mo_asks_22 ?_
      refine lv_if_ne (tgt := 32) hx hb d_Mo_asks_25 (by decide) (fun _ => ?_) (fun c_4 => absurd c_4 (by decide))
      refine lv_iconst (v := 0) hx hb d_Mo_asks_32 (by decide) ?_
      exact W.zret (v := 0) hx hb hr (by decide) (v_end hV ⟨by rw [hE]; rfl, by rw [hE]; rfl, hz⟩) hV.2.1.2.2 d_Mo_asks_33
  · replace c_1 : x = 0 := (nI_eq (a := x) (b := 0) (by omega) (by omega)).mp c_1
    have hE : askN x y = 1 := if_pos c_1
    refine lv_iconst (v := 1) hx hb d_Mo_asks_5 (by decide) ?_
    refine lv_goto (tgt := 18) hx hb d_Mo_asks_6 (by decide) ?_
    refine u_put hx hb hts inMo tyMo tyMo_ok nmMo hown hK hV hn 0 rfl rfl 0 (by decide) w_fl_Mo_51 rfl rfl rfl rfl (Nat.le_of_ble_eq_true rfl) d_Mo_asks_18 (fun H locs hV hz9 => ?_)
    have hV : vS G.1 cls lo s H locs (vU V [(m, eO 8 [.int 1, u1, u2, u3, u4, u5, u6, u7, u8, u9, u10, u11, u12, u13, u14, u15, u16, u17, u18, u19, u20])]) := hV
    replace hz := hz9.trans hz
    refine lv_aload_n hx hb d_Mo_asks_21 rfl (lv_at hl 0 rfl) ?_
    refine u_get hx hb hts inMo hown hK hV hn 0 rfl rfl 0 (by decide) w_fl_Mo_51 rfl rfl d_Mo_asks_22 ?_
    refine lv_if_ne (tgt := 32) hx hb d_Mo_asks_25 (by decide) (fun _ => ?_) (fun c_5 => absurd c_5 (by decide))
    refine lv_iconst (v := 0) hx hb d_Mo_asks_32 (by decide) ?_
    exact W.zret (v := 0) hx hb hr (by decide) (v_end hV ⟨by rw [hE]; rfl, by rw [hE]; rfl, hz⟩) hV.2.1.2.2 d_Mo_asks_33

set_option maxHeartbeats 4000000 in
set_option maxRecDepth 100000 in
/-- isPiece -/
theorem c_Mo_isPiece (l : Launch) (G : Gx) (lo : Nat) (V : Vw) (sz : Nat) (m pa : Nat) (u0 u1 u2 u3 u5 u6 u7 u8 u9 u10 u11 u12 u13 u14 u15 u16 u17 u18 u19 u20 : Value) (P : Nat → Int32) (Q : Nat → Option PcR) (hn : [m, pa].Nodup) (hM : mpA P Q) (y : Int32) : Met l y_Mo_isPiece ws_Mo_isPiece ({ frames := 1, cells := 0, slots := 0, locals := 25 } : Room) (vPre G lo [.ref m, .int y] (vU V [(m, eO 8 [u0, u1, u2, u3, .ref pa, u5, u6, u7, u8, u9, u10, u11, u12, u13, u14, u15, u16, u17, u18, u19, u20]), (pa, eI (gI G) 1769 P)]) sz) (vPost G lo (fun r V' k => r = some (.int (b2i (qF Q y).isSome)) ∧ V' = vU V [(m, eO 8 [u0, u1, u2, u3, .ref pa, u5, u6, u7, u8, u9, u10, u11, u12, u13, u14, u15, u16, u17, u18, u19, u20]), (pa, eI (gI G) 1769 P)] ∧ k = sz)) 0 0 (vL lo) := by
  refine vMet (R := RMo) (by decide) rfl (Nat.le_of_ble_eq_true rfl) ?_
  intro pg ev s mi args below meth cd hx hb hr hml hlk hnm hts hown hK hz hV ls hl
  have hl : lv_has ls 2 [(0, .ref m), (1, .int y)] := hl
  have hV0 := hV
  obtain ⟨H, hH⟩ : ∃ H, H = s.heap := ⟨_, rfl⟩
  obtain ⟨locs, hlocs⟩ : ∃ locs : List Loc, locs = [] := ⟨_, rfl⟩
  rw [← hH, ← hlocs]
  rw [← hH] at hz
  replace hV : vS G.1 cls lo s H locs (vU V [(m, eO 8 [u0, u1, u2, u3, .ref pa, u5, u6, u7, u8, u9, u10, u11, u12, u13, u14, u15, u16, u17, u18, u19, u20]), (pa, eI (gI G) 1769 P)]) := by rw [hH, hlocs]; exact hV
  clear hH hlocs hV0
  refine lv_iload_n hx hb d_Mo_isPiece_0 rfl (lv_at hl 1 rfl) ?_
  refine lv_iconst (v := 1) hx hb d_Mo_isPiece_1 (by decide) ?_
  refine lv_bipush (v := 60) hx hb d_Mo_isPiece_2 (by decide) ?_
  refine v_call (va_runS (As := [.int y, .int 1, .int 60]) (rest := []) ⟨hx, hb, hml, hown, hts⟩ (c_Mo_in l G lo _ _ y ((1 : Int32)) ((60 : Int32))) (kwS 3 hts w_co_Mo_in rfl rfl w_it_Mo w_ml_Mo_54 w_st_Mo_in (by decide +kernel) ⟨(Nat.le_of_ble_eq_true rfl), (Nat.le_of_ble_eq_true rfl)⟩) (u_preS hK hV hn [] rfl hz) rfl rfl hl.1 rfl (lv_room (Nat.le_of_ble_eq_true rfl)) d_Mo_isPiece_4 ⟨(Nat.le_of_ble_eq_true rfl), (Nat.le_of_ble_eq_true rfl)⟩) hV (fun r9 V9 H locs hp hV hle => ?_)
  obtain ⟨rfl, rfl, hz⟩ := hp
  replace hV := uu_same hV hn [] rfl
  rcases tf (inI y ((1 : Int32)) ((60 : Int32))) with d_1 | d_1
  · obtain ⟨j, hj1, hj2, e9⟩ := inI_bd (a := 1) (b := 60) (by decide) (by decide) d_1
    have hV : vS G.1 cls lo s H locs (vU V [(m, eO 8 [u0, u1, u2, u3, .ref pa, u5, u6, u7, u8, u9, u10, u11, u12, u13, u14, u15, u16, u17, u18, u19, u20]), (pa, eI (gI G) 1769 P)]) := hV
    refine W.eq (g2 := F0 mi 7 ls [.int 1]) (by rw [d_1]; rfl) ?_
    refine lv_if_eq (tgt := 29) hx hb d_Mo_isPiece_7 (by decide) (fun c_2 => absurd c_2 (by decide)) (fun _ => ?_)
    subst e9
    rcases hM j hj1 hj2 with ⟨h0, hQ⟩ | ⟨R, hQ, hR, hRv⟩
    · have hE : (qF Q (nI j)).isSome = false := by rw [qF_in hj1 hj2, hQ]; rfl
      refine lv_aload_n hx hb d_Mo_isPiece_10 rfl (lv_at hl 0 rfl) ?_
      refine u_get hx hb hts inMo hown hK hV hn 0 rfl rfl 4 (by decide) w_fl_Mo_17 rfl rfl d_Mo_isPiece_11 ?_
      refine lv_iload_n hx hb d_Mo_isPiece_14 rfl (lv_at hl 1 rfl) ?_
      refine lv_bipush (v := 29) hx hb d_Mo_isPiece_15 (by decide) ?_
      refine e_imul (v := nI (29 * j)) hx hb d_Mo_isPiece_17 (by rw [Nat.mul_comm 29 j]; exact nI_mul j 29) ?_
      refine lv_iconst (v := 0) hx hb d_Mo_isPiece_18 (by decide) ?_
      refine e_iadd (v := nI (29 * j)) hx hb d_Mo_isPiece_19 (nI_add (29 * j) 0) ?_
      refine u_ialdN hx hb hK hV hn 1 rfl (by omega) (by decide) d_Mo_isPiece_20 ?_
      rw [h0]
      refine lv_iconst (v := 1) hx hb d_Mo_isPiece_21 (by decide) ?_
      refine lv_icmp_ne (tgt := 29) hx hb d_Mo_isPiece_22 (by decide) (fun _ => ?_) (fun c_3 => absurd c_3 (by decide))
      refine lv_iconst (v := 0) hx hb d_Mo_isPiece_29 (by decide) ?_
      exact W.zret (v := 0) hx hb hr (by decide) (v_end hV ⟨by rw [hE]; rfl, rfl, hz⟩) hV.2.1.2.2 d_Mo_isPiece_30
    · have hE : (qF Q (nI j)).isSome = true := by rw [qF_in hj1 hj2, hQ]; rfl
      refine lv_aload_n hx hb d_Mo_isPiece_10 rfl (lv_at hl 0 rfl) ?_
      refine u_get hx hb hts inMo hown hK hV hn 0 rfl rfl 4 (by decide) w_fl_Mo_17 rfl rfl d_Mo_isPiece_11 ?_
      refine lv_iload_n hx hb d_Mo_isPiece_14 rfl (lv_at hl 1 rfl) ?_
      refine lv_bipush (v := 29) hx hb d_Mo_isPiece_15 (by decide) ?_
      refine e_imul (v := nI (29 * j)) hx hb d_Mo_isPiece_17 (by rw [Nat.mul_comm 29 j]; exact nI_mul j 29) ?_
      refine lv_iconst (v := 0) hx hb d_Mo_isPiece_18 (by decide) ?_
      refine e_iadd (v := nI (29 * j)) hx hb d_Mo_isPiece_19 (nI_add (29 * j) 0) ?_
      refine u_ialdN hx hb hK hV hn 1 rfl (by omega) (by decide) d_Mo_isPiece_20 ?_
      rw [hR.1]
      refine lv_iconst (v := 1) hx hb d_Mo_isPiece_21 (by decide) ?_
      refine lv_icmp_ne (tgt := 29) hx hb d_Mo_isPiece_22 (by decide) (fun c_4 => absurd c_4 (by decide)) (fun _ => ?_)
      refine lv_iconst (v := 1) hx hb d_Mo_isPiece_25 (by decide) ?_
      refine lv_goto (tgt := 30) hx hb d_Mo_isPiece_26 (by decide) ?_
      exact W.zret (v := 1) hx hb hr (by decide) (v_end hV ⟨by rw [hE]; rfl, rfl, hz⟩) hV.2.1.2.2 d_Mo_isPiece_30
  · have hE : (qF Q y).isSome = false := by rw [qF_out d_1]; rfl
    have hV : vS G.1 cls lo s H locs (vU V [(m, eO 8 [u0, u1, u2, u3, .ref pa, u5, u6, u7, u8, u9, u10, u11, u12, u13, u14, u15, u16, u17, u18, u19, u20]), (pa, eI (gI G) 1769 P)]) := hV
    refine W.eq (g2 := F0 mi 7 ls [.int 0]) (by rw [d_1]; rfl) ?_
    refine lv_if_eq (tgt := 29) hx hb d_Mo_isPiece_7 (by decide) (fun _ => ?_) (fun c_5 => absurd c_5 (by decide))
    refine lv_iconst (v := 0) hx hb d_Mo_isPiece_29 (by decide) ?_
    exact W.zret (v := 0) hx hb hr (by decide) (v_end hV ⟨by rw [hE]; rfl, rfl, hz⟩) hV.2.1.2.2 d_Mo_isPiece_30

set_option maxHeartbeats 4000000 in
set_option maxRecDepth 100000 in
/-- pieces -/
theorem c_Mo_pieces (l : Launch) (G : Gx) (lo : Nat) (V : Vw) (sz : Nat) (m pa : Nat) (u0 u1 u2 u3 u5 u6 u7 u8 u9 u10 u11 u12 u13 u14 u15 u16 u17 u18 u19 u20 : Value) (P : Nat → Int32) (Q : Nat → Option PcR) (hn : [m, pa].Nodup) (hM : mpA P Q) : Met l y_Mo_pieces ws_Mo_pieces ({ frames := 0, cells := 0, slots := 0, locals := 0 } : Room) (vPre G lo [.ref m] (vU V [(m, eO 8 [u0, u1, u2, u3, .ref pa, u5, u6, u7, u8, u9, u10, u11, u12, u13, u14, u15, u16, u17, u18, u19, u20]), (pa, eI (gI G) 1769 P)]) sz) (vPost G lo (fun r V' k => r = some (.int (nI (cnt (fun j => (Q j).isSome) 60))) ∧ V' = vU V [(m, eO 8 [u0, u1, u2, u3, .ref pa, u5, u6, u7, u8, u9, u10, u11, u12, u13, u14, u15, u16, u17, u18, u19, u20]), (pa, eI (gI G) 1769 P)] ∧ k = sz)) 0 0 (vL lo) := by
  refine vMet (R := RMo) (by decide) rfl (Nat.le_of_ble_eq_true rfl) ?_
  intro pg ev s mi args below meth cd hx hb hr hml hlk hnm hts hown hK hz hV ls hl
  have hl : lv_has ls 3 [(0, .ref m)] := hl
  have hV0 := hV
  obtain ⟨H, hH⟩ : ∃ H, H = s.heap := ⟨_, rfl⟩
  obtain ⟨locs, hlocs⟩ : ∃ locs : List Loc, locs = [] := ⟨_, rfl⟩
  rw [← hH, ← hlocs]
  rw [← hH] at hz
  replace hV : vS G.1 cls lo s H locs (vU V [(m, eO 8 [u0, u1, u2, u3, .ref pa, u5, u6, u7, u8, u9, u10, u11, u12, u13, u14, u15, u16, u17, u18, u19, u20]), (pa, eI (gI G) 1769 P)]) := by rw [hH, hlocs]; exact hV
  clear hH hlocs hV0
  refine lv_iconst (v := 0) hx hb d_Mo_pieces_0 (by decide) ?_
  refine lv_istore_n (lv' := [(1, .int 0), (0, .ref m)]) hx hb d_Mo_pieces_1 rfl hl (by decide) rfl (fun ls hl => ?_)
  refine lv_iconst (v := 1) hx hb d_Mo_pieces_2 (by decide) ?_
  refine lv_istore_n (lv' := [(2, .int 1), (1, .int 0), (0, .ref m)]) hx hb d_Mo_pieces_3 rfl hl (by decide) rfl (fun ls hl => ?_)
  have loop : ∀ (k : Nat) (i : Nat), 60 - i < k → (i ≤ 60) → ∀ (H : Heap) (locs : List Loc) (ls : Array Slot), H.size = sz → vS G.1 cls lo s H locs (vU V [(m, eO 8 [u0, u1, u2, u3, .ref pa, u5, u6, u7, u8, u9, u10, u11, u12, u13, u14, u15, u16, u17, u18, u19, u20]), (pa, eI (gI G) 1769 P)]) → lv_has ls 3 [(0, .ref m), (1, .int (nI (cnt (fun j => (Q j).isSome) i))), (2, .int (nI (i + 1)))] → W pg l ev ({ frames := 0, cells := 0, slots := 0, locals := 0 } : Room) s mi args below meth cd H locs 0 0 (MQ below (vPost G lo (fun r V' k => r = some (.int (nI (cnt (fun j => (Q j).isSome) 60))) ∧ V' = vU V [(m, eO 8 [u0, u1, u2, u3, .ref pa, u5, u6, u7, u8, u9, u10, u11, u12, u13, u14, u15, u16, u17, u18, u19, u20]), (pa, eI (gI G) 1769 P)] ∧ k = sz)) args s 0 0 (vL lo)) (F0 mi 4 ls []) := by
    intro k
    induction k with
    | zero => intro i hk; exact absurd hk (by omega)
    | succ k ih =>
      intro i hk hi H locs ls hz hV hl
      refine lv_iload_n hx hb d_Mo_pieces_4 rfl (lv_at hl 2 rfl) ?_
      refine lv_bipush (v := 61) hx hb d_Mo_pieces_5 (by decide) ?_
      refine lv_icmp_ge (tgt := 30) hx hb d_Mo_pieces_7 (by decide) (fun c_1 => ?_) (fun c_1 => ?_)
      · replace c_1 : 61 ≤ i + 1 := (nI_leI (a := 61) (b := i + 1) (by omega) (by omega)).mp c_1
        refine lv_iload_n hx hb d_Mo_pieces_30 rfl (lv_at hl 1 rfl) ?_
        exact W.iret (v := nI (cnt (fun j => (Q j).isSome) i)) hx hb hr (v_end hV ⟨by rw [show i = 60 by omega], rfl, hz⟩) hV.2.1.2.2 d_Mo_pieces_31
      · replace c_1 : ¬ 61 ≤ i + 1 := fun z9 => c_1 ((nI_leI (a := 61) (b := i + 1) (by omega) (by omega)).mpr z9)
        have hc9 := cnt_le (fun j => (Q j).isSome) i
        rcases hM (i + 1) (by omega) (by omega) with ⟨h0, hQ⟩ | ⟨R, hQ, hR, hRv⟩
        · refine lv_iload_n hx hb d_Mo_pieces_10 rfl (lv_at hl 1 rfl) ?_
          refine lv_aload_n hx hb d_Mo_pieces_11 rfl (lv_at hl 0 rfl) ?_
          refine u_get hx hb hts inMo hown hK hV hn 0 rfl rfl 4 (by decide) w_fl_Mo_17 rfl rfl d_Mo_pieces_12 ?_
          refine lv_iload_n hx hb d_Mo_pieces_15 rfl (lv_at hl 2 rfl) ?_
          refine lv_bipush (v := 29) hx hb d_Mo_pieces_16 (by decide) ?_
          refine e_imul (v := nI (29 * (i + 1))) hx hb d_Mo_pieces_18 (by rw [Nat.mul_comm 29 (i + 1)]; exact nI_mul (i + 1) 29) ?_
          refine lv_iconst (v := 0) hx hb d_Mo_pieces_19 (by decide) ?_
          refine e_iadd (v := nI (29 * (i + 1))) hx hb d_Mo_pieces_20 (nI_add (29 * (i + 1)) 0) ?_
          refine u_ialdN hx hb hK hV hn 1 rfl (by omega) (by decide) d_Mo_pieces_21 ?_
          rw [h0]
          refine e_iadd (v := nI (cnt (fun j => (Q j).isSome) (i + 1))) hx hb d_Mo_pieces_22 (by rw [cnt_n (f := (fun j => (Q j).isSome)) (k := i) (by simp [hQ])]; exact nI_add _ 0) ?_
          refine lv_istore_n (lv' := [(1, .int (nI (cnt (fun j => (Q j).isSome) (i + 1)))), (0, .ref m), (2, .int (nI (i + 1)))]) hx hb d_Mo_pieces_23 rfl hl (by decide) rfl (fun ls hl => ?_)
          refine lv_iinc (v := nI (i + 2)) (lv' := [(2, .int (nI (i + 2))), (1, .int (nI (cnt (fun j => (Q j).isSome) (i + 1)))), (0, .ref m)]) hx hb d_Mo_pieces_24 hl (k := 2) rfl (nI_add (i + 1) 1) (by decide) rfl (fun ls hl => ?_)
          refine lv_goto (tgt := 4) hx hb d_Mo_pieces_27 (by decide) ?_
          exact ih (i + 1) (by omega) (by omega) H locs ls hz hV (lv_sub hl [2, 1, 0] rfl)
        · refine lv_iload_n hx hb d_Mo_pieces_10 rfl (lv_at hl 1 rfl) ?_
          refine lv_aload_n hx hb d_Mo_pieces_11 rfl (lv_at hl 0 rfl) ?_
          refine u_get hx hb hts inMo hown hK hV hn 0 rfl rfl 4 (by decide) w_fl_Mo_17 rfl rfl d_Mo_pieces_12 ?_
          refine lv_iload_n hx hb d_Mo_pieces_15 rfl (lv_at hl 2 rfl) ?_
          refine lv_bipush (v := 29) hx hb d_Mo_pieces_16 (by decide) ?_
          refine e_imul (v := nI (29 * (i + 1))) hx hb d_Mo_pieces_18 (by rw [Nat.mul_comm 29 (i + 1)]; exact nI_mul (i + 1) 29) ?_
          refine lv_iconst (v := 0) hx hb d_Mo_pieces_19 (by decide) ?_
          refine e_iadd (v := nI (29 * (i + 1))) hx hb d_Mo_pieces_20 (nI_add (29 * (i + 1)) 0) ?_
          refine u_ialdN hx hb hK hV hn 1 rfl (by omega) (by decide) d_Mo_pieces_21 ?_
          rw [hR.1]
          refine e_iadd (v := nI (cnt (fun j => (Q j).isSome) (i + 1))) hx hb d_Mo_pieces_22 (by rw [cnt_y (f := (fun j => (Q j).isSome)) (k := i) (by simp [hQ])]; exact nI_add _ 1) ?_
          refine lv_istore_n (lv' := [(1, .int (nI (cnt (fun j => (Q j).isSome) (i + 1)))), (0, .ref m), (2, .int (nI (i + 1)))]) hx hb d_Mo_pieces_23 rfl hl (by decide) rfl (fun ls hl => ?_)
          refine lv_iinc (v := nI (i + 2)) (lv' := [(2, .int (nI (i + 2))), (1, .int (nI (cnt (fun j => (Q j).isSome) (i + 1)))), (0, .ref m)]) hx hb d_Mo_pieces_24 hl (k := 2) rfl (nI_add (i + 1) 1) (by decide) rfl (fun ls hl => ?_)
          refine lv_goto (tgt := 4) hx hb d_Mo_pieces_27 (by decide) ?_
          exact ih (i + 1) (by omega) (by omega) H locs ls hz hV (lv_sub hl [2, 1, 0] rfl)
  exact loop 61 0 (by omega) (by omega) H locs ls hz hV (lv_sub hl [2, 1, 0] rfl)

set_option maxHeartbeats 4000000 in
set_option maxRecDepth 100000 in
/-- isBarred -/
theorem c_Mo_isBarred (l : Launch) (G : Gx) (lo : Nat) (V : Vw) (sz : Nat) (m ba : Nat) (u0 u1 u2 u3 u4 u5 u6 u7 u9 u10 u11 u12 u13 u14 u15 u16 u17 u18 u19 u20 : Value) (b : Nat → Int32) (L : List Tri) (hn : [m, ba].Nodup) (hb9 : mbA b L) (hL : L.length < 200) (x y z : Nat) (hx1 : x < 41) (hy1 : y < 41) (hz1 : z < 41) : Met l y_Mo_isBarred ws_Mo_isBarred ({ frames := 0, cells := 0, slots := 0, locals := 0 } : Room) (vPre G lo [.ref m, .int (nI L.length), .int (nI x), .int (nI y), .int (nI z)] (vU V [(m, eO 8 [u0, u1, u2, u3, u4, u5, u6, u7, .ref ba, u9, u10, u11, u12, u13, u14, u15, u16, u17, u18, u19, u20]), (ba, eI (gI G) 600 b)]) sz) (vPost G lo (fun r V' k => r = some (.int (b2i (decide ((x, y, z) ∈ L)))) ∧ V' = vU V [(m, eO 8 [u0, u1, u2, u3, u4, u5, u6, u7, .ref ba, u9, u10, u11, u12, u13, u14, u15, u16, u17, u18, u19, u20]), (ba, eI (gI G) 600 b)] ∧ k = sz)) 0 0 (vL lo) := by
  refine vMet (R := RMo) (by decide) rfl (Nat.le_of_ble_eq_true rfl) ?_
  intro pg ev s mi args below meth cd hx hb hr hml hlk hnm hts hown hK hz hV ls hl
  have hl : lv_has ls 6 [(0, .ref m), (1, .int (nI L.length)), (2, .int (nI x)), (3, .int (nI y)), (4, .int (nI z))] := hl
  have hV0 := hV
  obtain ⟨H, hH⟩ : ∃ H, H = s.heap := ⟨_, rfl⟩
  obtain ⟨locs, hlocs⟩ : ∃ locs : List Loc, locs = [] := ⟨_, rfl⟩
  rw [← hH, ← hlocs]
  rw [← hH] at hz
  replace hV : vS G.1 cls lo s H locs (vU V [(m, eO 8 [u0, u1, u2, u3, u4, u5, u6, u7, .ref ba, u9, u10, u11, u12, u13, u14, u15, u16, u17, u18, u19, u20]), (ba, eI (gI G) 600 b)]) := by rw [hH, hlocs]; exact hV
  clear hH hlocs hV0
  refine lv_iconst (v := 0) hx hb d_Mo_isBarred_0 (by decide) ?_
  refine lv_istore (lv' := [(5, .int 0), (0, .ref m), (1, .int (nI L.length)), (2, .int (nI x)), (3, .int (nI y)), (4, .int (nI z))]) hx hb d_Mo_isBarred_1 hl (by decide) rfl (fun ls hl => ?_)
  have loop : ∀ (k : Nat) (i : Nat), L.length - i < k → (i ≤ L.length) → (hasT L (x, y, z) i = false) → ∀ (H : Heap) (locs : List Loc) (ls : Array Slot), H.size = sz → vS G.1 cls lo s H locs (vU V [(m, eO 8 [u0, u1, u2, u3, u4, u5, u6, u7, .ref ba, u9, u10, u11, u12, u13, u14, u15, u16, u17, u18, u19, u20]), (ba, eI (gI G) 600 b)]) → lv_has ls 6 [(0, .ref m), (1, .int (nI L.length)), (2, .int (nI x)), (3, .int (nI y)), (4, .int (nI z)), (5, .int (nI i))] → W pg l ev ({ frames := 0, cells := 0, slots := 0, locals := 0 } : Room) s mi args below meth cd H locs 0 0 (MQ below (vPost G lo (fun r V' k => r = some (.int (b2i (decide ((x, y, z) ∈ L)))) ∧ V' = vU V [(m, eO 8 [u0, u1, u2, u3, u4, u5, u6, u7, .ref ba, u9, u10, u11, u12, u13, u14, u15, u16, u17, u18, u19, u20]), (ba, eI (gI G) 600 b)] ∧ k = sz)) args s 0 0 (vL lo)) (F0 mi 3 ls []) := by
    intro k
    induction k with
    | zero => intro i hk; exact absurd hk (by omega)
    | succ k ih =>
      intro i hk hi hno H locs ls hz hV hl
      refine lv_iload hx hb d_Mo_isBarred_3 (lv_at hl 5 rfl) ?_
      refine lv_iload_n hx hb d_Mo_isBarred_5 rfl (lv_at hl 1 rfl) ?_
      refine lv_icmp_ge (tgt := 61) hx hb d_Mo_isBarred_6 (by decide) (fun c_1 => ?_) (fun c_1 => ?_)
      · replace c_1 : L.length ≤ i := (nI_leI (a := L.length) (b := i) (by omega) (by omega)).mp c_1
        refine lv_iconst (v := 0) hx hb d_Mo_isBarred_61 (by decide) ?_
        exact W.zret (v := 0) hx hb hr (by decide) (v_end hV ⟨by rw [← hasT_all, show L.length = i by omega, hno]; rfl, rfl, hz⟩) hV.2.1.2.2 d_Mo_isBarred_62
      · replace c_1 : ¬ L.length ≤ i := fun z9 => c_1 ((nI_leI (a := L.length) (b := i) (by omega) (by omega)).mpr z9)
        obtain ⟨o1, o2, o3, o4, o5, o6⟩ := hb9 i (by omega)
        refine lv_aload_n hx hb d_Mo_isBarred_9 rfl (lv_at hl 0 rfl) ?_
        refine u_get hx hb hts inMo hown hK hV hn 0 rfl rfl 8 (by decide) w_fl_Mo_26 rfl rfl d_Mo_isBarred_10 ?_
        refine lv_iconst (v := 3) hx hb d_Mo_isBarred_13 (by decide) ?_
        refine lv_iload hx hb d_Mo_isBarred_14 (lv_at hl 5 rfl) ?_
        refine e_imul (v := nI (3 * i)) hx hb d_Mo_isBarred_16 (nI_mul 3 i) ?_
        refine u_ialdN hx hb hK hV hn 1 rfl (by omega) (by decide) d_Mo_isBarred_17 ?_
        rw [o1]
        refine lv_iload_n hx hb d_Mo_isBarred_18 rfl (lv_at hl 2 rfl) ?_
        refine lv_icmp_ne (tgt := 55) hx hb d_Mo_isBarred_19 (by decide) (fun c_2 => ?_) (fun c_2 => ?_)
        · replace c_2 : ¬ (L.getD i z3).1 = x := fun z9 => c_2 ((nI_eq (a := (L.getD i z3).1) (b := x) (by omega) (by omega)).mpr z9)
          have hno2 : hasT L (x, y, z) (i + 1) = false := by simp only [hasT, hno, Bool.false_or]; exact decide_eq_false (fun e9 => c_2 (by rw [e9]))
          refine lv_iinc (v := nI (i + 1)) (lv' := [(5, .int (nI (i + 1))), (0, .ref m), (1, .int (nI L.length)), (2, .int (nI x)), (3, .int (nI y)), (4, .int (nI z))]) hx hb d_Mo_isBarred_55 hl (k := 5) rfl (nI_add i 1) (by decide) rfl (fun ls hl => ?_)
          refine lv_goto (tgt := 3) hx hb d_Mo_isBarred_58 (by decide) ?_
          exact ih (i + 1) (by omega) (by omega) hno2 H locs ls hz hV (lv_sub hl [1, 2, 3, 4, 5, 0] rfl)
        · replace c_2 : (L.getD i z3).1 = x := (nI_eq (a := (L.getD i z3).1) (b := x) (by omega) (by omega)).mp c_2
          refine lv_aload_n hx hb d_Mo_isBarred_22 rfl (lv_at hl 0 rfl) ?_
          refine u_get hx hb hts inMo hown hK hV hn 0 rfl rfl 8 (by decide) w_fl_Mo_26 rfl rfl d_Mo_isBarred_23 ?_
          refine lv_iconst (v := 3) hx hb d_Mo_isBarred_26 (by decide) ?_
          refine lv_iload hx hb d_Mo_isBarred_27 (lv_at hl 5 rfl) ?_
          refine e_imul (v := nI (3 * i)) hx hb d_Mo_isBarred_29 (nI_mul 3 i) ?_
          refine lv_iconst (v := 1) hx hb d_Mo_isBarred_30 (by decide) ?_
          refine e_iadd (v := nI (3 * i + 1)) hx hb d_Mo_isBarred_31 (nI_add (3 * i) 1) ?_
          refine u_ialdN hx hb hK hV hn 1 rfl (by omega) (by decide) d_Mo_isBarred_32 ?_
          rw [o2]
          refine lv_iload_n hx hb d_Mo_isBarred_33 rfl (lv_at hl 3 rfl) ?_
          refine lv_icmp_ne (tgt := 55) hx hb d_Mo_isBarred_34 (by decide) (fun c_3 => ?_) (fun c_3 => ?_)
          · replace c_3 : ¬ (L.getD i z3).2.1 = y := fun z9 => c_3 ((nI_eq (a := (L.getD i z3).2.1) (b := y) (by omega) (by omega)).mpr z9)
            have hno2 : hasT L (x, y, z) (i + 1) = false := by simp only [hasT, hno, Bool.false_or]; exact decide_eq_false (fun e9 => c_3 (by rw [e9]))
            refine lv_iinc (v := nI (i + 1)) (lv' := [(5, .int (nI (i + 1))), (0, .ref m), (1, .int (nI L.length)), (2, .int (nI x)), (3, .int (nI y)), (4, .int (nI z))]) hx hb d_Mo_isBarred_55 hl (k := 5) rfl (nI_add i 1) (by decide) rfl (fun ls hl => ?_)
            refine lv_goto (tgt := 3) hx hb d_Mo_isBarred_58 (by decide) ?_
            exact ih (i + 1) (by omega) (by omega) hno2 H locs ls hz hV (lv_sub hl [1, 2, 3, 4, 5, 0] rfl)
          · replace c_3 : (L.getD i z3).2.1 = y := (nI_eq (a := (L.getD i z3).2.1) (b := y) (by omega) (by omega)).mp c_3
            refine lv_aload_n hx hb d_Mo_isBarred_37 rfl (lv_at hl 0 rfl) ?_
            refine u_get hx hb hts inMo hown hK hV hn 0 rfl rfl 8 (by decide) w_fl_Mo_26 rfl rfl d_Mo_isBarred_38 ?_
            refine lv_iconst (v := 3) hx hb d_Mo_isBarred_41 (by decide) ?_
            refine lv_iload hx hb d_Mo_isBarred_42 (lv_at hl 5 rfl) ?_
            refine e_imul (v := nI (3 * i)) hx hb d_Mo_isBarred_44 (nI_mul 3 i) ?_
            refine lv_iconst (v := 2) hx hb d_Mo_isBarred_45 (by decide) ?_
            refine e_iadd (v := nI (3 * i + 2)) hx hb d_Mo_isBarred_46 (nI_add (3 * i) 2) ?_
            refine u_ialdN hx hb hK hV hn 1 rfl (by omega) (by decide) d_Mo_isBarred_47 ?_
            rw [o3]
            refine lv_iload hx hb d_Mo_isBarred_48 (lv_at hl 4 rfl) ?_
            refine lv_icmp_ne (tgt := 55) hx hb d_Mo_isBarred_50 (by decide) (fun c_4 => ?_) (fun c_4 => ?_)
            · replace c_4 : ¬ (L.getD i z3).2.2 = z := fun z9 => c_4 ((nI_eq (a := (L.getD i z3).2.2) (b := z) (by omega) (by omega)).mpr z9)
              have hno2 : hasT L (x, y, z) (i + 1) = false := by simp only [hasT, hno, Bool.false_or]; exact decide_eq_false (fun e9 => c_4 (by rw [e9]))
              refine lv_iinc (v := nI (i + 1)) (lv' := [(5, .int (nI (i + 1))), (0, .ref m), (1, .int (nI L.length)), (2, .int (nI x)), (3, .int (nI y)), (4, .int (nI z))]) hx hb d_Mo_isBarred_55 hl (k := 5) rfl (nI_add i 1) (by decide) rfl (fun ls hl => ?_)
              refine lv_goto (tgt := 3) hx hb d_Mo_isBarred_58 (by decide) ?_
              exact ih (i + 1) (by omega) (by omega) hno2 H locs ls hz hV (lv_sub hl [1, 2, 3, 4, 5, 0] rfl)
            · replace c_4 : (L.getD i z3).2.2 = z := (nI_eq (a := (L.getD i z3).2.2) (b := z) (by omega) (by omega)).mp c_4
              have hy9 : hasT L (x, y, z) (i + 1) = true := by simp only [hasT, hno, Bool.false_or]; exact decide_eq_true (Prod.ext c_2 (Prod.ext c_3 c_4))
              refine lv_iconst (v := 1) hx hb d_Mo_isBarred_53 (by decide) ?_
              exact W.zret (v := 1) hx hb hr (by decide) (v_end hV ⟨by rw [← hasT_all, hasT_mono hy9 L.length (by omega)]; rfl, rfl, hz⟩) hV.2.1.2.2 d_Mo_isBarred_54
  exact loop (L.length + 1) 0 (by omega) (by omega) rfl H locs ls hz hV (lv_sub hl [1, 2, 3, 4, 5, 0] rfl)

set_option maxHeartbeats 4000000 in
set_option maxRecDepth 100000 in
/-- isNode -/
theorem c_Mo_isNode (l : Launch) (G : Gx) (lo : Nat) (V : Vw) (sz : Nat) (y : Int32) : Met l y_Mo_isNode ws_Mo_isNode ({ frames := 1, cells := 0, slots := 0, locals := 25 } : Room) (vPre G lo [.int y] (vU V []) sz) (vPost G lo (fun r V' k => r = some (.int (b2i (isN y))) ∧ V' = vU V [] ∧ k = sz)) 0 0 (vL lo) := by
  refine vMet (R := RMo) (by decide) rfl (Nat.le_of_ble_eq_true rfl) ?_
  intro pg ev s mi args below meth cd hx hb hr hml hlk hnm hts hown hK hz hV ls hl
  have hl : lv_has ls 1 [(0, .int y)] := hl
  have hV0 := hV
  obtain ⟨H, hH⟩ : ∃ H, H = s.heap := ⟨_, rfl⟩
  obtain ⟨locs, hlocs⟩ : ∃ locs : List Loc, locs = [] := ⟨_, rfl⟩
  rw [← hH, ← hlocs]
  rw [← hH] at hz
  replace hV : vS G.1 cls lo s H locs (vU V []) := by rw [hH, hlocs]; exact hV
  clear hH hlocs hV0
  have hn : vN ([] : va_W) := List.nodup_nil
  refine lv_iload_n hx hb d_Mo_isNode_0 rfl (lv_at hl 0 rfl) ?_
  refine lv_iconst (v := 1) hx hb d_Mo_isNode_1 (by decide) ?_
  refine lv_bipush (v := 40) hx hb d_Mo_isNode_2 (by decide) ?_
  refine v_call (va_runS (As := [.int y, .int 1, .int 40]) (rest := []) ⟨hx, hb, hml, hown, hts⟩ (c_Mo_in l G lo _ _ y ((1 : Int32)) ((40 : Int32))) (kwS 3 hts w_co_Mo_in rfl rfl w_it_Mo w_ml_Mo_54 w_st_Mo_in (by decide +kernel) ⟨(Nat.le_of_ble_eq_true rfl), (Nat.le_of_ble_eq_true rfl)⟩) (v_preS hK hV rfl hz) rfl rfl hl.1 rfl (lv_room (Nat.le_of_ble_eq_true rfl)) d_Mo_isNode_4 ⟨(Nat.le_of_ble_eq_true rfl), (Nat.le_of_ble_eq_true rfl)⟩) hV (fun r9 V9 H locs hp hV hle => ?_)
  obtain ⟨rfl, hv9, hz⟩ := hp
  rw [hv9] at hV
  rcases tf (inI y ((1 : Int32)) ((40 : Int32))) with d_1 | d_1
  · have hV : vS G.1 cls lo s H locs (vU V []) := hV
    refine W.eq (g2 := F0 mi 7 ls [.int 1]) (by rw [d_1]; rfl) ?_
    exact W.zret (v := 1) hx hb hr (by decide) (v_end hV ⟨by rw [isN_in]; exact congrArg (fun b => some (Value.int (b2i b))) d_1.symm, rfl, hz⟩) hV.2.1.2.2 d_Mo_isNode_7
  · have hV : vS G.1 cls lo s H locs (vU V []) := hV
    refine W.eq (g2 := F0 mi 7 ls [.int 0]) (by rw [d_1]; rfl) ?_
    exact W.zret (v := 0) hx hb hr (by decide) (v_end hV ⟨by rw [isN_in]; exact congrArg (fun b => some (Value.int (b2i b))) d_1.symm, rfl, hz⟩) hV.2.1.2.2 d_Mo_isNode_7
