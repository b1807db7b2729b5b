/-! THE PRINT of a town: the list of its bytes -/
theorem nI_div {a b : Nat} (ha : a < 2 ^ 31) (hb : b < 2 ^ 31) : nI a / nI b = nI (a / b) := by
  have h3 : a / b < 2 ^ 31 := Nat.lt_of_le_of_lt (Nat.div_le_self _ _) ha
  apply Int32.toInt_inj.mp
  rw [Int32.toInt_div, nI_toInt ha, nI_toInt hb, nI_toInt h3, ← Int.ofNat_tdiv]
  obtain ⟨q, hq⟩ : ∃ q, a / b = q := ⟨_, rfl⟩
  rw [hq] at h3 ⊢
  rw [Int.bmod_eq_of_le_mul_two (by omega) (by omega)]
theorem nI_rem {a b : Nat} (ha : a < 2 ^ 31) (hb : b < 2 ^ 31) : nI a - nI a / nI b * nI b = nI (a % b) := by
  rw [nI_div ha hb, nI_mul, nI_sub (Nat.div_mul_le_self a b)]
  congr 1
  have := Nat.div_add_mod a b
  rw [Nat.mul_comm] at this
  omega
def prOk (f : Nat → Int32) (PB : List Nat) : Prop := ∀ i, i < PB.length → f i = nI (PB.getD i 0)
theorem prOk_nil (f : Nat → Int32) : prOk f [] := fun i hi => absurd hi (by simp)
theorem prOk_add {f : Nat → Int32} {PB : List Nat} (h : prOk f PB) (c : Nat) : prOk (upd f PB.length (nI c)) (PB ++ [c]) := by
  intro i hi
  rw [List.length_append, List.length_singleton] at hi
  by_cases he : i = PB.length
  · subst he
    rw [getD_app_r]
    simp [upd]
  · have hl : i < PB.length := by omega
    rw [getD_app_l hl]
    have := h i hl
    simpa [upd, he] using this
theorem b_id : ∀ c, c < 128 → (nI c).toInt8.toInt32 = nI c := by decide +kernel
theorem b_nar : ∀ c, c < 128 → vp_nar .byte (nI c) = nI c := by decide +kernel
def dgN (v : Nat) : List Nat := (if 1000 ≤ v then [48 + v / 1000] else []) ++ ((if 100 ≤ v then [48 + v / 100 % 10] else []) ++ ((if 10 ≤ v then [48 + v / 10 % 10] else []) ++ [48 + v % 10]))
def pN (c v : Nat) : List Nat := c :: dgN v
theorem pN_len (c v : Nat) : (pN c v).length = 2 + (if 1000 ≤ v then 1 else 0) + (if 100 ≤ v then 1 else 0) + (if 10 ≤ v then 1 else 0) := by
  simp only [pN, dgN, List.length_cons, List.length_append, List.length_nil]
  repeat' split
  all_goals simp <;> omega
theorem pN_le2 {c v : Nat} (h : v ≤ 99) : (pN c v).length ≤ 3 := by rw [pN_len]; (repeat' split) <;> omega
theorem pN_le1 {c v : Nat} (h : v ≤ 9) : (pN c v).length ≤ 2 := by rw [pN_len]; (repeat' split) <;> omega
theorem pN_le4 (c v : Nat) : (pN c v).length ≤ 5 := by rw [pN_len]; (repeat' split) <;> omega
def prH (hs : List Tri) : Nat → List Nat
  | 0 => []
  | i + 1 => prH hs i ++ (pN 91 (hs.getD i z3).1 ++ (pN 45 (hs.getD i z3).2.1 ++ (pN 58 (hs.getD i z3).2.2 ++ [93])))
def prNm (o : Option (List Nat × Nat)) : List Nat := match o with
  | none => []
  | some x => 34 :: (x.1 ++ (34 :: pN 35 x.2))
def prLm (c v : Nat) : List Nat := if v = 0 then [] else pN c v
def prPc (j : Nat) (R : PcR) : List Nat := pN 112 j ++ (pN 61 R.1.1 ++ (pN (if R.1.2.1 then 62 else 45) R.1.2.2 ++ (pN 58 R.2.1.1 ++ (pN (kindN R.2.1.2.1) R.2.1.2.2 ++ (prH R.2.2.1 R.2.2.1.length ++ (prLm 94 R.2.2.2.1.1 ++ (prLm 33 R.2.2.2.1.2 ++ (prNm R.2.2.2.2 ++ [59]))))))))
def prPs (Q : Nat → Option PcR) : Nat → List Nat
  | 0 => []
  | k + 1 => prPs Q k ++ (match Q (k + 1) with
    | none => []
    | some R => prPc (k + 1) R)
def prSp (c : Nat) (B : Nat → Option (Nat × Nat)) : Nat → List Nat
  | 0 => []
  | k + 1 => prSp c B k ++ (match B (k + 1) with
    | none => []
    | some x => pN c (k + 1) ++ (pN 64 x.1 ++ (pN 43 x.2 ++ [59])))
def prTn (L : List Tri) : Nat → List Nat
  | 0 => []
  | i + 1 => prTn L i ++ (pN 120 (L.getD i z3).1 ++ (pN 45 (L.getD i z3).2.1 ++ (pN 45 (L.getD i z3).2.2 ++ [59])))
def prA (A : TnA) : List Nat := prPs A.1 60 ++ prSp 104 A.2.1 30 ++ prSp 115 A.2.2.1 30 ++ prTn A.2.2.2 A.2.2.2.length
theorem prH_le {hs : List Tri} (h : hrV hs) : ∀ i, i ≤ hs.length → (prH hs i).length ≤ 10 * i
  | 0, _ => by simp [prH]
  | i + 1, hi => by
    have ih := prH_le h i (by omega)
    obtain ⟨g1, g2, g3, g4⟩ := h.2 i (by omega)
    have a1 := pN_le2 (c := 91) (v := (hs.getD i z3).1) (by omega)
    have a2 := pN_le2 (c := 45) (v := (hs.getD i z3).2.1) (by omega)
    have a3 := pN_le2 (c := 58) (v := (hs.getD i z3).2.2) (by omega)
    simp only [prH, List.length_append, List.length_singleton]
    omega
theorem prLm_le {c v : Nat} (h : v ≤ 99) : (prLm c v).length ≤ 3 := by
  unfold prLm
  split
  · simp
  · exact pN_le2 h
theorem prNm_le {o : Option (List Nat × Nat)} (h : nmV o) : (prNm o).length ≤ 12 := by
  cases o with
  | none => simp [prNm]
  | some x =>
    have a1 := pN_le1 (c := 35) h.2.2.2
    have a2 := h.2.1
    simp only [prNm, List.length_cons, List.length_append]
    omega
theorem prPc_le {R : PcR} (h : pcV R) {j : Nat} (hj : j ≤ 60) : (prPc j R).length ≤ 66 := by
  obtain ⟨⟨r1, r2, r3, r4⟩, ⟨r5, r6, r7, r8, r9⟩, r10, ⟨r12, r13⟩, r14⟩ := h
  have a1 := pN_le2 (c := 112) (v := j) (by omega)
  have a2 := pN_le2 (c := 61) (v := R.1.1) (by omega)
  have a3 := pN_le2 (c := if R.1.2.1 then 62 else 45) (v := R.1.2.2) (by omega)
  have a4 := pN_le4 58 R.2.1.1
  have a5 := pN_le2 (c := kindN R.2.1.2.1) (v := R.2.1.2.2) (by omega)
  have a6 := prH_le r10 _ (Nat.le_refl _)
  have a7 := r10.1
  have a8 := prLm_le (c := 94) r12
  have a9 := prLm_le (c := 33) r13
  have a10 := prNm_le r14
  simp only [prPc, List.length_append, List.length_singleton]
  omega
theorem prPs_n {Q : Nat → Option PcR} {k : Nat} (h : Q (k + 1) = none) : prPs Q (k + 1) = prPs Q k := by simp [prPs, h]
theorem prPs_s {Q : Nat → Option PcR} {k : Nat} {R : PcR} (h : Q (k + 1) = some R) : prPs Q (k + 1) = prPs Q k ++ prPc (k + 1) R := by simp [prPs, h]
theorem prSp_n {c : Nat} {B : Nat → Option (Nat × Nat)} {k : Nat} (h : B (k + 1) = none) : prSp c B (k + 1) = prSp c B k := by simp [prSp, h]
theorem prSp_s {c : Nat} {B : Nat → Option (Nat × Nat)} {k x y : Nat} (h : B (k + 1) = some (x, y)) : prSp c B (k + 1) = prSp c B k ++ (pN c (k + 1) ++ (pN 64 x ++ (pN 43 y ++ [59]))) := by simp [prSp, h]
theorem prSp_bd {c : Nat} {B : Nat → Option (Nat × Nat)} {x y k : Nat} (h2 : k ≤ 30) (hx : x ≤ 60) : (pN c k ++ (pN 64 x ++ (pN 43 y ++ [59]))).length ≤ 12 := by
  have a1 := pN_le2 (c := c) (v := k) (by omega)
  have a2 := pN_le2 (c := 64) (v := x) (by omega)
  have a3 := pN_le4 43 y
  simp only [List.length_append, List.length_singleton]
  omega
theorem prSp_le {c : Nat} {B : Nat → Option (Nat × Nat)} (h : ∀ j x, B j = some x → x.1 ≤ 60) : ∀ k, k ≤ 30 → (prSp c B k).length ≤ 12 * k
  | 0, _ => by simp [prSp]
  | k + 1, hk => by
    have ih := prSp_le (c := c) h k (by omega)
    rcases e : B (k + 1) with _ | ⟨x, y⟩
    · rw [prSp_n e]; omega
    · have := prSp_bd (c := c) (B := B) (x := x) (y := y) hk (h _ _ e)
      rw [prSp_s e, List.length_append]
      omega
theorem prTn_le {L : List Tri} (h : ∀ i, i < L.length → (L.getD i z3).1 < 41 ∧ (L.getD i z3).2.1 < 41 ∧ (L.getD i z3).2.2 < 41) : ∀ i, i ≤ L.length → (prTn L i).length ≤ 10 * i
  | 0, _ => by simp [prTn]
  | i + 1, hi => by
    have ih := prTn_le h i (by omega)
    obtain ⟨g1, g2, g3⟩ := h i (by omega)
    have a1 := pN_le2 (c := 120) (v := (L.getD i z3).1) (by omega)
    have a2 := pN_le2 (c := 45) (v := (L.getD i z3).2.1) (by omega)
    have a3 := pN_le2 (c := 45) (v := (L.getD i z3).2.2) (by omega)
    simp only [prTn, List.length_append, List.length_singleton]
    omega
