/-! A PIECE as the class holds it -/
def encN (ls : List Nat) : Nat := ls.foldl (fun x c => 256 * x + c) 0
def nmL (o : Option (List Nat × Nat)) : List Nat := match o with
  | none => []
  | some x => x.1
def nmA (o : Option (List Nat × Nat)) : Int32 := match o with
  | none => -1
  | some x => nI x.2
def hrOk (h1 h2 h3 : Nat → Int32) (hs : List Tri) : Prop := ∀ i, i < hs.length → h1 i = nI (hs.getD i z3).1 ∧ h2 i = nI (hs.getD i z3).2.1 ∧ h3 i = nI (hs.getD i z3).2.2
def hrV (hs : List Tri) : Prop := hs.length ≤ 3 ∧ ∀ i, i < hs.length → (hs.getD i z3).1 ≤ 23 ∧ (hs.getD i z3).2.1 ≤ 23 ∧ 1 ≤ (hs.getD i z3).2.2 ∧ (hs.getD i z3).2.2 ≤ 99
def nmV (o : Option (List Nat × Nat)) : Prop := match o with
  | none => True
  | some x => 1 ≤ x.1.length ∧ x.1.length ≤ 8 ∧ (∀ c ∈ x.1, 97 ≤ c ∧ c ≤ 122) ∧ x.2 ≤ 9
/-- a piece's numbers are as the text's words allow -/
def pcV (R : PcR) : Prop := (1 ≤ R.1.1 ∧ R.1.1 ≤ 40 ∧ 1 ≤ R.1.2.2 ∧ R.1.2.2 ≤ 40) ∧ (1 ≤ R.2.1.1 ∧ R.2.1.1 ≤ 9999 ∧ R.2.1.2.1 ≤ 4 ∧ 1 ≤ R.2.1.2.2 ∧ R.2.1.2.2 ≤ 99) ∧ hrV R.2.2.1 ∧ (R.2.2.2.1.1 ≤ 99 ∧ R.2.2.2.1.2 ≤ 99) ∧ nmV R.2.2.2.2
/-- speed at an hour -/
def spd (own : Nat) : List Tri → Nat → Nat
  | [], _ => own
  | x :: xs, h => if x.1 ≤ h ∧ h ≤ x.2.1 then x.2.2 else spd own xs h
theorem drop_getD {α : Type} {L : List α} {i : Nat} {d : α} (h : i < L.length) : L.drop i = L.getD i d :: L.drop (i + 1) := by
  rw [getD_in h]
  exact (List.getElem_cons_drop h).symm
theorem hrOk_add {h1 h2 h3 : Nat → Int32} {hs : List Tri} (h : hrOk h1 h2 h3 hs) (a b c : Nat) : hrOk (upd h1 hs.length (nI a)) (upd h2 hs.length (nI b)) (upd h3 hs.length (nI c)) (hs ++ [(a, b, c)]) := by
  intro i hi
  rw [List.length_append, List.length_singleton] at hi
  by_cases he : i = hs.length
  · subst he
    rw [getD_app_r]
    simp [upd]
  · have hl : i < hs.length := by omega
    rw [getD_app_l hl]
    have := h i hl
    simpa [upd, he] using this
theorem encN_app (ls : List Nat) (c : Nat) : encN (ls ++ [c]) = 256 * encN ls + c := by
  simp [encN, List.foldl_append]
/-- so few letters fit -/
theorem encN_lt : ∀ (k : Nat) (ls : List Nat), ls.length = k → (∀ c ∈ ls, c < 128) → encN ls < 128 * 256 ^ (k - 1) ∨ (k = 0 ∧ encN ls = 0) := by
  intro k
  induction k with
  | zero =>
    intro ls h _
    have : ls = [] := List.length_eq_zero_iff.mp h
    subst this
    exact Or.inr ⟨rfl, rfl⟩
  | succ k ih =>
    intro ls h hc
    left
    rcases List.eq_nil_or_concat ls with rfl | ⟨xs, c, rfl⟩
    · simp at h
    · rw [List.concat_eq_append] at *
      rw [encN_app]
      have hx : xs.length = k := by simpa using h
      have hcc : c < 128 := hc c (by simp)
      rcases ih xs hx (fun c h => hc c (by simp [h])) with q | ⟨q1, q2⟩
      · cases k with
        | zero =>
          have : xs = [] := List.length_eq_zero_iff.mp hx
          subst this
          simp [encN]
          omega
        | succ j =>
          simp only [Nat.add_sub_cancel] at *
          rw [Nat.pow_succ]
          omega
      · subst q1
        rw [q2]
        simp
        omega
theorem encN_small {ls : List Nat} (h : ls.length ≤ 8) (hc : ∀ c ∈ ls, c < 128) : encN ls < 2 ^ 63 := by
  rcases encN_lt ls.length ls rfl hc with q | ⟨-, q⟩
  · have : 256 ^ (ls.length - 1) ≤ 256 ^ 7 := Nat.pow_le_pow_right (by decide) (by omega)
    omega
  · omega
