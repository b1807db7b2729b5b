/-! A ROW, A TOWN: what a row of a text says, and what it does to a town -/
abbrev RowE : Type := (Nat × PcR) ⊕ (Tri ⊕ (Tri ⊕ (Tri ⊕ (Nat × Nat))))
def rowR (t : Nat → Nat) (n p : Nat) : Sum Nat (RowE × Nat) :=
  if sk t n p < n then
    if t (sk t n p) = 112 then sbd (pieceR t n (sk t n p + 1)) fun z => .inr (.inl z.1, z.2)
    else if t (sk t n p) = 120 then sbd (turnR t n (sk t n p + 1)) fun z => .inr (.inr (.inl z.1), z.2)
    else if t (sk t n p) = 104 then sbd (spotR t n (sk t n p + 1)) fun z => .inr (.inr (.inr (.inl z.1)), z.2)
    else if t (sk t n p) = 115 then sbd (spotR t n (sk t n p + 1)) fun z => .inr (.inr (.inr (.inr (.inl z.1))), z.2)
    else if t (sk t n p) = 103 then sbd (goneR t n (sk t n p + 1)) fun z => .inr (.inr (.inr (.inr (.inr z.1))), z.2)
    else .inl (sk t n p)
  else .inl (sk t n p)
/-- pieces, buildings, stations, barred turns -/
abbrev TnA : Type := (Nat → Option PcR) × (Nat → Option (Nat × Nat)) × (Nat → Option (Nat × Nat)) × List Tri
def rowA (A : TnA) : RowE → TnA
  | .inl z => (va_up A.1 z.1 (some z.2), A.2)
  | .inr (.inl x) => (A.1, A.2.1, A.2.2.1, if x ∈ A.2.2.2 then A.2.2.2 else A.2.2.2 ++ [x])
  | .inr (.inr (.inl x)) => (A.1, va_up A.2.1 x.1 (some (x.2.1, x.2.2)), A.2.2)
  | .inr (.inr (.inr (.inl x))) => (A.1, A.2.1, va_up A.2.2.1 x.1 (some (x.2.1, x.2.2)), A.2.2.2)
  | .inr (.inr (.inr (.inr g))) => if g.1 = 112 then (va_up A.1 g.2 none, A.2) else if g.1 = 104 then (A.1, va_up A.2.1 g.2 none, A.2.2) else (A.1, A.2.1, va_up A.2.2.1 g.2 none, A.2.2.2)
def spOk (fp fm : Nat → Int32) (B : Nat → Option (Nat × Nat)) : Prop := ∀ j, 1 ≤ j → j ≤ 30 → (fp j = 0 ∧ B j = none) ∨ ∃ x y : Nat, fp j = nI x ∧ fm j = nI y ∧ B j = some (x, y) ∧ 1 ≤ x ∧ x ≤ 60 ∧ y ≤ 9999
def twB (G : Gx) (V : Vw) (dy sz : Nat) (pf : Nat → Option Nat) (Q : Nat → Option PcR) : Prop := ∀ j, 1 ≤ j → j ≤ 60 → (pf j = none ∧ Q j = none) ∨ ∃ (a : Nat) (R : PcR), pf j = some a ∧ Q j = some R ∧ pcAt G V a R ∧ dy ≤ a ∧ a + 4 ≤ sz
def tlOk (L : List Tri) (of : Bool) (TL : List Tri) : Prop := L = TL.take 20 ∧ of = decide (20 < TL.length)
theorem tlOk_add {L TL : List Tri} {of : Bool} (h : tlOk L of TL) (x : Tri) : tlOk (tnAdd (L, of) x).1 (tnAdd (L, of) x).2 (if x ∈ TL then TL else TL ++ [x]) := by
  obtain ⟨rfl, rfl⟩ := h
  rcases Nat.lt_or_ge 20 TL.length with hl | hl
  · have h20 : (TL.take 20).length = 20 := by simp; omega
    have e1 : tnAdd (TL.take 20, decide (20 < TL.length)) x = (TL.take 20, true) := by
      unfold tnAdd
      simp only [hl, decide_true]
      split
      · rfl
      · rw [if_pos (by omega)]
    rw [e1]
    split
    · exact ⟨rfl, by simp [hl]⟩
    · refine ⟨?_, by simp; omega⟩
      rw [List.take_append_of_le_length (by omega)]
  · have e0 : TL.take 20 = TL := List.take_of_length_le hl
    rw [e0]
    have hf : decide (20 < TL.length) = false := by simp; omega
    rw [hf]
    unfold tnAdd
    simp only []
    by_cases hm : x ∈ TL
    · rw [if_pos hm, if_pos hm]
      exact ⟨e0.symm, hf.symm⟩
    · rw [if_neg hm, if_neg hm]
      by_cases h2 : 20 ≤ TL.length
      · rw [if_pos h2]
        refine ⟨?_, by simp; omega⟩
        rw [List.take_append_of_le_length (by omega), e0]
      · rw [if_neg h2]
        refine ⟨?_, by simp; omega⟩
        rw [List.take_of_length_le (by simp; omega)]
theorem spOk_put {fp fm : Nat → Int32} {B : Nat → Option (Nat × Nat)} (h : spOk fp fm B) {i x y : Nat} (hx1 : 1 ≤ x) (hx2 : x ≤ 60) (hy : y ≤ 9999) : spOk (upd fp i (nI x)) (upd fm i (nI y)) (va_up B i (some (x, y))) := by
  intro j h1 h2
  by_cases he : j = i
  · subst he
    exact Or.inr ⟨x, y, by simp [upd], by simp [upd], by simp [va_up], hx1, hx2, hy⟩
  · have := h j h1 h2
    simpa [upd, va_up, he] using this
theorem spOk_gone {fp fm : Nat → Int32} {B : Nat → Option (Nat × Nat)} (h : spOk fp fm B) {i : Nat} : spOk (upd fp i 0) (upd fm i 0) (va_up B i none) := by
  intro j h1 h2
  by_cases he : j = i
  · subst he
    exact Or.inl ⟨by simp [upd], by simp [va_up]⟩
  · have := h j h1 h2
    simpa [upd, va_up, he] using this
theorem pcAt_eq {G : Gx} {V V9 : Vw} {a : Nat} {R : PcR} (h : pcAt G V a R) (he : ∀ q, a ≤ q → q < a + 4 → V9 q = V q) : pcAt G V9 a R := by
  obtain ⟨h1, ⟨g1, g2, g3, k1, k2, k3, k4⟩, h3⟩ := h
  exact ⟨by rw [he a (by omega) (by omega)]; exact h1, ⟨g1, g2, g3, by rw [he _ (by omega) (by omega)]; exact k1, by rw [he _ (by omega) (by omega)]; exact k2, by rw [he _ (by omega) (by omega)]; exact k3, k4⟩, h3⟩
theorem twB_mono {G : Gx} {V V9 : Vw} {dy sz sz9 : Nat} {pf : Nat → Option Nat} {Q : Nat → Option PcR} (h : twB G V dy sz pf Q) (he : ∀ q, dy ≤ q → q < sz → V9 q = V q) (hs : sz ≤ sz9) : twB G V9 dy sz9 pf Q := by
  intro j h1 h2
  rcases h j h1 h2 with q | ⟨a, R, q1, q2, q3, q4, q5⟩
  · exact Or.inl q
  · exact Or.inr ⟨a, R, q1, q2, pcAt_eq q3 (fun q z1 z2 => he q (by omega) (by omega)), q4, by omega⟩
theorem twB_put {G : Gx} {V : Vw} {dy sz a i : Nat} {pf : Nat → Option Nat} {Q : Nat → Option PcR} {R : PcR} (h : twB G V dy sz pf Q) (hp : pcAt G V a R) (h1 : dy ≤ a) (h2 : a + 4 ≤ sz) : twB G V dy sz (va_up pf i (some a)) (va_up Q i (some R)) := by
  intro j g1 g2
  by_cases he : j = i
  · subst he
    exact Or.inr ⟨a, R, by simp [va_up], by simp [va_up], hp, h1, h2⟩
  · have := h j g1 g2
    simpa [va_up, he] using this
theorem twB_gone {G : Gx} {V : Vw} {dy sz i : Nat} {pf : Nat → Option Nat} {Q : Nat → Option PcR} (h : twB G V dy sz pf Q) : twB G V dy sz (va_up pf i none) (va_up Q i none) := by
  intro j g1 g2
  by_cases he : j = i
  · subst he
    exact Or.inl ⟨by simp [va_up], by simp [va_up]⟩
  · have := h j g1 g2
    simpa [va_up, he] using this
/-- a town that the class holds is A -/
def twA (G : Gx) (V : Vw) (dy sz : Nat) (pf : Nat → Option Nat) (fb fc fs fd : Nat → Int32) (L : List Tri) (of : Bool) (A : TnA) : Prop := twB G V dy sz pf A.1 ∧ spOk fb fc A.2.1 ∧ spOk fs fd A.2.2.1 ∧ tlOk L of A.2.2.2
theorem rowR_ok {t : Nat → Nat} {n p : Nat} (hp : p ≤ n) : match rowR t n p with
    | .inl e => e ≤ n
    | .inr z => p < z.2 ∧ z.2 ≤ n := by
  have s1 := sk_ge t n p
  have s2 : sk t n p ≤ n := sk_le hp
  unfold rowR
  by_cases h : sk t n p < n
  · rw [if_pos h]
    by_cases c1 : t (sk t n p) = 112
    · rw [if_pos c1]
      have g := pieceR_ok (t := t) (n := n) (p := sk t n p + 1) (by omega)
      rcases h1 : pieceR t n (sk t n p + 1) with e | ⟨x, q⟩
      · rw [h1] at g; exact g
      · rw [h1] at g; simp only [] at g; exact ⟨by show p < q; omega, g.2.1⟩
    rw [if_neg c1]
    by_cases c2 : t (sk t n p) = 120
    · rw [if_pos c2]
      have g := turnR_ok (t := t) (n := n) (p := sk t n p + 1) (by omega)
      rcases h1 : turnR t n (sk t n p + 1) with e | ⟨x, q⟩
      · rw [h1] at g; exact g
      · rw [h1] at g; simp only [] at g; exact ⟨by show p < q; omega, g.2.1⟩
    rw [if_neg c2]
    by_cases c3 : t (sk t n p) = 104
    · rw [if_pos c3]
      have g := spotR_ok (t := t) (n := n) (p := sk t n p + 1) (by omega)
      rcases h1 : spotR t n (sk t n p + 1) with e | ⟨x, q⟩
      · rw [h1] at g; exact g
      · rw [h1] at g; simp only [] at g; exact ⟨by show p < q; omega, g.2.1⟩
    rw [if_neg c3]
    by_cases c4 : t (sk t n p) = 115
    · rw [if_pos c4]
      have g := spotR_ok (t := t) (n := n) (p := sk t n p + 1) (by omega)
      rcases h1 : spotR t n (sk t n p + 1) with e | ⟨x, q⟩
      · rw [h1] at g; exact g
      · rw [h1] at g; simp only [] at g; exact ⟨by show p < q; omega, g.2.1⟩
    rw [if_neg c4]
    by_cases c5 : t (sk t n p) = 103
    · rw [if_pos c5]
      have g := goneR_ok (t := t) (n := n) (p := sk t n p + 1) (by omega)
      rcases h1 : goneR t n (sk t n p + 1) with e | ⟨x, q⟩
      · rw [h1] at g; exact g
      · rw [h1] at g; simp only [] at g; exact ⟨by show p < q; omega, g.2.1⟩
    rw [if_neg c5]
    exact s2
  · rw [if_neg h]
    exact s2
/-- all rows: where the text is wrong, or the town that it makes -/
def rowsR (t : Nat → Nat) (n : Nat) : Nat → TnA → Nat → Sum Nat TnA
  | 0, A, _ => .inr A
  | k + 1, A, p => if sk t n p < n then (match rowR t n (sk t n p) with
      | .inl e => .inl e
      | .inr z => (match tk t n 59 z.2 with
        | .inl e => .inl e
        | .inr q => rowsR t n k (rowA A z.1) q)) else .inr A
