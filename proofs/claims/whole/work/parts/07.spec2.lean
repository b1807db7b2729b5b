/-! WHAT A TEXT SAYS, row by row: where it is wrong, or what it says and where it ends -/
def sbd {α β : Type} (x : Sum Nat α) (f : α → Sum Nat β) : Sum Nat β := match x with
  | .inl e => .inl e
  | .inr a => f a
theorem sbd_l {α β : Type} (e : Nat) (f : α → Sum Nat β) : sbd (.inl e) f = .inl e := rfl
theorem sbd_r {α β : Type} (a : α) (f : α → Sum Nat β) : sbd (.inr a) f = f a := rfl
def sR {α : Type} : Sum Nat (α × Nat) → Nat
  | .inl e => e
  | .inr x => x.2
abbrev Tri : Type := Nat × Nat × Nat
def z3 : Tri := (0, 0, 0)
def turnR (t : Nat → Nat) (n p : Nat) : Sum Nat (Tri × Nat) :=
  sbd (num t n 1 40 p) fun a => sbd (tk t n 45 a.2) fun p2 => sbd (num t n 1 40 p2) fun b => sbd (tk t n 45 b.2) fun p4 => sbd (num t n 1 40 p4) fun c => .inr ((a.1, b.1, c.1), c.2)
def spotR (t : Nat → Nat) (n p : Nat) : Sum Nat (Tri × Nat) :=
  sbd (num t n 1 30 p) fun a => sbd (tk t n 64 a.2) fun p2 => sbd (num t n 1 60 p2) fun b => sbd (tk t n 43 b.2) fun p4 => sbd (num t n 0 9999 p4) fun c => .inr ((a.1, b.1, c.1), c.2)
/-- which, number -/
def goneR (t : Nat → Nat) (n p : Nat) : Sum Nat ((Nat × Nat) × Nat) :=
  if sk t n p < n ∧ (t (sk t n p) = 112 ∨ t (sk t n p) = 104 ∨ t (sk t n p) = 115) then
    sbd (num t n 1 (if t (sk t n p) = 112 then 60 else 30) (sk t n p + 1)) fun a => .inr ((t (sk t n p), a.1), a.2)
  else .inl (sk t n p)
def nodesR (t : Nat → Nat) (n p : Nat) : Sum Nat ((Nat × Bool × Nat) × Nat) :=
  sbd (num t n 1 40 p) fun a => sbd (tk t n (if sk t n a.2 < n ∧ t (sk t n a.2) = 62 then 62 else 45) (sk t n a.2)) fun p2 => sbd (num t n 1 40 p2) fun b =>
    if b.1 = a.1 then .inl (b.2 - 1) else .inr ((a.1, decide (sk t n a.2 < n ∧ t (sk t n a.2) = 62), b.1), b.2)
def kindC (c : Nat) : Option Nat := if c = 114 then some 0 else if c = 98 then some 1 else if c = 116 then some 2 else if c = 102 then some 3 else if c = 119 then some 4 else none
def kindAt (t : Nat → Nat) (n q : Nat) : Option Nat := if q < n then kindC (t q) else none
def lksR (t : Nat → Nat) (n p : Nat) : Sum Nat (Tri × Nat) :=
  sbd (tk t n 58 p) fun p1 => sbd (num t n 1 9999 p1) fun len => match kindAt t n (sk t n len.2) with
    | none => .inl (sk t n len.2)
    | some k => sbd (num t n 1 99 (sk t n len.2 + 1)) fun sp => .inr ((len.1, k, sp.1), sp.2)
def hourR (t : Nat → Nat) (n p : Nat) : Sum Nat (Tri × Nat) :=
  sbd (num t n 0 23 p) fun a => sbd (tk t n 45 a.2) fun p1 => sbd (num t n a.1 23 p1) fun b => sbd (tk t n 58 b.2) fun p2 => sbd (num t n 1 99 p2) fun c => sbd (tk t n 93 c.2) fun p3 => .inr ((a.1, b.1, c.1), p3)
def hrsR (t : Nat → Nat) (n : Nat) : Nat → List Tri → Nat → Sum Nat (List Tri × Nat)
  | 0, hs, p => .inr (hs, p)
  | k + 1, hs, p => if sk t n p < n ∧ t (sk t n p) = 91 then sbd (hourR t n (sk t n p + 1)) fun h => hrsR t n k (hs ++ [h.1]) h.2 else .inr (hs, sk t n p)
/-- a limit behind a sign, 0 without one -/
def lim1 (t : Nat → Nat) (n c p : Nat) : Sum Nat (Nat × Nat) := if sk t n p < n ∧ t (sk t n p) = c then num t n 1 99 (sk t n p + 1) else .inr (0, sk t n p)
def limR (t : Nat → Nat) (n p : Nat) : Sum Nat ((Nat × Nat) × Nat) := sbd (lim1 t n 94 p) fun h => sbd (lim1 t n 33 h.2) fun w => .inr ((h.1, w.1), w.2)
/-- letters: so many more at most -/
def letR (t : Nat → Nat) (n : Nat) : Nat → List Nat → Nat → List Nat × Nat
  | 0, ls, r => (ls, r)
  | k + 1, ls, r => if isL t n r = true then letR t n k (ls ++ [t r]) (r + 1) else (ls, r)
def namX (t : Nat → Nat) (n : Nat) (x : List Nat × Nat) : Sum Nat (Option (List Nat × Nat) × Nat) :=
  if x.1 = [] ∨ ¬ (x.2 < n ∧ t x.2 = 34) then .inl x.2 else sbd (tk t n 35 (x.2 + 1)) fun p2 => sbd (num t n 0 9 p2) fun a => .inr (some (x.1, a.1), a.2)
def namR (t : Nat → Nat) (n p : Nat) : Sum Nat (Option (List Nat × Nat) × Nat) :=
  if sk t n p < n ∧ t (sk t n p) = 34 then namX t n (letR t n 8 [] (sk t n p + 1)) else .inr (none, sk t n p)
/-- a piece: nodes and way, length kind speed, hours, height and weight, name and area -/
abbrev PcR : Type := (Nat × Bool × Nat) × Tri × List Tri × (Nat × Nat) × Option (List Nat × Nat)
def pieceR (t : Nat → Nat) (n p : Nat) : Sum Nat ((Nat × PcR) × Nat) :=
  sbd (num t n 1 60 p) fun k => sbd (tk t n 61 k.2) fun p1 => sbd (nodesR t n p1) fun a => sbd (lksR t n a.2) fun b => sbd (hrsR t n 3 [] b.2) fun c => sbd (limR t n c.2) fun d => sbd (namR t n d.2) fun e => .inr ((k.1, a.1, b.1, c.1, d.1, e.1), e.2)
/-! turns as a list -/
def tnOk (fr ov tt : Nat → Int32) (L : List Tri) : Prop := ∀ i, i < L.length → fr i = nI (L.getD i z3).1 ∧ ov i = nI (L.getD i z3).2.1 ∧ tt i = nI (L.getD i z3).2.2 ∧ (L.getD i z3).1 < 41 ∧ (L.getD i z3).2.1 < 41 ∧ (L.getD i z3).2.2 < 41
theorem getD_in {α : Type} {L : List α} {d : α} {i : Nat} (h : i < L.length) : L.getD i d = L[i] := by
  simp [List.getD, h]
theorem mem_getD {α : Type} {L : List α} {x d : α} : x ∈ L ↔ ∃ i, i < L.length ∧ L.getD i d = x := by
  constructor
  · intro h
    obtain ⟨i, hi, he⟩ := List.getElem_of_mem h
    exact ⟨i, hi, by rw [getD_in hi]; exact he⟩
  · rintro ⟨i, hi, rfl⟩
    rw [getD_in hi]
    exact List.getElem_mem hi
theorem getD_app_l {α : Type} {L : List α} {x d : α} {i : Nat} (h : i < L.length) : (L ++ [x]).getD i d = L.getD i d := by
  simp [List.getD, List.getElem?_append_left h]
theorem getD_app_r {α : Type} {L : List α} {x d : α} : (L ++ [x]).getD L.length d = x := by
  simp [List.getD]
/-- one turn more: none where it is there; none where there is no room, and that is noted -/
def tnAdd (x : List Tri × Bool) (y : Tri) : List Tri × Bool := if y ∈ x.1 then x else if 20 ≤ x.1.length then (x.1, true) else (x.1 ++ [y], x.2)
theorem tnOk_add {fr ov tt : Nat → Int32} {L : List Tri} (h : tnOk fr ov tt L) {a b c : Nat} (ha : a < 41) (hb : b < 41) (hc : c < 41) : tnOk (upd fr L.length (nI a)) (upd ov L.length (nI b)) (upd tt L.length (nI c)) (L ++ [(a, b, c)]) := by
  intro i hi
  rw [List.length_append, List.length_singleton] at hi
  by_cases he : i = L.length
  · subst he
    rw [getD_app_r]
    simp [upd, ha, hb, hc]
  · have hl : i < L.length := by omega
    rw [getD_app_l hl]
    have := h i hl
    simpa [upd, he] using this
