/-! THE TEXT as numbers: t i is byte i (0 .. 255), n how many there are -/
def skp (t : Nat → Nat) (n : Nat) : Nat → Nat → Nat
  | 0, p => p
  | k + 1, p => if p < n ∧ t p = 32 then skp t n k (p + 1) else p
/-- behind blanks -/
def sk (t : Nat → Nat) (n p : Nat) : Nat := skp t n (n - p) p
theorem sk_go {t : Nat → Nat} {n p : Nat} (h : p < n) (h2 : t p = 32) : sk t n p = sk t n (p + 1) := by
  unfold sk
  rw [show n - p = (n - (p + 1)) + 1 by omega]
  show (if p < n ∧ t p = 32 then skp t n (n - (p + 1)) (p + 1) else p) = _
  rw [if_pos ⟨h, h2⟩]
theorem sk_stop {t : Nat → Nat} {n p : Nat} (h : ¬ (p < n ∧ t p = 32)) : sk t n p = p := by
  unfold sk
  cases hk : n - p with
  | zero => rfl
  | succ k =>
    show (if p < n ∧ t p = 32 then skp t n k (p + 1) else p) = p
    rw [if_neg h]
theorem skp_ge {t : Nat → Nat} {n : Nat} : ∀ (k p : Nat), p ≤ skp t n k p
  | 0, p => Nat.le_refl p
  | k + 1, p => by
    unfold skp
    split
    · exact Nat.le_trans (Nat.le_succ p) (skp_ge k (p + 1))
    · exact Nat.le_refl p
theorem sk_ge (t : Nat → Nat) (n p : Nat) : p ≤ sk t n p := skp_ge _ _
theorem skp_le {t : Nat → Nat} {n : Nat} : ∀ (k p : Nat), p ≤ n → skp t n k p ≤ n
  | 0, p, h => h
  | k + 1, p, h => by
    unfold skp
    split
    · next h1 => exact skp_le k (p + 1) h1.1
    · exact h
theorem sk_le {t : Nat → Nat} {n p : Nat} (h : p ≤ n) : sk t n p ≤ n := skp_le _ _ h
theorem skp_at {t : Nat → Nat} {n : Nat} : ∀ (k p : Nat), n - p ≤ k → ¬ (skp t n k p < n ∧ t (skp t n k p) = 32)
  | 0, p, h => by
    show ¬ (p < n ∧ t p = 32)
    omega
  | k + 1, p, h => by
    unfold skp
    split
    · exact skp_at k (p + 1) (by omega)
    · next h1 => exact h1
theorem sk_at (t : Nat → Nat) (n p : Nat) : ¬ (sk t n p < n ∧ t (sk t n p) = 32) := skp_at _ _ (Nat.le_refl _)
theorem sk_sk (t : Nat → Nat) (n p : Nat) : sk t n (sk t n p) = sk t n p := sk_stop (sk_at t n p)
/-- a digit stands here -/
def isD (t : Nat → Nat) (n p : Nat) : Bool := decide (p < n) && decide (48 ≤ t p) && decide (t p ≤ 57)
/-- up to so many digits more: value, how many, where -/
def dgs (t : Nat → Nat) (n : Nat) : Nat → Nat → Nat → Nat → Nat × Nat × Nat
  | 0, v, d, r => (v, d, r)
  | k + 1, v, d, r => if isD t n r = true ∧ (d = 0 ∨ v ≠ 0) then dgs t n k (10 * v + (t r - 48)) (d + 1) (r + 1) else (v, d, r)
/-- a number from lo to hi: where it is wrong, or its value and where it ends -/
def numX (t : Nat → Nat) (n lo hi : Nat) (x : Nat × Nat × Nat) : Sum Nat (Nat × Nat) :=
  if x.2.1 = 0 ∨ (x.2.1 = 4 ∧ isD t n x.2.2 = true) then .inl x.2.2 else if x.1 < lo ∨ hi < x.1 then .inl (x.2.2 - 1) else .inr (x.1, x.2.2)
def num (t : Nat → Nat) (n lo hi p : Nat) : Sum Nat (Nat × Nat) := numX t n lo hi (dgs t n 4 0 0 (sk t n p))
/-- a sign -/
def tk (t : Nat → Nat) (n c p : Nat) : Sum Nat Nat := if sk t n p < n ∧ t (sk t n p) = c then .inr (sk t n p + 1) else .inl (sk t n p)
/-- the number that a method answers, and where it leaves the position -/
def rN : Sum Nat (Nat × Nat) → Int32
  | .inl _ => -1
  | .inr x => nI x.1
def rP : Sum Nat (Nat × Nat) → Nat
  | .inl e => e
  | .inr x => x.2
def rQ : Sum Nat Nat → Nat
  | .inl e => e
  | .inr x => x
def rB {α : Type} : Sum Nat α → Int32
  | .inl _ => 0
  | .inr _ => 1
theorem dgs_r {t : Nat → Nat} {n : Nat} : ∀ (k v d r : Nat), r ≤ n → (dgs t n k v d r).2.2 ≤ n ∧ (dgs t n k v d r).2.2 + d = r + (dgs t n k v d r).2.1 ∧ d ≤ (dgs t n k v d r).2.1 ∧ (dgs t n k v d r).2.1 ≤ d + k
  | 0, v, d, r, h => ⟨h, rfl, Nat.le_refl _, Nat.le_refl _⟩
  | k + 1, v, d, r, h => by
    unfold dgs
    split
    · next h1 =>
      have hr : r < n := by
        have := h1.1
        simp [isD] at this
        omega
      obtain ⟨a, b, c, e⟩ := dgs_r k (10 * v + (t r - 48)) (d + 1) (r + 1) hr
      exact ⟨a, by omega, by omega, by omega⟩
    · exact ⟨h, rfl, Nat.le_refl _, Nat.le_add_right d (k + 1)⟩
theorem num_le {t : Nat → Nat} {n lo hi p : Nat} (h : p ≤ n) : rP (num t n lo hi p) ≤ n := by
  obtain ⟨a, -⟩ := dgs_r (t := t) 4 0 0 (sk t n p) (sk_le h)
  unfold num numX
  split
  · exact a
  · split
    · show _ - 1 ≤ n
      omega
    · exact a
theorem tk_le {t : Nat → Nat} {n c p : Nat} (h : p ≤ n) : rQ (tk t n c p) ≤ n := by
  unfold tk
  split
  · next h1 => exact h1.1
  · exact sk_le h
/-! bytes as the class holds them -/
def tpOk (f : Nat → Int32) (t : Nat → Nat) (n : Nat) : Prop := ∀ i, i < n → t i < 256 ∧ f i = sb_b (t i)
theorem sb_two : ∀ c, c < 256 → (c < 128 ∧ sb_b c = nI c) ∨ (128 ≤ c ∧ sb_b c < 0) := by decide +kernel
theorem sb_eqI {c k : Nat} (hc : c < 256) (hk : k < 128) : sb_b c = nI k ↔ c = k := by
  rcases sb_two c hc with ⟨h1, h2⟩ | ⟨h1, h2⟩
  · rw [h2, nI_eq (by omega) (by omega)]
  · constructor
    · intro h
      rw [h] at h2
      exact absurd h2 (nI_pos (by omega))
    · intro h
      omega
theorem sb_leI {c k : Nat} (hc : c < 256) (hk : k < 128) (hk0 : 0 < k) : nI k ≤ sb_b c ↔ (k ≤ c ∧ c < 128) := by
  rcases sb_two c hc with ⟨h1, h2⟩ | ⟨h1, h2⟩
  · rw [h2, nI_leI (by omega) (by omega)]
    omega
  · constructor
    · intro h
      have h3 : (nI k).toInt ≤ (sb_b c).toInt := Int32.le_iff_toInt_le.mp h
      have h4 : (sb_b c).toInt < 0 := by
        have := Int32.lt_iff_toInt_lt.mp h2
        rwa [Int32.toInt_zero] at this
      rw [nI_toInt (by omega)] at h3
      omega
    · intro h
      omega
theorem sb_leR {c k : Nat} (hc : c < 128) (hk : k < 128) : sb_b c ≤ nI k ↔ c ≤ k := by
  rcases sb_two c (by omega) with ⟨h1, h2⟩ | ⟨h1, h2⟩
  · rw [h2, nI_leI (by omega) (by omega)]
  · omega
theorem tpOk.eq {f : Nat → Int32} {t : Nat → Nat} {n : Nat} (h : tpOk f t n) {p k : Nat} (hp : p < n) (hk : k < 128) : f p = nI k ↔ t p = k := by
  rw [(h p hp).2]
  exact sb_eqI (h p hp).1 hk
theorem tpOk.ge {f : Nat → Int32} {t : Nat → Nat} {n : Nat} (h : tpOk f t n) {p k : Nat} (hp : p < n) (hk : k < 128) (hk0 : 0 < k) : nI k ≤ f p ↔ (k ≤ t p ∧ t p < 128) := by
  rw [(h p hp).2]
  exact sb_leI (h p hp).1 hk hk0
theorem tpOk.le {f : Nat → Int32} {t : Nat → Nat} {n : Nat} (h : tpOk f t n) {p k : Nat} (hp : p < n) (hc : t p < 128) (hk : k < 128) : f p ≤ nI k ↔ t p ≤ k := by
  rw [(h p hp).2]
  exact sb_leR hc hk
theorem tpOk.val {f : Nat → Int32} {t : Nat → Nat} {n : Nat} (h : tpOk f t n) {p : Nat} (hp : p < n) (hc : t p < 128) : f p = nI (t p) := by
  rw [(h p hp).2]
  rcases sb_two (t p) (h p hp).1 with ⟨-, h2⟩ | ⟨h1, -⟩
  · exact h2
  · omega
theorem tpOk.and {f : Nat → Int32} {t : Nat → Nat} {n : Nat} (h : tpOk f t n) {p : Nat} (hp : p < n) : f p &&& 255 = nI (t p) := by
  rw [(h p hp).2]
  exact (sb_byte (t p) (h p hp).1).1
/-- what peek answers, standing at q -/
def rK (t : Nat → Nat) (n q : Nat) : Int32 := if q < n then nI (t q) else -1
theorem rK_in {t : Nat → Nat} {n q : Nat} (h : q < n) : rK t n q = nI (t q) := if_pos h
theorem rK_out {t : Nat → Nat} {n q : Nat} (h : ¬ q < n) : rK t n q = -1 := if_neg h
def isL (t : Nat → Nat) (n p : Nat) : Bool := decide (p < n) && decide (97 ≤ t p) && decide (t p ≤ 122)
theorem isD_yes {t : Nat → Nat} {n p : Nat} (h : p < n) (h1 : 48 ≤ t p) (h2 : t p ≤ 57) : isD t n p = true := by simp [isD, h, h1, h2]
theorem isD_no {t : Nat → Nat} {n p : Nat} (h : ¬ (p < n ∧ 48 ≤ t p ∧ t p ≤ 57)) : isD t n p = false := by
  cases hq : isD t n p with
  | false => rfl
  | true => simp [isD] at hq; exact absurd ⟨hq.1.1, hq.1.2, hq.2⟩ h
theorem isD_spec {t : Nat → Nat} {n p : Nat} (h : isD t n p = true) : p < n ∧ 48 ≤ t p ∧ t p ≤ 57 := by
  simp [isD] at h
  exact ⟨h.1.1, h.1.2, h.2⟩
theorem isL_yes {t : Nat → Nat} {n p : Nat} (h : p < n) (h1 : 97 ≤ t p) (h2 : t p ≤ 122) : isL t n p = true := by simp [isL, h, h1, h2]
theorem isL_no {t : Nat → Nat} {n p : Nat} (h : ¬ (p < n ∧ 97 ≤ t p ∧ t p ≤ 122)) : isL t n p = false := by
  cases hq : isL t n p with
  | false => rfl
  | true => simp [isL] at hq; exact absurd ⟨hq.1.1, hq.1.2, hq.2⟩ h
theorem isL_spec {t : Nat → Nat} {n p : Nat} (h : isL t n p = true) : p < n ∧ 97 ≤ t p ∧ t p ≤ 122 := by
  simp [isL] at h
  exact ⟨h.1.1, h.1.2, h.2⟩
theorem nI_nem {v : Nat} (h : v < 2 ^ 31) : ¬ nI v = -1 := by
  intro q
  have a := nI_toInt h
  rw [q] at a
  have b : (-1 : Int32).toInt = -1 := by decide
  omega
theorem nd_sub {L L' : List Nat} (h : L.Nodup) (is : List Nat) (hd : is.Nodup) (hs : is.map (fun i => L[i]?) = L'.map some) : L'.Nodup := by
  induction is generalizing L' with
  | nil =>
    cases L' with
    | nil => exact List.nodup_nil
    | cons x xs => simp at hs
  | cons i is ih =>
    cases L' with
    | nil => simp at hs
    | cons x xs =>
      simp only [List.map_cons, List.cons.injEq] at hs
      obtain ⟨hi, hd'⟩ := List.nodup_cons.mp hd
      refine List.nodup_cons.mpr ⟨fun hx => ?_, ih hd' hs.2⟩
      have : some x ∈ is.map (fun i => L[i]?) := by rw [hs.2]; exact List.mem_map.mpr ⟨x, hx, rfl⟩
      obtain ⟨j, hj, hjx⟩ := List.mem_map.mp this
      have e1 := (List.getElem?_eq_some_iff.mp hs.1).1
      have : i = j := (List.getElem?_inj e1 h).mp (hs.1.trans hjx.symm)
      exact hi (this ▸ hj)
theorem num_ok {t : Nat → Nat} {n lo hi p v q : Nat} (h : num t n lo hi p = .inr (v, q)) (hp : p ≤ n) : lo ≤ v ∧ v ≤ hi ∧ p < q ∧ q ≤ n := by
  obtain ⟨a, b, c, e⟩ := dgs_r (t := t) 4 0 0 (sk t n p) (sk_le hp)
  have hs := sk_ge t n p
  unfold num numX at h
  split at h
  · cases h
  · next h1 =>
    split at h
    · cases h
    · next h2 =>
      simp only [Sum.inr.injEq, Prod.mk.injEq] at h
      obtain ⟨rfl, rfl⟩ := h
      omega
theorem num_er {t : Nat → Nat} {n lo hi p e : Nat} (h : num t n lo hi p = .inl e) (hp : p ≤ n) : e ≤ n := by
  have := num_le (t := t) (lo := lo) (hi := hi) hp
  rw [h] at this
  exact this
theorem tk_ok {t : Nat → Nat} {n c p q : Nat} (h : tk t n c p = .inr q) : p < q ∧ q ≤ n := by
  have hs := sk_ge t n p
  unfold tk at h
  split at h
  · next h1 =>
    simp only [Sum.inr.injEq] at h
    omega
  · cases h
theorem tk_er {t : Nat → Nat} {n c p e : Nat} (h : tk t n c p = .inl e) (hp : p ≤ n) : e ≤ n := by
  have := tk_le (t := t) (c := c) hp
  rw [h] at this
  exact this
theorem dgs_go {t : Nat → Nat} {n v d r : Nat} (h : isD t n r = true) (h2 : d = 0 ∨ v ≠ 0) (hd : d < 4) : dgs t n (4 - d) v d r = dgs t n (4 - (d + 1)) (10 * v + (t r - 48)) (d + 1) (r + 1) := by
  rw [show 4 - d = (4 - (d + 1)) + 1 by omega]
  show (if isD t n r = true ∧ (d = 0 ∨ v ≠ 0) then dgs t n (4 - (d + 1)) (10 * v + (t r - 48)) (d + 1) (r + 1) else (v, d, r)) = _
  rw [if_pos ⟨h, h2⟩]
theorem dgs_stop {t : Nat → Nat} {n v d r : Nat} (h : ¬ (isD t n r = true ∧ (d = 0 ∨ v ≠ 0)) ∨ 4 ≤ d) : dgs t n (4 - d) v d r = (v, d, r) := by
  cases hk : 4 - d with
  | zero => rfl
  | succ k =>
    show (if isD t n r = true ∧ (d = 0 ∨ v ≠ 0) then dgs t n k (10 * v + (t r - 48)) (d + 1) (r + 1) else (v, d, r)) = _
    rw [if_neg]
    rcases h with h | h
    · exact h
    · omega
theorem num_bad {t : Nat → Nat} {n x y p v d r : Nat} (hX : dgs t n 4 0 0 (sk t n p) = (v, d, r)) (h : d = 0 ∨ (d = 4 ∧ isD t n r = true)) : num t n x y p = .inl r := by
  unfold num numX
  rw [hX]
  exact if_pos h
theorem num_out {t : Nat → Nat} {n x y p v d r : Nat} (hX : dgs t n 4 0 0 (sk t n p) = (v, d, r)) (h : ¬ (d = 0 ∨ (d = 4 ∧ isD t n r = true))) (h2 : v < x ∨ y < v) : num t n x y p = .inl (r - 1) := by
  unfold num numX
  rw [hX]
  show (if _ then _ else _) = _
  rw [if_neg h, if_pos h2]
theorem num_in {t : Nat → Nat} {n x y p v d r : Nat} (hX : dgs t n 4 0 0 (sk t n p) = (v, d, r)) (h : ¬ (d = 0 ∨ (d = 4 ∧ isD t n r = true))) (h2 : ¬ (v < x ∨ y < v)) : num t n x y p = .inr (v, r) := by
  unfold num numX
  rw [hX]
  show (if _ then _ else _) = _
  rw [if_neg h, if_neg h2]
theorem tf (b : Bool) : b = true ∨ b = false := by cases b <;> simp
