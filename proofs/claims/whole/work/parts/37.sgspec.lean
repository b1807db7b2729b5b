/-! WHAT THE CLASS'S CALLS ANSWER: .inl 1, .inl 2 the first, the second exception; .inr the answer -/
abbrev eIO : String := "java/lang/IndexOutOfBoundsException"
abbrev eUO : String := "java/lang/UnsupportedOperationException"
abbrev eIS : String := "java/lang/IllegalStateException"
abbrev eIA : String := "java/lang/IllegalArgumentException"
def xK {α : Type} (E e1 e2 : String) (r : Sum Nat α) : Prop := (E = e1 ∧ r = .inl 1) ∨ (E = e2 ∧ r = .inl 2)
def sgB (b : Int64) (q : Nat) : Int32 := (b >>> ((nI (8 * q)).toInt64 &&& 63)).toInt32.toInt8.toInt32
/-- a tape behind which c of the j bytes of b are laid -/
def apG (b : Int64) (f : Nat → Int32) (n j c : Nat) : Nat → Int32 := fun p => if n ≤ p ∧ p < n + c then vp_nar .byte (sgB b (j - 1 - (p - n))) else f p
theorem apG_0 (b : Int64) (f : Nat → Int32) (n j : Nat) : apG b f n j 0 = f := by
  funext p
  unfold apG
  rw [if_neg (by omega)]
theorem apG_step (b : Int64) (f : Nat → Int32) {n j c q : Nat} (h : c + q + 1 = j) : upd (apG b f n j c) (n + c) (vp_nar .byte (sgB b q)) = apG b f n j (c + 1) := by
  funext p
  by_cases hp : p = n + c
  · subst hp
    simp only [upd, if_true, apG]
    rw [if_pos (by omega), show j - 1 - (n + c - n) = q by omega]
  · simp only [upd, if_neg hp, apG]
    by_cases h2 : n ≤ p ∧ p < n + c
    · rw [if_pos h2, if_pos (by omega)]
    · rw [if_neg h2, if_neg (by omega)]
def sgnR (n : Nat) (k : Int32) : Sum Nat Nat := if k < 1 ∨ 8 < k then .inl 1 else if 400 < n + k.toNatClampNeg then .inl 2 else .inr (n + k.toNatClampNeg)
theorem sgnR_1 {n : Nat} {k : Int32} (h : k < 1 ∨ 8 < k) : sgnR n k = .inl 1 := if_pos h
theorem i_mid {j a b : Nat} (ha : a ≤ j) (hb : j ≤ b) (h2 : b < 2 ^ 31) : ¬ (nI j < nI a ∨ nI b < nI j) := by
  intro h
  rcases h with h | h
  · have := (nI_ltI (a := j) (b := a) (by omega) (by omega)).mp h; omega
  · have := (nI_ltI (a := b) (b := j) (by omega) (by omega)).mp h; omega
theorem sgnR_2 {n j : Nat} (h1 : 1 ≤ j) (h2 : j ≤ 8) (h : 400 < n + j) : sgnR n (nI j) = .inl 2 := by
  unfold sgnR
  rw [if_neg (show ¬ (nI j < 1 ∨ 8 < nI j) from i_mid h1 h2 (by decide)), nI_clamp (by omega), if_pos h]
theorem sgnR_3 {n j : Nat} (h1 : 1 ≤ j) (h2 : j ≤ 8) (h : ¬ 400 < n + j) : sgnR n (nI j) = .inr (n + j) := by
  unfold sgnR
  rw [if_neg (show ¬ (nI j < 1 ∨ 8 < nI j) from i_mid h1 h2 (by decide)), nI_clamp (by omega), if_neg h]
def rdR (t : Nat → Nat) (n : Nat) (A : TnA) : Sum Nat TnA := match txtR t n A with
  | .inl _ => .inl 1
  | .inr A2 => if 20 < A2.2.2.2.length then .inl 2 else .inr A2
def qF (Q : Nat → Option PcR) (x : Int32) : Option PcR := if nI 1 ≤ x ∧ x ≤ nI 60 then Q x.toNatClampNeg else none
theorem qF_no {G : Gx} {V : Vw} {dy sz : Nat} {pf : Nat → Option Nat} {Q : Nat → Option PcR} {x : Int32} (hB : twB G V dy sz pf Q) (h : twFind pf x = none) : qF Q x = none := by
  unfold twFind at h
  unfold qF
  by_cases hx : nI 1 ≤ x ∧ x ≤ nI 60
  · rw [if_pos hx] at h ⊢
    obtain ⟨j, h1, h2, rfl⟩ := nI_bd (a := 1) (b := 60) (by decide) (Int32.not_lt.mpr hx.1) (Int32.not_lt.mpr hx.2) (by decide)
    rw [nI_clamp (by omega)] at h ⊢
    exact hB.no h1 h2 h
  · rw [if_neg hx]
theorem qF_yes {G : Gx} {V : Vw} {dy sz a : Nat} {pf : Nat → Option Nat} {Q : Nat → Option PcR} {x : Int32} (hB : twB G V dy sz pf Q) (h : twFind pf x = some a) : ∃ R, qF Q x = some R ∧ pcAt G V a R ∧ dy ≤ a := by
  unfold twFind at h
  unfold qF
  by_cases hx : nI 1 ≤ x ∧ x ≤ nI 60
  · rw [if_pos hx] at h ⊢
    obtain ⟨j, h1, h2, rfl⟩ := nI_bd (a := 1) (b := 60) (by decide) (Int32.not_lt.mpr hx.1) (Int32.not_lt.mpr hx.2) (by decide)
    rw [nI_clamp (by omega)] at h ⊢
    exact hB.yes h1 h2 h
  · rw [if_neg hx] at h
    cases h
def pcW (R : PcR) (w : Nat) : Int32 := match w with
  | 0 => nI R.1.1
  | 1 => nI R.1.2.2
  | 2 => nI R.2.1.1
  | 3 => nI R.2.1.2.1
  | 4 => b2i R.1.2.1
  | 5 => nI R.2.2.2.1.1
  | 6 => nI R.2.2.2.1.2
  | _ => nmA R.2.2.2.2
def pieR (Q : Nat → Option PcR) (x w : Int32) : Sum Nat Int32 := match qF Q x with
  | none => .inl 1
  | some R => if w < 0 ∨ 7 < w then .inl 2 else .inr (pcW R w.toNatClampNeg)
theorem pieR_1 {Q : Nat → Option PcR} {x w : Int32} (h : qF Q x = none) : pieR Q x w = .inl 1 := by simp only [pieR, h]
theorem pieR_2 {Q : Nat → Option PcR} {x w : Int32} {R : PcR} (h : qF Q x = some R) (hw : w < 0 ∨ 7 < w) : pieR Q x w = .inl 2 := by simp only [pieR, h, if_pos hw]
theorem pieR_3 {Q : Nat → Option PcR} {x : Int32} {R : PcR} {j : Nat} (h : qF Q x = some R) (hj : j ≤ 7) : pieR Q x (nI j) = .inr (pcW R j) := by
  simp only [pieR, h]
  rw [if_neg (show ¬ (nI j < 0 ∨ 7 < nI j) from i_mid (a := 0) (b := 7) (Nat.zero_le _) hj (by decide)), nI_clamp (by omega)]
def speR (Q : Nat → Option PcR) (x h : Int32) : Sum Nat Int32 := match qF Q x with
  | none => .inl 1
  | some R => if h < 0 ∨ 23 < h then .inl 2 else .inr (nI (spd R.2.1.2.2 R.2.2.1 h.toNatClampNeg))
theorem speR_1 {Q : Nat → Option PcR} {x w : Int32} (h : qF Q x = none) : speR Q x w = .inl 1 := by simp only [speR, h]
theorem speR_2 {Q : Nat → Option PcR} {x w : Int32} {R : PcR} (h : qF Q x = some R) (hw : w < 0 ∨ 23 < w) : speR Q x w = .inl 2 := by simp only [speR, h, if_pos hw]
theorem speR_3 {Q : Nat → Option PcR} {x : Int32} {R : PcR} {j : Nat} (h : qF Q x = some R) (hj : j ≤ 23) : speR Q x (nI j) = .inr (nI (spd R.2.1.2.2 R.2.2.1 j)) := by
  simp only [speR, h]
  rw [if_neg (show ¬ (nI j < 0 ∨ 23 < nI j) from i_mid (a := 0) (b := 23) (Nat.zero_le _) hj (by decide)), nI_clamp (by omega)]
theorem i_23 {h : Int32} (h2 : ¬ h < 24) : 23 < h := by
  rw [Int32.lt_iff_toInt_lt] at h2 ⊢
  have e1 : (24 : Int32).toInt = 24 := by decide
  have e2 : (23 : Int32).toInt = 23 := by decide
  omega
theorem i_24 {h : Int32} (h2 : h < 24) : ¬ nI 23 < h := by
  rw [Int32.lt_iff_toInt_lt] at h2 ⊢
  have e1 : (24 : Int32).toInt = 24 := by decide
  have e2 : (nI 23).toInt = 23 := by decide
  omega
def nmeR (Q : Nat → Option PcR) (x i : Int32) : Sum Nat Int32 := match qF Q x with
  | none => .inl 1
  | some R => if i < 0 then .inl 2 else .inr (letC (nmL R.2.2.2.2) i)
theorem nmeR_1 {Q : Nat → Option PcR} {x w : Int32} (h : qF Q x = none) : nmeR Q x w = .inl 1 := by simp only [nmeR, h]
theorem nmeR_2 {Q : Nat → Option PcR} {x w : Int32} {R : PcR} (h : qF Q x = some R) (hw : w < 0) : nmeR Q x w = .inl 2 := by simp only [nmeR, h, if_pos hw]
theorem nmeR_3 {Q : Nat → Option PcR} {x w : Int32} {R : PcR} (h : qF Q x = some R) (hw : ¬ w < 0) : nmeR Q x w = .inr (letC (nmL R.2.2.2.2) w) := by simp only [nmeR, h, if_neg hw]
def isN (x : Int32) : Bool := !(decide (x < nI 1)) && !(decide (nI 40 < x))
theorem isN_nat {x : Int32} (h : isN x = true) : ∃ j, 1 ≤ j ∧ j ≤ 40 ∧ x = nI j := by
  simp only [isN, Bool.and_eq_true, Bool.not_eq_true', decide_eq_false_iff_not] at h
  exact nI_bd (by decide) h.1 h.2 (by decide)
def barR (L : List Tri) (a b c : Int32) : Sum Nat Bool := if isN a && isN b && isN c then .inr (decide ((a.toNatClampNeg, b.toNatClampNeg, c.toNatClampNeg) ∈ L)) else .inl 1
theorem barR_1 {L : List Tri} {a b c : Int32} (h : isN a = false ∨ isN b = false ∨ isN c = false) : barR L a b c = .inl 1 := by
  unfold barR
  rcases h with h | h | h <;> simp [h]
theorem barR_2 {L : List Tri} {a b c : Nat} (ha : isN (nI a) = true) (hb : isN (nI b) = true) (hc : isN (nI c) = true) (h1 : a ≤ 40) (h2 : b ≤ 40) (h3 : c ≤ 40) : barR L (nI a) (nI b) (nI c) = .inr (decide ((a, b, c) ∈ L)) := by
  unfold barR
  rw [ha, hb, hc, nI_clamp (by omega), nI_clamp (by omega), nI_clamp (by omega)]
  rfl
def spF (B : Nat → Option (Nat × Nat)) (x : Int32) : Option (Nat × Nat) := if nI 1 ≤ x ∧ x ≤ nI 30 then B x.toNatClampNeg else none
theorem spF_no {fp fm : Nat → Int32} {B : Nat → Option (Nat × Nat)} {x : Int32} (hS : spOk fp fm B) (h : spHas fp x = false) : spF B x = none := by
  unfold spF
  by_cases hx : nI 1 ≤ x ∧ x ≤ nI 30
  · rw [if_pos hx]
    obtain ⟨j, h1, h2, rfl⟩ := nI_bd (a := 1) (b := 30) (by decide) (Int32.not_lt.mpr hx.1) (Int32.not_lt.mpr hx.2) (by decide)
    rw [spHas_in h1 h2] at h
    rw [nI_clamp (by omega)]
    rcases hS j h1 h2 with q | ⟨y, z, e1, -, -, g1, g2, -⟩
    · exact q.2
    · rw [e1] at h
      simp at h
      exact absurd ((nI_eq (a := y) (b := 0) (by omega) (by decide)).mp h) (by omega)
  · rw [if_neg hx]
theorem spF_yes {fp fm : Nat → Int32} {B : Nat → Option (Nat × Nat)} {x : Int32} (hS : spOk fp fm B) (h : spHas fp x = true) : ∃ j y z : Nat, 1 ≤ j ∧ j ≤ 30 ∧ x = nI j ∧ fp j = nI y ∧ fm j = nI z ∧ spF B x = some (y, z) := by
  have hx : nI 1 ≤ x ∧ x ≤ nI 30 := by
    unfold spHas at h
    simp only [Bool.and_eq_true, decide_eq_true_eq] at h
    exact h.1
  obtain ⟨j, h1, h2, rfl⟩ := nI_bd (a := 1) (b := 30) (by decide) (Int32.not_lt.mpr hx.1) (Int32.not_lt.mpr hx.2) (by decide)
  rw [spHas_in h1 h2] at h
  rcases hS j h1 h2 with q | ⟨y, z, e1, e2, e3, -⟩
  · rw [q.1] at h; simp at h
  · refine ⟨j, y, z, h1, h2, rfl, e1, e2, ?_⟩
    unfold spF
    rw [if_pos hx, nI_clamp (by omega)]
    exact e3
def spoR (B : Nat → Option (Nat × Nat)) (x : Int32) : Sum Nat Int32 := match spF B x with
  | none => .inl 1
  | some z => .inr (nI z.1)
def aloR (B : Nat → Option (Nat × Nat)) (x : Int32) : Sum Nat Int32 := match spF B x with
  | none => .inl 1
  | some z => .inr (nI z.2)
def fauR (F : List Two) (i w : Int32) : Sum Nat Int32 := if i < 0 ∨ nI F.length ≤ i then .inl 1 else if w ≠ 0 ∧ w ≠ 1 then .inl 2 else .inr (if w = 0 then nI (F.getD i.toNatClampNeg z2).1 else nI (F.getD i.toNatClampNeg z2).2)
def atR (P : List Nat) (i : Int32) : Sum Nat Int32 := if i < 0 then .inl 1 else .inr (if i < nI P.length then nI (P.getD i.toNatClampNeg 0) else -1)
def cntA (A : TnA) (w : Nat) : Nat := match w with
  | 0 => cnt (fun j => (A.1 j).isSome) 60
  | 1 => cnt (fun j => (A.2.1 j).isSome) 30
  | 2 => cnt (fun j => (A.2.2.1 j).isSome) 30
  | 3 => A.2.2.2.length
  | _ => cnt (fun j => (nodesQ A.1 60).testBit j) 40
def couR (A : TnA) (w : Int32) : Sum Nat Int32 := if w < 0 ∨ 4 < w then .inl 1 else .inr (nI (cntA A w.toNatClampNeg))
theorem couR_2 {A : TnA} {j : Nat} (hj : j ≤ 4) : couR A (nI j) = .inr (nI (cntA A j)) := by
  unfold couR
  rw [if_neg (show ¬ (nI j < 0 ∨ 4 < nI j) from i_mid (a := 0) (b := 4) (Nat.zero_le _) hj (by decide)), nI_clamp (by omega)]
theorem cnt_ext {f g : Nat → Bool} : ∀ k, (∀ j, 1 ≤ j → j ≤ k → f j = g j) → cnt f k = cnt g k
  | 0, _ => rfl
  | k + 1, h => by
    simp only [cnt]
    rw [cnt_ext k (fun j h1 h2 => h j h1 (by omega)), h (k + 1) (by omega) (Nat.le_refl _)]
theorem cnt_tw {G : Gx} {V : Vw} {dy sz : Nat} {pf : Nat → Option Nat} {Q : Nat → Option PcR} (hB : twB G V dy sz pf Q) : cnt (fun j => (pf j).isSome) 60 = cnt (fun j => (Q j).isSome) 60 := by
  refine cnt_ext 60 (fun j h1 h2 => ?_)
  rcases hB j h1 h2 with ⟨e1, e2⟩ | ⟨a, R, e1, e2, -⟩ <;> simp only [e1, e2, Option.isSome_none, Option.isSome_some]
theorem cnt_sp {fp fm : Nat → Int32} {B : Nat → Option (Nat × Nat)} (hS : spOk fp fm B) : cnt (fun j => spHas fp (nI j)) 30 = cnt (fun j => (B j).isSome) 30 := by
  refine cnt_ext 30 (fun j h1 h2 => ?_)
  rw [spHas_in h1 h2]
  rcases hS j h1 h2 with ⟨e1, e2⟩ | ⟨y, z, e1, -, e2, g1, g2, -⟩
  · simp [e1, e2]
  · rw [e1, e2]
    have : ¬ nI y = 0 := fun h => absurd ((nI_eq (a := y) (b := 0) (by omega) (by decide)).mp h) (by omega)
    simp [this]
theorem b2i_1n {b : Bool} (h : ¬ b2i b = 0) : b2i b = 1 := by cases b <;> simp_all [b2i]
theorem sw_out {x : Int32} {b : Nat} (hb : b < 2 ^ 31) (h : x < 0 ∨ nI b < x) : x.toInt < 0 ∨ (b : Int) < x.toInt := by
  rcases h with h | h
  · left
    rw [Int32.lt_iff_toInt_lt, Int32.toInt_zero] at h
    exact h
  · right
    rw [Int32.lt_iff_toInt_lt, nI_toInt hb] at h
    exact h
theorem i_neg {i : Int32} (h : ¬ i < 0) : ∃ j : Nat, j < 2 ^ 31 ∧ i = nI j := by
  obtain ⟨j, hj, e⟩ := nI_of h
  exact ⟨j, hj, e⟩
theorem i_pred {r : Nat} (h : r ≤ 400) : (nI r - 1 < 0) ↔ r = 0 := by
  constructor
  · intro h2
    by_cases h0 : r = 0
    · exact h0
    · rw [show nI r - 1 = nI (r - 1) from nI_sub (a := r) (b := 1) (by omega)] at h2
      exact absurd ((nI_ltI (a := r - 1) (b := 0) (by omega) (by decide)).mp h2) (by omega)
  · rintro rfl
    decide
theorem i_dec (q : Nat) : nI q + (-1) = nI q - 1 := (Int32.sub_eq_add_neg _ _).symm
theorem twA_cp {G : Gx} {V : Vw} {dy sz : Nat} {pf gp : Nat → Option Nat} {fb fc fs fd gb gc gs gd : Nat → Int32} {L : List Tri} {A : TnA} (hB : twB G V dy sz pf A.1) (h1 : spOk fb fc A.2.1) (h2 : spOk fs fd A.2.2.1) (hL : L = A.2.2.2) (hl : L.length ≤ 20) : twA G V dy sz (cp1 pf gp 60) (cp1 fb gb 30) (cp1 fc gc 30) (cp1 fs gs 30) (cp1 fd gd 30) L false A := by
  refine ⟨fun j g1 g2 => ?_, fun j g1 g2 => ?_, fun j g1 g2 => ?_, ?_, ?_⟩
  · have := hB j g1 g2
    simpa [cp1, g1, g2] using this
  · have := h1 j g1 g2
    simpa [cp1, g1, g2] using this
  · have := h2 j g1 g2
    simpa [cp1, g1, g2] using this
  · rw [← hL, List.take_of_length_le hl]
  · rw [← hL]
    exact (decide_eq_false (by omega)).symm
