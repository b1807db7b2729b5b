/-! CONTRACTS OVER THE CLASS'S STATE -/
theorem vMono {l : Launch} {y : MethodName} {ws : List Cond} {rm : Room} {Pc : Array Value → State → Prop} {G : Gx} {lo mc ms : Nat} {post post2 : Option Value → Vw → Nat → Prop} (h : Met l y ws rm Pc (vPost G lo post) mc ms (vL lo)) (hq : ∀ r V' k, post r V' k → post2 r V' k) : Met l y ws rm Pc (vPost G lo post2) mc ms (vL lo) := by
  intro p e ha hc hk s m args below hf happ hP hK
  obtain ⟨n, o, h1, h2, h3, ⟨⟨r, V', g1, g2, g3⟩, g4⟩, g5⟩ := h p e ha hc hk s m args below hf happ hP hK
  exact ⟨n, o, h1, h2, h3, ⟨⟨r, V', g1, hq _ _ _ g2, g3⟩, g4⟩, g5⟩
theorem xMono {l : Launch} {y : MethodName} {ws : List Cond} {rm : Room} {Pc : Array Value → State → Prop} {G : Gx} {lo mc ms : Nat} {post post2 : Option Value → Vw → Nat → Prop} {px px2 : String → Vw → Nat → Prop} (h : xMet l y ws rm Pc (xEnd G lo post px mc ms)) (hq : ∀ r V' k, post r V' k → post2 r V' k) (hx : ∀ E V' k, px E V' k → px2 E V' k) : xMet l y ws rm Pc (xEnd G lo post2 px2 mc ms) := by
  intro p e ha hc hk s m args below hf happ hP hK
  obtain ⟨n, o, h1, h2, h3, g, g5⟩ := h p e ha hc hk s m args below hf happ hP hK
  refine ⟨n, o, h1, h2, h3, ?_, g5⟩
  rcases g with ⟨r, V', a1, a2, a3⟩ | ⟨q, E, ce, V', a1, a2, a3⟩
  · exact Or.inl ⟨r, V', a1, hq _ _ _ a2, a3⟩
  · exact Or.inr ⟨q, E, ce, V', a1, hx _ _ _ a2, a3⟩
theorem pm_sub {P : Nat → Prop} {cs ds : List Nat} (h : ∀ a ∈ cs, P a) (is : List Nat) (hs : is.map (fun i => cs[i]?) = ds.map some) : ∀ a ∈ ds, P a := by
  intro a ha
  have h1 : some a ∈ ds.map some := List.mem_map_of_mem ha
  rw [← hs] at h1
  obtain ⟨i, -, hi⟩ := List.mem_map.mp h1
  exact h a (List.mem_of_getElem? hi)
/-- the class's state behind a call, and that nothing else changed -/
def cF (G : Gx) (V : Vw) (x dy sz : Nat) (Q : Nat → Option PcR) (B S : Nat → Option (Nat × Nat)) (L : List Tri) (t : Nat → Nat) (n : Nat) (wr : Int32) (F : List Two) (PB : List Nat) : Vw → Nat → Prop := fun V' k => cS G V' x dy k Q B S L t n wr F PB ∧ (∀ a, a < sz → ¬ (x ≤ a ∧ a < x + 32) → V' a = V a) ∧ sz ≤ k
def xP (va th : Int32) (C : Vw → Nat → Prop) : Option Value → Vw → Nat → Prop := fun r V' k => r = some (.int va) ∧ th = 0 ∧ C V' k
def xT (e1 e2 : String) (th : Int32) (C : Vw → Nat → Prop) : String → Vw → Nat → Prop := fun E V' k => ((E = e1 ∧ th = 1) ∨ (E = e2 ∧ th = 2)) ∧ C V' k
def xT1 (e1 : String) (th : Int32) (C : Vw → Nat → Prop) : String → Vw → Nat → Prop := fun E V' k => (E = e1 ∧ th = 1) ∧ C V' k
theorem thI_1 {α : Type} {X : Sum Nat α} (h : X = .inl 1) : thI X = 1 := by rw [h]; rfl
theorem thI_2 {α : Type} {X : Sum Nat α} (h : X = .inl 2) : thI X = 2 := by rw [h]; rfl
theorem thI_0 {α : Type} {X : Sum Nat α} {v : α} (h : X = .inr v) : thI X = 0 := by rw [h]; rfl
theorem xK_T {α : Type} {X : Sum Nat α} {E e1 e2 : String} (h : xK E e1 e2 X) : (E = e1 ∧ thI X = 1) ∨ (E = e2 ∧ thI X = 2) := h.elim (fun h => Or.inl ⟨h.1, thI_1 h.2⟩) (fun h => Or.inr ⟨h.1, thI_2 h.2⟩)
theorem txI_wI (X : Sum Nat TnA) : txI X = wI X := by cases X <;> rfl
theorem rdR_inr {t : Nat → Nat} {n : Nat} {A A2 : TnA} (h : rdR t n A = .inr A2) : txtR t n A = .inr A2 ∧ A2.2.2.2.length ≤ 20 := by
  unfold rdR at h
  rcases h1 : txtR t n A with e | A3
  · rw [h1] at h; cases h
  · rw [h1] at h
    simp only [] at h
    by_cases h2 : 20 < A3.2.2.2.length
    · rw [if_pos h2] at h; cases h
    · rw [if_neg h2] at h
      cases h
      exact ⟨rfl, by omega⟩
theorem sgnR_inr {n z : Nat} {k : Int32} (h4 : n ≤ 400) (h : sgnR n k = .inr z) : n ≤ z ∧ z ≤ 400 ∧ z ≤ n + 8 := by
  unfold sgnR at h
  by_cases c1 : k < 1 ∨ 8 < k
  · rw [if_pos c1] at h; cases h
  · rw [if_neg c1] at h
    by_cases c2 : 400 < n + k.toNatClampNeg
    · rw [if_pos c2] at h; cases h
    · rw [if_neg c2] at h
      cases h
      obtain ⟨j, hj1, hj2, e9⟩ := nI_bd (x := k) (a := 1) (b := 8) (by decide) (fun z => c1 (Or.inl z)) (fun z => c1 (Or.inr z)) (by decide)
      subst e9
      rw [nI_clamp (by omega)] at c2 ⊢
      omega
theorem prA_le {G : Gx} {V : Vw} {dy sz : Nat} {pf : Nat → Option Nat} {Q : Nat → Option PcR} {B S : Nat → Option (Nat × Nat)} {L : List Tri} {fb fc fs fd fr ov tt : Nat → Int32} (hB : twB G V dy sz pf Q) (hSb : spOk fb fc B) (hSs : spOk fs fd S) (hO : tnOk fr ov tt L) (hL : L.length ≤ 20) : (prA (Q, B, S, L)).length ≤ 4880 := by
  have h1 := prPs_le hB 60 (Nat.le_refl _)
  have h2 := prSp_le9 (c := 104) hSb 30 (Nat.le_refl _)
  have h3 := prSp_le9 (c := 115) hSs 30 (Nat.le_refl _)
  have h4 := prTn_le (L := L) (fun i hi => ⟨(hO i hi).2.2.2.1, (hO i hi).2.2.2.2.1, (hO i hi).2.2.2.2.2⟩) L.length (Nat.le_refl _)
  unfold prA
  simp only [List.length_append]
  omega
