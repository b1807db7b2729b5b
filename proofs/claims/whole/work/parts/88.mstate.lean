/-! THE REFERENCE'S STATE as one predicate over the view -/
def triOk (L : List Tri) : Prop := ∀ x ∈ L, 1 ≤ x.1 ∧ 1 ≤ x.2.2
theorem triOk.at {L : List Tri} (h : triOk L) : ∀ i, i < L.length → 1 ≤ (L.getD i z3).1 ∧ 1 ≤ (L.getD i z3).2.2 := fun i hi => by
  have e : L.getD i z3 = L[i] := by rw [List.getD_eq_getElem?_getD, List.getElem?_eq_getElem hi]; rfl
  rw [e]
  exact h _ (List.getElem_mem hi)
theorem turnR_lo {t : Nat → Nat} {n p : Nat} {z : Tri × Nat} (h : turnR t n p = .inr z) : 1 ≤ z.1.1 ∧ 1 ≤ z.1.2.2 := by
  unfold turnR at h
  rcases h1 : num t n 1 40 p with e | ⟨v1, p1⟩
  · simp only [h1, sbd_l, sbd_r] at h; cases h
  rcases h2 : tk t n 45 p1 with e | p2
  · simp only [h1, h2, sbd_l, sbd_r] at h; cases h
  rcases h3 : num t n 1 40 p2 with e | ⟨v3, p3⟩
  · simp only [h1, h2, h3, sbd_l, sbd_r] at h; cases h
  rcases h4 : tk t n 45 p3 with e | p4
  · simp only [h1, h2, h3, h4, sbd_l, sbd_r] at h; cases h
  rcases h5 : num t n 1 40 p4 with e | ⟨v5, p5⟩
  · simp only [h1, h2, h3, h4, h5, sbd_l, sbd_r] at h; cases h
  simp only [h1, h2, h3, h4, h5, sbd_r] at h
  cases h
  exact ⟨(num_ok2 h1).1, (num_ok2 h5).1⟩
theorem sbd_inr {α β : Type} {x : Sum Nat α} {f : α → Sum Nat β} {z : β} (h : sbd x f = .inr z) : ∃ a, x = .inr a ∧ f a = .inr z := by
  rcases x with e | a
  · cases h
  · exact ⟨a, rfl, h⟩
theorem rowR_tri {t : Nat → Nat} {n p : Nat} {z : RowE × Nat} {A : TnA} (hA : triOk A.2.2.2) (h : rowR t n p = .inr z) : triOk (rowA A z.1).2.2.2 := by
  unfold rowR at h
  by_cases c : sk t n p < n
  · rw [if_pos c] at h
    by_cases c1 : t (sk t n p) = 112
    · rw [if_pos c1] at h
      obtain ⟨a, -, e⟩ := sbd_inr h
      cases e
      exact hA
    rw [if_neg c1] at h
    by_cases c2 : t (sk t n p) = 120
    · rw [if_pos c2] at h
      obtain ⟨a, e1, e⟩ := sbd_inr h
      cases e
      have g := turnR_lo e1
      show triOk (if a.1 ∈ A.2.2.2 then A.2.2.2 else A.2.2.2 ++ [a.1])
      split
      · exact hA
      · intro x hx
        rcases List.mem_append.mp hx with hx | hx
        · exact hA x hx
        · rw [List.mem_singleton.mp hx]; exact g
    rw [if_neg c2] at h
    by_cases c3 : t (sk t n p) = 104
    · rw [if_pos c3] at h
      obtain ⟨a, -, e⟩ := sbd_inr h
      cases e
      exact hA
    rw [if_neg c3] at h
    by_cases c4 : t (sk t n p) = 115
    · rw [if_pos c4] at h
      obtain ⟨a, -, e⟩ := sbd_inr h
      cases e
      exact hA
    rw [if_neg c4] at h
    by_cases c5 : t (sk t n p) = 103
    · rw [if_pos c5] at h
      obtain ⟨a, -, e⟩ := sbd_inr h
      cases e
      show triOk (if a.1.1 = 112 then (va_up A.1 a.1.2 none, A.2) else if a.1.1 = 104 then (A.1, va_up A.2.1 a.1.2 none, A.2.2) else (A.1, A.2.1, va_up A.2.2.1 a.1.2 none, A.2.2.2) : TnA).2.2.2
      split
      · exact hA
      · split
        · exact hA
        · exact hA
    rw [if_neg c5] at h
    cases h
  · rw [if_neg c] at h
    cases h
theorem rowsR_tri {t : Nat → Nat} {n : Nat} : ∀ (k : Nat) (A A2 : TnA) (p : Nat), triOk A.2.2.2 → rowsR t n k A p = .inr A2 → triOk A2.2.2.2
  | 0, A, A2, p, hA, h => by cases h; exact hA
  | k + 1, A, A2, p, hA, h => by
    unfold rowsR at h
    by_cases hs : sk t n p < n
    · rw [if_pos hs] at h
      rcases h1 : rowR t n (sk t n p) with e1 | z
      · rw [h1] at h; cases h
      · rw [h1] at h
        simp only [] at h
        rcases h2 : tk t n 59 z.2 with e2 | q2
        · rw [h2] at h; cases h
        · rw [h2] at h
          exact rowsR_tri k _ A2 q2 (rowR_tri hA h1) h
    · rw [if_neg hs] at h
      cases h
      exact hA
theorem rdA_tri {t : Nat → Nat} {n : Nat} {A : TnA} (hA : triOk A.2.2.2) (hL : A.2.2.2.length ≤ 20) : triOk (rdA A (rdR t n A)).2.2.2 ∧ (rdA A (rdR t n A)).2.2.2.length ≤ 20 := by
  rcases h : rdR t n A with e | A2
  · exact ⟨hA, hL⟩
  · have g := rdR_inr h
    exact ⟨rowsR_tri (n + 1) A A2 0 hA g.1, g.2⟩
theorem mt_sgn {g : Nat → Int32} {t : Nat → Nat} {n : Nat} (b : Int64) (k : Int32) (h2 : mtOk g t n) (h4 : n ≤ 400) : mtOk (apS b g n (sgnR n k)) (tpT b t n (sgnR n k)) (tpS n (sgnR n k)) ∧ tpS n (sgnR n k) ≤ 400 ∧ tpS n (sgnR n k) ≤ n + 8 := by
  rcases h : sgnR n k with e | z
  · exact ⟨h2, h4, Nat.le_add_right _ _⟩
  · obtain ⟨q1, q2, q3⟩ := sgnR_inr h4 h
    have q := tpA_m (j := z - n) b h2
    rw [Nat.add_sub_cancel' q1] at q
    exact ⟨q, q2, q3⟩
theorem y13 (y : Nat) : [y, y + 1, y + 2, y + 3, y + 4, y + 5, y + 6, y + 7, y + 8, y + 9, y + 10, y + 11, y + 12].Nodup := by
  simp only [List.nodup_cons, List.mem_cons, List.not_mem_nil, or_false, not_or, List.nodup_nil, and_true, not_false_eq_true]
  omega
theorem m13 {y a : Nat} (h : a ∈ [y, y + 1, y + 2, y + 3, y + 4, y + 5, y + 6, y + 7, y + 8, y + 9, y + 10, y + 11, y + 12]) : y ≤ a ∧ a < y + 13 := by
  simp only [List.mem_cons, List.not_mem_nil, or_false] at h
  omega
def mS (G : Gx) (V : Vw) (y : Nat) (th : Int32) (Q : Nat → Option PcR) (B S : Nat → Option (Nat × Nat)) (L : List Tri) (t : Nat → Nat) (n : Nat) (wr : Int32) (F : List Two) (PB : List Nat) : Prop := ∃ (nb at0 wq : Value) (g P sp al b fN sN lN fk fn mk fo : Nat → Int32), vU V [(y, eO 8 [.int th, .int (nI n), .ref (y + 1), .int wr, .ref (y + 2), .ref (y + 3), .ref (y + 4), .int (nI L.length), .ref (y + 5), .ref (y + 6), .ref (y + 7), .ref (y + 8), nb, at0, wq, .int (nI F.length), .ref (y + 9), .ref (y + 10), .ref (y + 11), .int (nI PB.length), .ref (y + 12)]), (y + 1, eI (gI G) 400 g), (y + 2, eI (gI G) 1769 P), (y + 3, eI (gI G) 62 sp), (y + 4, eI (gI G) 62 al), (y + 5, eI (gI G) 600 b), (y + 6, eI (gI G) 1769 fN), (y + 7, eI (gI G) 62 sN), (y + 8, eI (gI G) 62 lN), (y + 9, eI (gI G) 300 fk), (y + 10, eI (gI G) 300 fn), (y + 11, eI (gZ G) 41 mk), (y + 12, eI (gI G) 5000 fo)] = V ∧ mtOk g t n ∧ n ≤ 400 ∧ mpA P Q ∧ msA sp al B S ∧ mbA b L ∧ L.length ≤ 20 ∧ triOk L ∧ ckOk fk fn F ∧ F.length ≤ 250 ∧ prOk fo PB ∧ PB.length ≤ 4880
theorem mS.elim {G : Gx} {V : Vw} {y : Nat} {th : Int32} {Q : Nat → Option PcR} {B S : Nat → Option (Nat × Nat)} {L : List Tri} {t : Nat → Nat} {n : Nat} {wr : Int32} {F : List Two} {PB : List Nat} {Z : Prop} (h : mS G V y th Q B S L t n wr F PB) (k : ∀ (nb at0 wq : Value) (g P sp al b fN sN lN fk fn mk fo : Nat → Int32), (vU V [(y, eO 8 [.int th, .int (nI n), .ref (y + 1), .int wr, .ref (y + 2), .ref (y + 3), .ref (y + 4), .int (nI L.length), .ref (y + 5), .ref (y + 6), .ref (y + 7), .ref (y + 8), nb, at0, wq, .int (nI F.length), .ref (y + 9), .ref (y + 10), .ref (y + 11), .int (nI PB.length), .ref (y + 12)]), (y + 1, eI (gI G) 400 g), (y + 2, eI (gI G) 1769 P), (y + 3, eI (gI G) 62 sp), (y + 4, eI (gI G) 62 al), (y + 5, eI (gI G) 600 b), (y + 6, eI (gI G) 1769 fN), (y + 7, eI (gI G) 62 sN), (y + 8, eI (gI G) 62 lN), (y + 9, eI (gI G) 300 fk), (y + 10, eI (gI G) 300 fn), (y + 11, eI (gZ G) 41 mk), (y + 12, eI (gI G) 5000 fo)] = V) → (mtOk g t n) → (n ≤ 400) → (mpA P Q) → (msA sp al B S) → (mbA b L) → (L.length ≤ 20) → (triOk L) → (ckOk fk fn F) → (F.length ≤ 250) → (prOk fo PB) → (PB.length ≤ 4880) → Z) : Z := by
  obtain ⟨nb, at0, wq, g, P, sp, al, b, fN, sN, lN, fk, fn, mk, fo, hVV, hT, h4, hM, hS, hB9, hL, hL1, hck, hF, hpr, hPB⟩ := h
  exact k nb at0 wq g P sp al b fN sN lN fk fn mk fo hVV hT h4 hM hS hB9 hL hL1 hck hF hpr hPB
theorem mS.mk {G : Gx} {V : Vw} {y : Nat} {th : Int32} {Q : Nat → Option PcR} {B S : Nat → Option (Nat × Nat)} {L : List Tri} {t : Nat → Nat} {n : Nat} {wr : Int32} {F : List Two} {PB : List Nat} {nb at0 wq : Value} {g P sp al b fN sN lN fk fn mk fo : Nat → Int32} (hVV : vU V [(y, eO 8 [.int th, .int (nI n), .ref (y + 1), .int wr, .ref (y + 2), .ref (y + 3), .ref (y + 4), .int (nI L.length), .ref (y + 5), .ref (y + 6), .ref (y + 7), .ref (y + 8), nb, at0, wq, .int (nI F.length), .ref (y + 9), .ref (y + 10), .ref (y + 11), .int (nI PB.length), .ref (y + 12)]), (y + 1, eI (gI G) 400 g), (y + 2, eI (gI G) 1769 P), (y + 3, eI (gI G) 62 sp), (y + 4, eI (gI G) 62 al), (y + 5, eI (gI G) 600 b), (y + 6, eI (gI G) 1769 fN), (y + 7, eI (gI G) 62 sN), (y + 8, eI (gI G) 62 lN), (y + 9, eI (gI G) 300 fk), (y + 10, eI (gI G) 300 fn), (y + 11, eI (gZ G) 41 mk), (y + 12, eI (gI G) 5000 fo)] = V) (hT : mtOk g t n) (h4 : n ≤ 400) (hM : mpA P Q) (hS : msA sp al B S) (hB9 : mbA b L) (hL : L.length ≤ 20) (hL1 : triOk L) (hck : ckOk fk fn F) (hF : F.length ≤ 250) (hpr : prOk fo PB) (hPB : PB.length ≤ 4880) : mS G V y th Q B S L t n wr F PB := ⟨nb, at0, wq, g, P, sp, al, b, fN, sN, lN, fk, fn, mk, fo, hVV, hT, h4, hM, hS, hB9, hL, hL1, hck, hF, hpr, hPB⟩
theorem mS.eq {G : Gx} {V : Vw} {y : Nat} {th : Int32} {Q : Nat → Option PcR} {B S : Nat → Option (Nat × Nat)} {L : List Tri} {t : Nat → Nat} {n : Nat} {wr : Int32} {F : List Two} {PB : List Nat} {V2 : Vw} (h : mS G V y th Q B S L t n wr F PB) (h1 : ∀ a, y ≤ a → a < y + 13 → V2 a = V a) : mS G V2 y th Q B S L t n wr F PB := by
  refine mS.elim h ?_
  intro nb at0 wq g P sp al b fN sN lN fk fn mk fo hVV hT h4 hM hS hB9 hL hL1 hck hF hpr hPB
  have hv2 : vU V2 [(y, eO 8 [.int th, .int (nI n), .ref (y + 1), .int wr, .ref (y + 2), .ref (y + 3), .ref (y + 4), .int (nI L.length), .ref (y + 5), .ref (y + 6), .ref (y + 7), .ref (y + 8), nb, at0, wq, .int (nI F.length), .ref (y + 9), .ref (y + 10), .ref (y + 11), .int (nI PB.length), .ref (y + 12)]), (y + 1, eI (gI G) 400 g), (y + 2, eI (gI G) 1769 P), (y + 3, eI (gI G) 62 sp), (y + 4, eI (gI G) 62 al), (y + 5, eI (gI G) 600 b), (y + 6, eI (gI G) 1769 fN), (y + 7, eI (gI G) 62 sN), (y + 8, eI (gI G) 62 lN), (y + 9, eI (gI G) 300 fk), (y + 10, eI (gI G) 300 fn), (y + 11, eI (gZ G) 41 mk), (y + 12, eI (gI G) 5000 fo)] = V2 := by
    refine vU_all (fun z hz => ?_)
    have hm := m13 (y := y) (List.mem_map_of_mem hz : z.1 ∈ [y, y + 1, y + 2, y + 3, y + 4, y + 5, y + 6, y + 7, y + 8, y + 9, y + 10, y + 11, y + 12])
    rw [h1 _ hm.1 hm.2]
    obtain ⟨i, hi⟩ := List.getElem?_of_mem hz
    exact (congrFun hVV z.1).symm.trans (vU_at (cs := [(y, eO 8 [.int th, .int (nI n), .ref (y + 1), .int wr, .ref (y + 2), .ref (y + 3), .ref (y + 4), .int (nI L.length), .ref (y + 5), .ref (y + 6), .ref (y + 7), .ref (y + 8), nb, at0, wq, .int (nI F.length), .ref (y + 9), .ref (y + 10), .ref (y + 11), .int (nI PB.length), .ref (y + 12)]), (y + 1, eI (gI G) 400 g), (y + 2, eI (gI G) 1769 P), (y + 3, eI (gI G) 62 sp), (y + 4, eI (gI G) 62 al), (y + 5, eI (gI G) 600 b), (y + 6, eI (gI G) 1769 fN), (y + 7, eI (gI G) 62 sN), (y + 8, eI (gI G) 62 lN), (y + 9, eI (gI G) 300 fk), (y + 10, eI (gI G) 300 fn), (y + 11, eI (gZ G) 41 mk), (y + 12, eI (gI G) 5000 fo)]) (y13 y) i hi)
  exact mS.mk hv2 hT h4 hM hS hB9 hL hL1 hck hF hpr hPB
theorem mS.at {G : Gx} {V : Vw} {y : Nat} {th : Int32} {Q : Nat → Option PcR} {B S : Nat → Option (Nat × Nat)} {L : List Tri} {t : Nat → Nat} {n : Nat} {wr : Int32} {F : List Two} {PB : List Nat} (h : mS G V y th Q B S L t n wr F PB) : ∃ fs, V y = some (eO 8 fs) := by
  refine mS.elim h ?_
  intro nb at0 wq g P sp al b fN sN lN fk fn mk fo hVV hT h4 hM hS hB9 hL hL1 hck hF hpr hPB
  exact ⟨_, (congrFun hVV y).symm.trans (vU_at (cs := [(y, eO 8 [.int th, .int (nI n), .ref (y + 1), .int wr, .ref (y + 2), .ref (y + 3), .ref (y + 4), .int (nI L.length), .ref (y + 5), .ref (y + 6), .ref (y + 7), .ref (y + 8), nb, at0, wq, .int (nI F.length), .ref (y + 9), .ref (y + 10), .ref (y + 11), .int (nI PB.length), .ref (y + 12)]), (y + 1, eI (gI G) 400 g), (y + 2, eI (gI G) 1769 P), (y + 3, eI (gI G) 62 sp), (y + 4, eI (gI G) 62 al), (y + 5, eI (gI G) 600 b), (y + 6, eI (gI G) 1769 fN), (y + 7, eI (gI G) 62 sN), (y + 8, eI (gI G) 62 lN), (y + 9, eI (gI G) 300 fk), (y + 10, eI (gI G) 300 fn), (y + 11, eI (gZ G) 41 mk), (y + 12, eI (gI G) 5000 fo)]) (y13 y) 0 rfl)⟩
theorem mS.len {G : Gx} {V : Vw} {y : Nat} {th : Int32} {Q : Nat → Option PcR} {B S : Nat → Option (Nat × Nat)} {L : List Tri} {t : Nat → Nat} {n : Nat} {wr : Int32} {F : List Two} {PB : List Nat} (h : mS G V y th Q B S L t n wr F PB) : L.length ≤ 20 ∧ n ≤ 400 := by
  refine mS.elim h ?_
  intro nb at0 wq g P sp al b fN sN lN fk fn mk fo hVV hT h4 hM hS hB9 hL hL1 hck hF hpr hPB
  exact ⟨hL, h4⟩
/-- behind a call of the reference -/
def mF (G : Gx) (V : Vw) (y : Nat) (th : Int32) (Q : Nat → Option PcR) (B S : Nat → Option (Nat × Nat)) (L : List Tri) (t : Nat → Nat) (n : Nat) (wr : Int32) (F : List Two) (PB : List Nat) : Vw → Prop := fun V' => mS G V' y th Q B S L t n wr F PB ∧ ∀ a, ¬ (y ≤ a ∧ a < y + 13) → V' a = V a

theorem prA_le2 {P sp al b : Nat → Int32} {Q : Nat → Option PcR} {B S : Nat → Option (Nat × Nat)} {L : List Tri} (hM : mpA P Q) (hS : msA sp al B S) (hB9 : mbA b L) (hL : L.length ≤ 20) : (prA (Q, B, S, L)).length ≤ 4880 := by
  have h1 := prPs_le2 hM 60 (Nat.le_refl _)
  have h2 := prSp_le9 (c := 104) hS.1 30 (Nat.le_refl _)
  have h3 := prSp_le9 (c := 115) hS.2.1 30 (Nat.le_refl _)
  have h4 := prTn_le (L := L) (fun i hi => ⟨(hB9 i hi).2.2.2.1, (hB9 i hi).2.2.2.2.1, (hB9 i hi).2.2.2.2.2⟩) L.length (Nat.le_refl _)
  unfold prA
  simp only [List.length_append]
  omega
