def spM (B S : Nat → Option (Nat × Nat)) (k : Nat) : List Nat := if k ≤ 30 then prSp 104 B k else prSp 104 B 30 ++ prSp 115 S (k - 31)
theorem spM_lo {B S : Nat → Option (Nat × Nat)} {k : Nat} (h : k ≤ 30) : spM B S k = prSp 104 B k := if_pos h
theorem spM_hi {B S : Nat → Option (Nat × Nat)} {k : Nat} (h : 31 ≤ k) : spM B S k = prSp 104 B 30 ++ prSp 115 S (k - 31) := if_neg (by omega)
theorem spM_31 {B S : Nat → Option (Nat × Nat)} : spM B S 31 = spM B S 30 := by
  rw [spM_hi (by decide), spM_lo (by decide)]
  exact List.append_nil _
theorem spM_n1 {B S : Nat → Option (Nat × Nat)} {i : Nat} (h : i + 1 ≤ 30) (e : B (i + 1) = none) : spM B S (i + 1) = spM B S i := by
  rw [spM_lo h, spM_lo (by omega), prSp_n e]
theorem spM_s1 {B S : Nat → Option (Nat × Nat)} {i x y : Nat} (h : i + 1 ≤ 30) (e : B (i + 1) = some (x, y)) : spM B S (i + 1) = spM B S i ++ (pN 104 (i + 1) ++ (pN 64 x ++ (pN 43 y ++ [59]))) := by
  rw [spM_lo h, spM_lo (by omega), prSp_s e]
theorem spM_n2 {B S : Nat → Option (Nat × Nat)} {i q : Nat} (h : i = 31 + q) (e : S (q + 1) = none) : spM B S (i + 1) = spM B S i := by
  subst h
  rw [spM_hi (by omega), spM_hi (by omega), show 31 + q + 1 - 31 = q + 1 by omega, show 31 + q - 31 = q by omega, prSp_n e]
theorem spM_s2 {B S : Nat → Option (Nat × Nat)} {i q x y : Nat} (h : i = 31 + q) (e : S (q + 1) = some (x, y)) : spM B S (i + 1) = spM B S i ++ (pN 115 (q + 1) ++ (pN 64 x ++ (pN 43 y ++ [59]))) := by
  subst h
  rw [spM_hi (by omega), spM_hi (by omega), show 31 + q + 1 - 31 = q + 1 by omega, show 31 + q - 31 = q by omega, prSp_s e, List.append_assoc]
theorem spM_le {sp al : Nat → Int32} {B S : Nat → Option (Nat × Nat)} (h : msA sp al B S) {k : Nat} (hk : k ≤ 61) : (spM B S k).length ≤ 12 * k := by
  rcases Nat.lt_or_ge 30 k with h1 | h1
  · have a1 := prSp_le9 (c := 104) h.1 30 (by omega)
    have a2 := prSp_le9 (c := 115) h.2.1 (k - 31) (by omega)
    rw [spM_hi (by omega), List.length_append]
    omega
  · rw [spM_lo h1]; exact prSp_le9 (c := 104) h.1 k h1
/-- what spot k holds -/
def spK (B S : Nat → Option (Nat × Nat)) (k : Nat) : Option (Nat × Nat) := if k ≤ 30 then B k else if k = 31 then none else S (k - 31)
def spC (k : Nat) : Nat := if k ≤ 30 then 104 else 115
theorem msA_k {sp al : Nat → Int32} {B S : Nat → Option (Nat × Nat)} (h : msA sp al B S) {k : Nat} (h1 : 1 ≤ k) (h2 : k ≤ 61) : spO (sp k) (al k) (spK B S k) := by
  unfold spK
  by_cases c1 : k ≤ 30
  · rw [if_pos c1]; exact h.1 k h1 c1
  · rw [if_neg c1]
    by_cases c2 : k = 31
    · rw [if_pos c2, c2]; exact Or.inl ⟨h.2.2, rfl⟩
    · rw [if_neg c2]
      have := h.2.1 (k - 31) (by omega) (by omega)
      simp only [show 31 + (k - 31) = k by omega] at this
      exact this
theorem spM_n {B S : Nat → Option (Nat × Nat)} {i : Nat} (hi : i + 1 ≤ 61) (e : spK B S (i + 1) = none) : spM B S (i + 1) = spM B S i := by
  unfold spK at e
  by_cases c1 : i + 1 ≤ 30
  · rw [if_pos c1] at e; exact spM_n1 c1 e
  · rw [if_neg c1] at e
    by_cases c2 : i + 1 = 31
    · rw [show i = 30 by omega]; exact spM_31
    · rw [if_neg c2] at e
      exact spM_n2 (q := i - 31) (by omega) (by rw [show i - 31 + 1 = i + 1 - 31 by omega]; exact e)
theorem spM_s {B S : Nat → Option (Nat × Nat)} {i x y : Nat} (hi : i + 1 ≤ 61) (e : spK B S (i + 1) = some (x, y)) : spM B S (i + 1) = spM B S i ++ (pN (spC (i + 1)) ((i + 1) % 31) ++ (pN 64 x ++ (pN 43 y ++ [59]))) := by
  unfold spK at e
  unfold spC
  by_cases c1 : i + 1 ≤ 30
  · rw [if_pos c1] at e; rw [if_pos c1, Nat.mod_eq_of_lt (by omega)]; exact spM_s1 c1 e
  · rw [if_neg c1] at e
    by_cases c2 : i + 1 = 31
    · rw [if_pos c2] at e; cases e
    · rw [if_neg c2] at e
      rw [if_neg c1, show (i + 1) % 31 = i - 31 + 1 by omega]
      exact spM_s2 (q := i - 31) (by omega) (by rw [show i - 31 + 1 = i + 1 - 31 by omega]; exact e)
theorem len_m1 {n : Nat} (h : n < 2 ^ 31) : (nI n - 1).toInt = (n : Int) - 1 := by
  rcases Nat.eq_zero_or_pos n with z | z
  · subst z; decide
  · rw [show nI n - 1 = nI (n - 1) from nI_sub (a := n) (b := 1) z, nI_toInt (by omega)]; omega
theorem inI_len {i : Int32} {n : Nat} (h : n < 2 ^ 31) : inI i 0 (nI n - 1) = !(decide (i < 0 ∨ nI n ≤ i)) := by
  unfold inI
  have e1 := len_m1 h
  have e2 := nI_toInt h
  by_cases c1 : i < 0
  · rw [decide_eq_true c1, decide_eq_true (Or.inl c1)]; rfl
  · by_cases c2 : nI n ≤ i
    · have c3 : nI n - 1 < i := by rw [Int32.lt_iff_toInt_lt]; rw [Int32.le_iff_toInt_le] at c2; omega
      rw [decide_eq_true c3, decide_eq_true (Or.inr c2)]; simp
    · have c3 : ¬ nI n - 1 < i := by rw [Int32.lt_iff_toInt_lt]; rw [Int32.le_iff_toInt_le] at c2; omega
      rw [decide_eq_false c1, decide_eq_false c3, decide_eq_false (fun z => z.elim c1 c2)]; rfl
theorem inI_01 {w : Int32} : inI w 0 1 = !(decide (w ≠ 0 ∧ w ≠ 1)) := by
  unfold inI
  by_cases c1 : w = 0
  · subst c1; decide
  · by_cases c2 : w = 1
    · subst c2; decide
    · rw [decide_eq_true (show w ≠ 0 ∧ w ≠ 1 from ⟨c1, c2⟩)]
      by_cases c3 : w < 0
      · rw [decide_eq_true c3]; rfl
      · obtain ⟨j, hj, rfl⟩ := i_neg c3
        have c4 : (1 : Int32) < nI j := (nI_ltI (a := 1) (b := j) (by decide) hj).mpr (by
          rcases Nat.lt_or_ge 1 j with z | z
          · exact z
          · rcases Nat.eq_zero_or_pos j with q | q
            · exact absurd (by rw [q]; rfl) c1
            · exact absurd (by rw [show j = 1 by omega]; rfl) c2)
        rw [decide_eq_true c4]; simp




set_option maxHeartbeats 4000000 in
set_option maxRecDepth 100000 in
/-- fault -/
theorem c_Mo_fault (l : Launch) (G : Gx) (lo : Nat) (V : Vw) (sz : Nat) (m ka na : Nat) (u1 u2 u3 u4 u5 u6 u7 u8 u9 u10 u11 u12 u13 u14 u18 u19 u20 : Value) (th : Value) (fk fn : Nat → Int32) (F : List Two) (hn : [m, ka, na].Nodup) (hO : ckOk fk fn F) (hF : F.length ≤ 300) (i wh : Int32) : Met l y_Mo_fault ws_Mo_fault ({ frames := 1, cells := 0, slots := 0, locals := 25 } : Room) (vPre G lo [.ref m, .int i, .int wh] (vU V [(m, eO 8 [th, u1, u2, u3, u4, u5, u6, u7, u8, u9, u10, u11, u12, u13, u14, .int (nI F.length), .ref ka, .ref na, u18, u19, u20]), (ka, eI (gI G) 300 fk), (na, eI (gI G) 300 fn)]) sz) (vPost G lo (fun r V' k => r = some (.int (vaI (fauR F i wh))) ∧ V' = vU V [(m, eO 8 [.int (thI (fauR F i wh)), u1, u2, u3, u4, u5, u6, u7, u8, u9, u10, u11, u12, u13, u14, .int (nI F.length), .ref ka, .ref na, u18, u19, u20]), (ka, eI (gI G) 300 fk), (na, eI (gI G) 300 fn)] ∧ k = sz)) 0 0 (vL lo) := by
  refine vMet (R := RMo) (by decide) rfl (Nat.le_of_ble_eq_true rfl) ?_
  intro pg ev s mi args below meth cd hx hb hr hml hlk hnm hts hown hK hz hV ls hl
  have hl : lv_has ls 3 [(0, .ref m), (1, .int i), (2, .int wh)] := hl
  have hV0 := hV
  obtain ⟨H, hH⟩ : ∃ H, H = s.heap := ⟨_, rfl⟩
  obtain ⟨locs, hlocs⟩ : ∃ locs : List Loc, locs = [] := ⟨_, rfl⟩
  rw [← hH, ← hlocs]
  rw [← hH] at hz
  replace hV : vS G.1 cls lo s H locs (vU V [(m, eO 8 [th, u1, u2, u3, u4, u5, u6, u7, u8, u9, u10, u11, u12, u13, u14, .int (nI F.length), .ref ka, .ref na, u18, u19, u20]), (ka, eI (gI G) 300 fk), (na, eI (gI G) 300 fn)]) := by rw [hH, hlocs]; exact hV
  clear hH hlocs hV0
  refine lv_aload_n hx hb d_Mo_fault_0 rfl (lv_at hl 0 rfl) ?_
  refine lv_iload_n hx hb d_Mo_fault_1 rfl (lv_at hl 1 rfl) ?_
  refine lv_iconst (v := 0) hx hb d_Mo_fault_2 (by decide) ?_
  refine lv_aload_n hx hb d_Mo_fault_3 rfl (lv_at hl 0 rfl) ?_
  refine u_get hx hb hts inMo hown hK hV hn 0 rfl rfl 15 (by decide) w_fl_Mo_145 rfl rfl d_Mo_fault_4 ?_
  refine lv_iconst (v := 1) hx hb d_Mo_fault_7 (by decide) ?_
  refine e_isub (v := (nI F.length) - 1) hx hb d_Mo_fault_8 (rfl) ?_
  refine v_call (va_runS (As := [.int i, .int 0, .int ((nI F.length) - 1)]) (rest := [.ref m]) ⟨hx, hb, hml, hown, hts⟩ (c_Mo_in l G lo _ _ i ((0 : Int32)) ((nI F.length) - 1)) (kwS 3 hts w_co_Mo_in rfl rfl w_it_Mo w_ml_Mo_54 w_st_Mo_in (by decide +kernel) ⟨(Nat.le_of_ble_eq_true rfl), (Nat.le_of_ble_eq_true rfl)⟩) (u_preS hK hV hn [] rfl hz) rfl rfl hl.1 rfl (lv_room (Nat.le_of_ble_eq_true rfl)) d_Mo_fault_9 ⟨(Nat.le_of_ble_eq_true rfl), (Nat.le_of_ble_eq_true rfl)⟩) hV (fun r9 V9 H locs hp hV hle => ?_)
  obtain ⟨rfl, rfl, hz⟩ := hp
  replace hV := uu_same hV hn [] rfl
  rcases tf (inI i ((0 : Int32)) ((nI F.length) - 1)) with d_1 | d_1
  · have hi9 : ¬ (i < 0 ∨ nI F.length ≤ i) := by have q := (inI_len (by omega)).symm.trans d_1; rw [Bool.not_eq_true'] at q; exact of_decide_eq_false q
    obtain ⟨j, hj, ei⟩ := i_neg (fun z => hi9 (Or.inl z))
    have hV : vS G.1 cls lo s H locs (vU V [(m, eO 8 [th, u1, u2, u3, u4, u5, u6, u7, u8, u9, u10, u11, u12, u13, u14, .int (nI F.length), .ref ka, .ref na, u18, u19, u20]), (ka, eI (gI G) 300 fk), (na, eI (gI G) 300 fn)]) := hV
    refine W.eq (g2 := F0 mi 12 ls [.int 1, .ref m]) (by rw [d_1]; rfl) ?_
    refine lv_iload_n hx hb d_Mo_fault_12 rfl (lv_at hl 2 rfl) ?_
    refine lv_iconst (v := 0) hx hb d_Mo_fault_13 (by decide) ?_
    refine lv_iconst (v := 1) hx hb d_Mo_fault_14 (by decide) ?_
    refine v_call (va_runS (As := [.int wh, .int 0, .int 1]) (rest := [.int 1, .ref m]) ⟨hx, hb, hml, hown, hts⟩ (c_Mo_in l G lo _ _ wh ((0 : Int32)) ((1 : Int32))) (kwS 3 hts w_co_Mo_in rfl rfl w_it_Mo w_ml_Mo_54 w_st_Mo_in (by decide +kernel) ⟨(Nat.le_of_ble_eq_true rfl), (Nat.le_of_ble_eq_true rfl)⟩) (u_preS hK hV hn [] rfl hz) rfl rfl hl.1 rfl (lv_room (Nat.le_of_ble_eq_true rfl)) d_Mo_fault_15 ⟨(Nat.le_of_ble_eq_true rfl), (Nat.le_of_ble_eq_true rfl)⟩) hV (fun r9 V9 H locs hp hV hle => ?_)
    obtain ⟨rfl, rfl, hz⟩ := hp
    replace hV := uu_same hV hn [] rfl
    rcases tf (inI wh ((0 : Int32)) ((1 : Int32))) with d_2 | d_2
    · have hw9 : ¬ (wh ≠ 0 ∧ wh ≠ 1) := by have q := inI_01.symm.trans d_2; rw [Bool.not_eq_true'] at q; exact of_decide_eq_false q
      have hV : vS G.1 cls lo s H locs (vU V [(m, eO 8 [th, u1, u2, u3, u4, u5, u6, u7, u8, u9, u10, u11, u12, u13, u14, .int (nI F.length), .ref ka, .ref na, u18, u19, u20]), (ka, eI (gI G) 300 fk), (na, eI (gI G) 300 fn)]) := hV
      refine W.eq (g2 := F0 mi 18 ls [.int 1, .int 1, .ref m]) (by rw [d_2]; rfl) ?_
      refine v_call (va_runV (As := [.int 1, .int 1]) (rest := []) ⟨hx, hb, hml, hown, hts⟩ (c_Mo_asks l G lo _ _ m u1 u2 u3 u4 u5 u6 u7 u8 u9 u10 u11 u12 u13 u14 (.int (nI F.length)) (.ref ka) (.ref na) u18 u19 u20 th (by simp) 1 1 (by decide) (by decide)) (kwV 2 hts w_co_Mo_asks rfl rfl w_it_Mo w_ml_Mo_132 w_im_Mo_asks w_se_Mo__Mo_asks (by decide +kernel) ⟨(Nat.le_of_ble_eq_true rfl), (Nat.le_of_ble_eq_true rfl)⟩) (u_preV hK hV hn [0] rfl hz 0 rfl rfl) rfl rfl hl.1 rfl (lv_room (Nat.le_of_ble_eq_true rfl)) d_Mo_fault_18 ⟨(Nat.le_of_ble_eq_true rfl), (Nat.le_of_ble_eq_true rfl)⟩) hV (fun r9 V9 H locs hp hV hle => ?_)
      obtain ⟨rfl, rfl, hz⟩ := hp
      replace hV := u_back hV hn [0] rfl
      have hV : vS G.1 cls lo s H locs (vU V [(m, eO 8 [.int 0, u1, u2, u3, u4, u5, u6, u7, u8, u9, u10, u11, u12, u13, u14, .int (nI F.length), .ref ka, .ref na, u18, u19, u20]), (ka, eI (gI G) 300 fk), (na, eI (gI G) 300 fn)]) := hV
      refine W.eq (g2 := F0 mi 21 ls [.int 1]) rfl ?_
      refine lv_if_ne (tgt := 26) hx hb d_Mo_fault_21 (by decide) (fun _ => ?_) (fun c_3 => absurd c_3 (by decide))
      subst ei
      have hj8 : j < F.length := by rcases Nat.lt_or_ge j F.length with z | z; exact z; exact absurd (Or.inr ((nI_leI (by omega) hj).mpr z)) hi9
      obtain ⟨o1, o2⟩ := hO j hj8
      refine lv_iload_n hx hb d_Mo_fault_26 rfl (lv_at hl 2 rfl) ?_
      refine lv_if_ne (tgt := 39) hx hb d_Mo_fault_27 (by decide) (fun c_4 => ?_) (fun c_4 => ?_)
      · have hX : fauR F (nI j) wh = .inr (nI (F.getD j z2).2) := by unfold fauR; rw [if_neg hi9, if_neg hw9, if_neg c_4, nI_clamp hj]
        refine lv_aload_n hx hb d_Mo_fault_39 rfl (lv_at hl 0 rfl) ?_
        refine u_get hx hb hts inMo hown hK hV hn 0 rfl rfl 17 (by decide) w_fl_Mo_41 rfl rfl d_Mo_fault_40 ?_
        refine lv_iload_n hx hb d_Mo_fault_43 rfl (lv_at hl 1 rfl) ?_
        refine u_ialdN hx hb hK hV hn 2 rfl (by omega) (by decide) d_Mo_fault_44 ?_
        rw [o2]
        exact W.iret (v := nI ((F.getD j z2).2)) hx hb hr (v_end hV ⟨by rw [hX]; rfl, by rw [hX]; rfl, hz⟩) hV.2.1.2.2 d_Mo_fault_45
      · have hX : fauR F (nI j) wh = .inr (nI (F.getD j z2).1) := by unfold fauR; rw [if_neg hi9, if_neg hw9, if_pos c_4, nI_clamp hj]
        refine lv_aload_n hx hb d_Mo_fault_30 rfl (lv_at hl 0 rfl) ?_
        refine u_get hx hb hts inMo hown hK hV hn 0 rfl rfl 16 (by decide) w_fl_Mo_38 rfl rfl d_Mo_fault_31 ?_
        refine lv_iload_n hx hb d_Mo_fault_34 rfl (lv_at hl 1 rfl) ?_
        refine u_ialdN hx hb hK hV hn 1 rfl (by omega) (by decide) d_Mo_fault_35 ?_
        rw [o1]
        refine lv_goto (tgt := 45) hx hb d_Mo_fault_36 (by decide) ?_
        exact W.iret (v := nI ((F.getD j z2).1)) hx hb hr (v_end hV ⟨by rw [hX]; rfl, by rw [hX]; rfl, hz⟩) hV.2.1.2.2 d_Mo_fault_45
    · have hw9 : wh ≠ 0 ∧ wh ≠ 1 := by have q := inI_01.symm.trans d_2; rw [Bool.not_eq_false'] at q; exact of_decide_eq_true q
      have hX : fauR F i wh = .inl 2 := by unfold fauR; rw [if_neg hi9, if_pos hw9]
      have hV : vS G.1 cls lo s H locs (vU V [(m, eO 8 [th, u1, u2, u3, u4, u5, u6, u7, u8, u9, u10, u11, u12, u13, u14, .int (nI F.length), .ref ka, .ref na, u18, u19, u20]), (ka, eI (gI G) 300 fk), (na, eI (gI G) 300 fn)]) := hV
      refine W.eq (g2 := F0 mi 18 ls [.int 0, .int 1, .ref m]) (by rw [d_2]; rfl) ?_
      refine v_call (va_runV (As := [.int 1, .int 0]) (rest := []) ⟨hx, hb, hml, hown, hts⟩ (c_Mo_asks l G lo _ _ m u1 u2 u3 u4 u5 u6 u7 u8 u9 u10 u11 u12 u13 u14 (.int (nI F.length)) (.ref ka) (.ref na) u18 u19 u20 th (by simp) 1 0 (by decide) (by decide)) (kwV 2 hts w_co_Mo_asks rfl rfl w_it_Mo w_ml_Mo_132 w_im_Mo_asks w_se_Mo__Mo_asks (by decide +kernel) ⟨(Nat.le_of_ble_eq_true rfl), (Nat.le_of_ble_eq_true rfl)⟩) (u_preV hK hV hn [0] rfl hz 0 rfl rfl) rfl rfl hl.1 rfl (lv_room (Nat.le_of_ble_eq_true rfl)) d_Mo_fault_18 ⟨(Nat.le_of_ble_eq_true rfl), (Nat.le_of_ble_eq_true rfl)⟩) hV (fun r9 V9 H locs hp hV hle => ?_)
      obtain ⟨rfl, rfl, hz⟩ := hp
      replace hV := u_back hV hn [0] rfl
      have hV : vS G.1 cls lo s H locs (vU V [(m, eO 8 [.int 2, u1, u2, u3, u4, u5, u6, u7, u8, u9, u10, u11, u12, u13, u14, .int (nI F.length), .ref ka, .ref na, u18, u19, u20]), (ka, eI (gI G) 300 fk), (na, eI (gI G) 300 fn)]) := hV
      refine W.eq (g2 := F0 mi 21 ls [.int 0]) rfl ?_
      refine lv_if_ne (tgt := 26) hx hb d_Mo_fault_21 (by decide) (fun c_5 => absurd c_5 (by decide)) (fun _ => ?_)
      refine lv_iconst (v := 0) hx hb d_Mo_fault_24 (by decide) ?_
      exact W.iret (v := 0) hx hb hr (v_end hV ⟨by rw [hX]; rfl, by rw [hX]; rfl, hz⟩) hV.2.1.2.2 d_Mo_fault_25
  · have hi9 : i < 0 ∨ nI F.length ≤ i := by have q := (inI_len (by omega)).symm.trans d_1; rw [Bool.not_eq_false'] at q; exact of_decide_eq_true q
    have hX : fauR F i wh = .inl 1 := if_pos hi9
    have hV : vS G.1 cls lo s H locs (vU V [(m, eO 8 [th, u1, u2, u3, u4, u5, u6, u7, u8, u9, u10, u11, u12, u13, u14, .int (nI F.length), .ref ka, .ref na, u18, u19, u20]), (ka, eI (gI G) 300 fk), (na, eI (gI G) 300 fn)]) := hV
    refine W.eq (g2 := F0 mi 12 ls [.int 0, .ref m]) (by rw [d_1]; rfl) ?_
    refine lv_iload_n hx hb d_Mo_fault_12 rfl (lv_at hl 2 rfl) ?_
    refine lv_iconst (v := 0) hx hb d_Mo_fault_13 (by decide) ?_
    refine lv_iconst (v := 1) hx hb d_Mo_fault_14 (by decide) ?_
    refine v_call (va_runS (As := [.int wh, .int 0, .int 1]) (rest := [.int 0, .ref m]) ⟨hx, hb, hml, hown, hts⟩ (c_Mo_in l G lo _ _ wh ((0 : Int32)) ((1 : Int32))) (kwS 3 hts w_co_Mo_in rfl rfl w_it_Mo w_ml_Mo_54 w_st_Mo_in (by decide +kernel) ⟨(Nat.le_of_ble_eq_true rfl), (Nat.le_of_ble_eq_true rfl)⟩) (u_preS hK hV hn [] rfl hz) rfl rfl hl.1 rfl (lv_room (Nat.le_of_ble_eq_true rfl)) d_Mo_fault_15 ⟨(Nat.le_of_ble_eq_true rfl), (Nat.le_of_ble_eq_true rfl)⟩) hV (fun r9 V9 H locs hp hV hle => ?_)
    obtain ⟨rfl, rfl, hz⟩ := hp
    replace hV := uu_same hV hn [] rfl
    rcases tf (inI wh ((0 : Int32)) ((1 : Int32))) with d_6 | d_6
    · have hV : vS G.1 cls lo s H locs (vU V [(m, eO 8 [th, u1, u2, u3, u4, u5, u6, u7, u8, u9, u10, u11, u12, u13, u14, .int (nI F.length), .ref ka, .ref na, u18, u19, u20]), (ka, eI (gI G) 300 fk), (na, eI (gI G) 300 fn)]) := hV
      refine W.eq (g2 := F0 mi 18 ls [.int 1, .int 0, .ref m]) (by rw [d_6]; rfl) ?_
      refine v_call (va_runV (As := [.int 0, .int 1]) (rest := []) ⟨hx, hb, hml, hown, hts⟩ (c_Mo_asks l G lo _ _ m u1 u2 u3 u4 u5 u6 u7 u8 u9 u10 u11 u12 u13 u14 (.int (nI F.length)) (.ref ka) (.ref na) u18 u19 u20 th (by simp) 0 1 (by decide) (by decide)) (kwV 2 hts w_co_Mo_asks rfl rfl w_it_Mo w_ml_Mo_132 w_im_Mo_asks w_se_Mo__Mo_asks (by decide +kernel) ⟨(Nat.le_of_ble_eq_true rfl), (Nat.le_of_ble_eq_true rfl)⟩) (u_preV hK hV hn [0] rfl hz 0 rfl rfl) rfl rfl hl.1 rfl (lv_room (Nat.le_of_ble_eq_true rfl)) d_Mo_fault_18 ⟨(Nat.le_of_ble_eq_true rfl), (Nat.le_of_ble_eq_true rfl)⟩) hV (fun r9 V9 H locs hp hV hle => ?_)
      obtain ⟨rfl, rfl, hz⟩ := hp
      replace hV := u_back hV hn [0] rfl
      have hV : vS G.1 cls lo s H locs (vU V [(m, eO 8 [.int 1, u1, u2, u3, u4, u5, u6, u7, u8, u9, u10, u11, u12, u13, u14, .int (nI F.length), .ref ka, .ref na, u18, u19, u20]), (ka, eI (gI G) 300 fk), (na, eI (gI G) 300 fn)]) := hV
      refine W.eq (g2 := F0 mi 21 ls [.int 0]) rfl ?_
      refine lv_if_ne (tgt := 26) hx hb d_Mo_fault_21 (by decide) (fun c_7 => absurd c_7 (by decide)) (fun _ => ?_)
      refine lv_iconst (v := 0) hx hb d_Mo_fault_24 (by decide) ?_
      exact W.iret (v := 0) hx hb hr (v_end hV ⟨by rw [hX]; rfl, by rw [hX]; rfl, hz⟩) hV.2.1.2.2 d_Mo_fault_25
    · have hV : vS G.1 cls lo s H locs (vU V [(m, eO 8 [th, u1, u2, u3, u4, u5, u6, u7, u8, u9, u10, u11, u12, u13, u14, .int (nI F.length), .ref ka, .ref na, u18, u19, u20]), (ka, eI (gI G) 300 fk), (na, eI (gI G) 300 fn)]) := hV
      refine W.eq (g2 := F0 mi 18 ls [.int 0, .int 0, .ref m]) (by rw [d_6]; rfl) ?_
      refine v_call (va_runV (As := [.int 0, .int 0]) (rest := []) ⟨hx, hb, hml, hown, hts⟩ (c_Mo_asks l G lo _ _ m u1 u2 u3 u4 u5 u6 u7 u8 u9 u10 u11 u12 u13 u14 (.int (nI F.length)) (.ref ka) (.ref na) u18 u19 u20 th (by simp) 0 0 (by decide) (by decide)) (kwV 2 hts w_co_Mo_asks rfl rfl w_it_Mo w_ml_Mo_132 w_im_Mo_asks w_se_Mo__Mo_asks (by decide +kernel) ⟨(Nat.le_of_ble_eq_true rfl), (Nat.le_of_ble_eq_true rfl)⟩) (u_preV hK hV hn [0] rfl hz 0 rfl rfl) rfl rfl hl.1 rfl (lv_room (Nat.le_of_ble_eq_true rfl)) d_Mo_fault_18 ⟨(Nat.le_of_ble_eq_true rfl), (Nat.le_of_ble_eq_true rfl)⟩) hV (fun r9 V9 H locs hp hV hle => ?_)
      obtain ⟨rfl, rfl, hz⟩ := hp
      replace hV := u_back hV hn [0] rfl
      have hV : vS G.1 cls lo s H locs (vU V [(m, eO 8 [.int 1, u1, u2, u3, u4, u5, u6, u7, u8, u9, u10, u11, u12, u13, u14, .int (nI F.length), .ref ka, .ref na, u18, u19, u20]), (ka, eI (gI G) 300 fk), (na, eI (gI G) 300 fn)]) := hV
      refine W.eq (g2 := F0 mi 21 ls [.int 0]) rfl ?_
      refine lv_if_ne (tgt := 26) hx hb d_Mo_fault_21 (by decide) (fun c_8 => absurd c_8 (by decide)) (fun _ => ?_)
      refine lv_iconst (v := 0) hx hb d_Mo_fault_24 (by decide) ?_
      exact W.iret (v := 0) hx hb hr (v_end hV ⟨by rw [hX]; rfl, by rw [hX]; rfl, hz⟩) hV.2.1.2.2 d_Mo_fault_25

set_option maxHeartbeats 4000000 in
set_option maxRecDepth 100000 in
/-- at -/
theorem c_Mo_at (l : Launch) (G : Gx) (lo : Nat) (V : Vw) (sz : Nat) (m oa : Nat) (u1 u2 u3 u4 u5 u6 u7 u8 u9 u10 u11 u12 u13 u14 u15 u16 u17 u18 : Value) (th : Value) (fo : Nat → Int32) (PB : List Nat) (hn : [m, oa].Nodup) (hO : prOk fo PB) (hF : PB.length ≤ 5000) (i : Int32) : Met l y_Mo_at ws_Mo_at ({ frames := 1, cells := 0, slots := 0, locals := 25 } : Room) (vPre G lo [.ref m, .int i] (vU V [(m, eO 8 [th, u1, u2, u3, u4, u5, u6, u7, u8, u9, u10, u11, u12, u13, u14, u15, u16, u17, u18, .int (nI PB.length), .ref oa]), (oa, eI (gI G) 5000 fo)]) sz) (vPost G lo (fun r V' k => r = some (.int (vaI (atR PB i))) ∧ V' = vU V [(m, eO 8 [.int (thI (atR PB i)), u1, u2, u3, u4, u5, u6, u7, u8, u9, u10, u11, u12, u13, u14, u15, u16, u17, u18, .int (nI PB.length), .ref oa]), (oa, eI (gI G) 5000 fo)] ∧ k = sz)) 0 0 (vL lo) := by
  refine vMet (R := RMo) (by decide) rfl (Nat.le_of_ble_eq_true rfl) ?_
  intro pg ev s mi args below meth cd hx hb hr hml hlk hnm hts hown hK hz hV ls hl
  have hl : lv_has ls 2 [(0, .ref m), (1, .int i)] := hl
  have hV0 := hV
  obtain ⟨H, hH⟩ : ∃ H, H = s.heap := ⟨_, rfl⟩
  obtain ⟨locs, hlocs⟩ : ∃ locs : List Loc, locs = [] := ⟨_, rfl⟩
  rw [← hH, ← hlocs]
  rw [← hH] at hz
  replace hV : vS G.1 cls lo s H locs (vU V [(m, eO 8 [th, u1, u2, u3, u4, u5, u6, u7, u8, u9, u10, u11, u12, u13, u14, u15, u16, u17, u18, .int (nI PB.length), .ref oa]), (oa, eI (gI G) 5000 fo)]) := by rw [hH, hlocs]; exact hV
  clear hH hlocs hV0
  refine lv_aload_n hx hb d_Mo_at_0 rfl (lv_at hl 0 rfl) ?_
  refine lv_iload_n hx hb d_Mo_at_1 rfl (lv_at hl 1 rfl) ?_
  refine lv_if_lt (tgt := 9) hx hb d_Mo_at_2 (by decide) (fun c_1 => ?_) (fun c_1 => ?_)
  · have hX : atR PB i = .inl 1 := if_pos c_1
    refine lv_iconst (v := 0) hx hb d_Mo_at_9 (by decide) ?_
    refine lv_iconst (v := 1) hx hb d_Mo_at_10 (by decide) ?_
    refine v_call (va_runV (As := [.int 0, .int 1]) (rest := []) ⟨hx, hb, hml, hown, hts⟩ (c_Mo_asks l G lo _ _ m u1 u2 u3 u4 u5 u6 u7 u8 u9 u10 u11 u12 u13 u14 u15 u16 u17 u18 (.int (nI PB.length)) (.ref oa) th (by simp) 0 1 (by decide) (by decide)) (kwV 2 hts w_co_Mo_asks rfl rfl w_it_Mo w_ml_Mo_132 w_im_Mo_asks w_se_Mo__Mo_asks (by decide +kernel) ⟨(Nat.le_of_ble_eq_true rfl), (Nat.le_of_ble_eq_true rfl)⟩) (u_preV hK hV hn [0] rfl hz 0 rfl rfl) rfl rfl hl.1 rfl (lv_room (Nat.le_of_ble_eq_true rfl)) d_Mo_at_11 ⟨(Nat.le_of_ble_eq_true rfl), (Nat.le_of_ble_eq_true rfl)⟩) hV (fun r9 V9 H locs hp hV hle => ?_)
    obtain ⟨rfl, rfl, hz⟩ := hp
    replace hV := u_back hV hn [0] rfl
    have hV : vS G.1 cls lo s H locs (vU V [(m, eO 8 [.int 1, u1, u2, u3, u4, u5, u6, u7, u8, u9, u10, u11, u12, u13, u14, u15, u16, u17, u18, .int (nI PB.length), .ref oa]), (oa, eI (gI G) 5000 fo)]) := hV
    refine W.eq (g2 := F0 mi 14 ls [.int 0]) rfl ?_
    refine lv_if_ne (tgt := 19) hx hb d_Mo_at_14 (by decide) (fun c_2 => absurd c_2 (by decide)) (fun _ => ?_)
    refine lv_iconst (v := 0) hx hb d_Mo_at_17 (by decide) ?_
    exact W.iret (v := 0) hx hb hr (v_end hV ⟨by rw [hX]; rfl, by rw [hX]; rfl, hz⟩) hV.2.1.2.2 d_Mo_at_18
  · have hi0 := c_1
    obtain ⟨j, hj, ei⟩ := i_neg hi0
    refine lv_iconst (v := 1) hx hb d_Mo_at_5 (by decide) ?_
    refine lv_goto (tgt := 10) hx hb d_Mo_at_6 (by decide) ?_
    refine lv_iconst (v := 1) hx hb d_Mo_at_10 (by decide) ?_
    refine v_call (va_runV (As := [.int 1, .int 1]) (rest := []) ⟨hx, hb, hml, hown, hts⟩ (c_Mo_asks l G lo _ _ m u1 u2 u3 u4 u5 u6 u7 u8 u9 u10 u11 u12 u13 u14 u15 u16 u17 u18 (.int (nI PB.length)) (.ref oa) th (by simp) 1 1 (by decide) (by decide)) (kwV 2 hts w_co_Mo_asks rfl rfl w_it_Mo w_ml_Mo_132 w_im_Mo_asks w_se_Mo__Mo_asks (by decide +kernel) ⟨(Nat.le_of_ble_eq_true rfl), (Nat.le_of_ble_eq_true rfl)⟩) (u_preV hK hV hn [0] rfl hz 0 rfl rfl) rfl rfl hl.1 rfl (lv_room (Nat.le_of_ble_eq_true rfl)) d_Mo_at_11 ⟨(Nat.le_of_ble_eq_true rfl), (Nat.le_of_ble_eq_true rfl)⟩) hV (fun r9 V9 H locs hp hV hle => ?_)
    obtain ⟨rfl, rfl, hz⟩ := hp
    replace hV := u_back hV hn [0] rfl
    have hV : vS G.1 cls lo s H locs (vU V [(m, eO 8 [.int 0, u1, u2, u3, u4, u5, u6, u7, u8, u9, u10, u11, u12, u13, u14, u15, u16, u17, u18, .int (nI PB.length), .ref oa]), (oa, eI (gI G) 5000 fo)]) := hV
    refine W.eq (g2 := F0 mi 14 ls [.int 1]) rfl ?_
    refine lv_if_ne (tgt := 19) hx hb d_Mo_at_14 (by decide) (fun _ => ?_) (fun c_3 => absurd c_3 (by decide))
    subst ei
    refine lv_iload_n hx hb d_Mo_at_19 rfl (lv_at hl 1 rfl) ?_
    refine lv_aload_n hx hb d_Mo_at_20 rfl (lv_at hl 0 rfl) ?_
    refine u_get hx hb hts inMo hown hK hV hn 0 rfl rfl 19 (by decide) w_fl_Mo_177 rfl rfl d_Mo_at_21 ?_
    refine lv_icmp_ge (tgt := 36) hx hb d_Mo_at_24 (by decide) (fun c_4 => ?_) (fun c_4 => ?_)
    · replace c_4 : PB.length ≤ j := (nI_leI (a := PB.length) (b := j) (by omega) (by omega)).mp c_4
      have hX : atR PB (nI j) = .inr (-1) := by unfold atR; rw [if_neg hi0, if_neg (fun z => absurd ((nI_ltI hj (by omega)).mp z) (by omega))]
      refine lv_iconst (v := (-1)) hx hb d_Mo_at_36 (by decide) ?_
      exact W.iret (v := (-1)) hx hb hr (v_end hV ⟨by rw [hX]; rfl, by rw [hX]; rfl, hz⟩) hV.2.1.2.2 d_Mo_at_37
    · replace c_4 : ¬ PB.length ≤ j := fun z9 => c_4 ((nI_leI (a := PB.length) (b := j) (by omega) (by omega)).mpr z9)
      have hX : atR PB (nI j) = .inr (nI (PB.getD j 0)) := by unfold atR; rw [if_neg hi0, if_pos ((nI_ltI hj (by omega)).mpr (by omega)), nI_clamp hj]
      refine lv_aload_n hx hb d_Mo_at_27 rfl (lv_at hl 0 rfl) ?_
      refine u_get hx hb hts inMo hown hK hV hn 0 rfl rfl 20 (by decide) w_fl_Mo_48 rfl rfl d_Mo_at_28 ?_
      refine lv_iload_n hx hb d_Mo_at_31 rfl (lv_at hl 1 rfl) ?_
      refine u_ialdN hx hb hK hV hn 1 rfl (by omega) (by decide) d_Mo_at_32 ?_
      rw [hO j (by omega)]
      refine lv_goto (tgt := 37) hx hb d_Mo_at_33 (by decide) ?_
      exact W.iret (v := nI (PB.getD j 0)) hx hb hr (v_end hV ⟨by rw [hX]; rfl, by rw [hX]; rfl, hz⟩) hV.2.1.2.2 d_Mo_at_37

set_option maxHeartbeats 4000000 in
set_option maxRecDepth 100000 in
/-- print -/
theorem c_Mo_print (l : Launch) (G : Gx) (lo : Nat) (V : Vw) (sz : Nat) (m oa pa sa la ba : Nat) (u1 u2 u3 u9 u10 u11 u12 u13 u14 u15 u16 u17 u18 : Value) (th : Value) (fo : Nat → Int32) (PB : List Nat) (P sp al bf : Nat → Int32) (Q : Nat → Option PcR) (B S : Nat → Option (Nat × Nat)) (L : List Tri) (hn : [m, oa, pa, sa, la, ba].Nodup) (hM : mpA P Q) (hS : msA sp al B S) (hB9 : mbA bf L) (hL : L.length ≤ 20) : Met l y_Mo_print ws_Mo_print ({ frames := 3, cells := 0, slots := 0, locals := 100 } : Room) (vPre G lo [.ref m] (vU V [(m, eO 8 [th, u1, u2, u3, .ref pa, .ref sa, .ref la, .int (nI L.length), .ref ba, u9, u10, u11, u12, u13, u14, u15, u16, u17, u18, .int (nI PB.length), .ref oa]), (oa, eI (gI G) 5000 fo), (pa, eI (gI G) 1769 P), (sa, eI (gI G) 62 sp), (la, eI (gI G) 62 al), (ba, eI (gI G) 600 bf)]) sz) (vPost G lo (fun r V' k => r = some (.int (nI (prA (Q, B, S, L)).length)) ∧ (∃ f1 : Nat → Int32, V' = vU V [(m, eO 8 [.int 0, u1, u2, u3, .ref pa, .ref sa, .ref la, .int (nI L.length), .ref ba, u9, u10, u11, u12, u13, u14, u15, u16, u17, u18, .int (nI ((prA (Q, B, S, L)).length)), .ref oa]), (oa, eI (gI G) 5000 f1), (pa, eI (gI G) 1769 P), (sa, eI (gI G) 62 sp), (la, eI (gI G) 62 al), (ba, eI (gI G) 600 bf)] ∧ prOk f1 (prA (Q, B, S, L))) ∧ k = sz)) 0 0 (vL lo) := by
  refine vMet (R := RMo) (by decide) rfl (Nat.le_of_ble_eq_true rfl) ?_
  intro pg ev s mi args below meth cd hx hb hr hml hlk hnm hts hown hK hz hV ls hl
  have hl : lv_has ls 2 [(0, .ref m)] := hl
  have hV0 := hV
  obtain ⟨H, hH⟩ : ∃ H, H = s.heap := ⟨_, rfl⟩
  obtain ⟨locs, hlocs⟩ : ∃ locs : List Loc, locs = [] := ⟨_, rfl⟩
  rw [← hH, ← hlocs]
  rw [← hH] at hz
  replace hV : vS G.1 cls lo s H locs (vU V [(m, eO 8 [th, u1, u2, u3, .ref pa, .ref sa, .ref la, .int (nI L.length), .ref ba, u9, u10, u11, u12, u13, u14, u15, u16, u17, u18, .int (nI PB.length), .ref oa]), (oa, eI (gI G) 5000 fo), (pa, eI (gI G) 1769 P), (sa, eI (gI G) 62 sp), (la, eI (gI G) 62 al), (ba, eI (gI G) 600 bf)]) := by rw [hH, hlocs]; exact hV
  clear hH hlocs hV0
  have t1 := prPs_le2 hM 60 (by omega)
  refine lv_aload_n hx hb d_Mo_print_0 rfl (lv_at hl 0 rfl) ?_
  refine lv_iconst (v := 0) hx hb d_Mo_print_1 (by decide) ?_
  refine u_put hx hb hts inMo tyMo tyMo_ok nmMo hown hK hV hn 0 rfl rfl 0 (by decide) w_fl_Mo_51 rfl rfl rfl rfl (Nat.le_of_ble_eq_true rfl) d_Mo_print_2 (fun H locs hV hz9 => ?_)
  have hV : vS G.1 cls lo s H locs (vU V [(m, eO 8 [.int 0, u1, u2, u3, .ref pa, .ref sa, .ref la, .int (nI L.length), .ref ba, u9, u10, u11, u12, u13, u14, u15, u16, u17, u18, .int (nI PB.length), .ref oa]), (oa, eI (gI G) 5000 fo), (pa, eI (gI G) 1769 P), (sa, eI (gI G) 62 sp), (la, eI (gI G) 62 al), (ba, eI (gI G) 600 bf)]) := hV
  replace hz := hz9.trans hz
  refine lv_aload_n hx hb d_Mo_print_5 rfl (lv_at hl 0 rfl) ?_
  refine lv_iconst (v := 0) hx hb d_Mo_print_6 (by decide) ?_
  refine u_put hx hb hts inMo tyMo tyMo_ok nmMo hown hK hV hn 0 rfl rfl 19 (by decide) w_fl_Mo_177 rfl rfl rfl rfl (Nat.le_of_ble_eq_true rfl) d_Mo_print_7 (fun H locs hV hz9 => ?_)
  have hV : vS G.1 cls lo s H locs (vU V [(m, eO 8 [.int 0, u1, u2, u3, .ref pa, .ref sa, .ref la, .int (nI L.length), .ref ba, u9, u10, u11, u12, u13, u14, u15, u16, u17, u18, .int 0, .ref oa]), (oa, eI (gI G) 5000 fo), (pa, eI (gI G) 1769 P), (sa, eI (gI G) 62 sp), (la, eI (gI G) 62 al), (ba, eI (gI G) 600 bf)]) := hV
  replace hz := hz9.trans hz
  refine lv_iconst (v := 1) hx hb d_Mo_print_10 (by decide) ?_
  refine lv_istore_n (lv' := [(1, .int 1), (0, .ref m)]) hx hb d_Mo_print_11 rfl hl (by decide) rfl (fun ls hl => ?_)
  have l3 : ∀ (k : Nat) (i : Nat) (fo : Nat → Int32), L.length - i < k → (i ≤ L.length) → (prOk fo (prPs Q 60 ++ spM B S 61 ++ prTn L i)) → ∀ (H : Heap) (locs : List Loc) (ls : Array Slot), H.size = sz → vS G.1 cls lo s H locs (vU V [(m, eO 8 [.int 0, u1, u2, u3, .ref pa, .ref sa, .ref la, .int (nI L.length), .ref ba, u9, u10, u11, u12, u13, u14, u15, u16, u17, u18, .int (nI ((prPs Q 60 ++ spM B S 61 ++ prTn L i).length)), .ref oa]), (oa, eI (gI G) 5000 fo), (pa, eI (gI G) 1769 P), (sa, eI (gI G) 62 sp), (la, eI (gI G) 62 al), (ba, eI (gI G) 600 bf)]) → lv_has ls 2 [(0, .ref m), (1, .int (nI i))] → W pg l ev ({ frames := 3, cells := 0, slots := 0, locals := 100 } : Room) s mi args below meth cd H locs 0 0 (MQ below (vPost G lo (fun r V' k => r = some (.int (nI (prA (Q, B, S, L)).length)) ∧ (∃ f1 : Nat → Int32, V' = vU V [(m, eO 8 [.int 0, u1, u2, u3, .ref pa, .ref sa, .ref la, .int (nI L.length), .ref ba, u9, u10, u11, u12, u13, u14, u15, u16, u17, u18, .int (nI ((prA (Q, B, S, L)).length)), .ref oa]), (oa, eI (gI G) 5000 f1), (pa, eI (gI G) 1769 P), (sa, eI (gI G) 62 sp), (la, eI (gI G) 62 al), (ba, eI (gI G) 600 bf)] ∧ prOk f1 (prA (Q, B, S, L))) ∧ k = sz)) args s 0 0 (vL lo)) (F0 mi 116 ls []) := by
    intro k
    induction k with
    | zero => intro i fo hk; exact absurd hk (by omega)
    | succ k ih =>
      intro i fo hk hi hO H locs ls hz hV hl
      refine lv_iload_n hx hb d_Mo_print_116 rfl (lv_at hl 1 rfl) ?_
      refine lv_aload_n hx hb d_Mo_print_117 rfl (lv_at hl 0 rfl) ?_
      refine u_get hx hb hts inMo hown hK hV hn 0 rfl rfl 7 (by decide) w_fl_Mo_111 rfl rfl d_Mo_print_118 ?_
      refine lv_icmp_ge (tgt := 182) hx hb d_Mo_print_121 (by decide) (fun c_1 => ?_) (fun c_1 => ?_)
      · replace c_1 : L.length ≤ i := (nI_leI (a := L.length) (b := i) (by omega) (by omega)).mp c_1
        have eA : prPs Q 60 ++ spM B S 61 ++ prTn L i = prA (Q, B, S, L) := by rw [show i = L.length by omega, spM_hi (by decide)]; simp only [prA, List.append_assoc]
        rw [eA] at hV hO
        refine lv_aload_n hx hb d_Mo_print_182 rfl (lv_at hl 0 rfl) ?_
        refine u_get hx hb hts inMo hown hK hV hn 0 rfl rfl 19 (by decide) w_fl_Mo_177 rfl rfl d_Mo_print_183 ?_
        exact W.iret (v := nI ((prA (Q, B, S, L)).length)) hx hb hr (v_end hV ⟨rfl, ⟨fo, rfl, hO⟩, hz⟩) hV.2.1.2.2 d_Mo_print_186
      · replace c_1 : ¬ L.length ≤ i := fun z9 => c_1 ((nI_leI (a := L.length) (b := i) (by omega) (by omega)).mpr z9)
        obtain ⟨o1, o2, o3, o4, o5, o6⟩ := hB9 i (by omega)
        have hle9 := prT_le hB9 (i + 1) (by omega)
        simp only [prTn, List.length_append, List.length_singleton] at hle9
        have hle8 := spM_le hS (k := 61) (by omega)
        refine lv_aload_n hx hb d_Mo_print_124 rfl (lv_at hl 0 rfl) ?_
        refine lv_bipush (v := 120) hx hb d_Mo_print_125 (by decide) ?_
        refine lv_aload_n hx hb d_Mo_print_127 rfl (lv_at hl 0 rfl) ?_
        refine u_get hx hb hts inMo hown hK hV hn 0 rfl rfl 8 (by decide) w_fl_Mo_26 rfl rfl d_Mo_print_128 ?_
        refine lv_iconst (v := 3) hx hb d_Mo_print_131 (by decide) ?_
        refine lv_iload_n hx hb d_Mo_print_132 rfl (lv_at hl 1 rfl) ?_
        refine e_imul (v := nI (3 * i)) hx hb d_Mo_print_133 (nI_mul 3 i) ?_
        refine u_ialdN hx hb hK hV hn 5 rfl (by omega) (by decide) d_Mo_print_134 ?_
        rw [o1]
        refine v_call (va_runV (As := [.int 120, .int (nI ((L.getD i z3).1))]) (rest := []) ⟨hx, hb, hml, hown, hts⟩ (c_Mo_putNumber l G lo _ _ m oa (.int 0) u1 u2 u3 (.ref pa) (.ref sa) (.ref la) (.int (nI L.length)) (.ref ba) u9 u10 u11 u12 u13 u14 u15 u16 u17 u18 fo (prPs Q 60 ++ spM B S 61 ++ prTn L i) (nd_sub hn [0, 1] (by decide) rfl) hO 120 ((L.getD i z3).1) (by omega) (by (try simp only [List.length_append, List.length_singleton]); omega)) (kwV 2 hts w_co_Mo_putNumber rfl rfl w_it_Mo w_ml_Mo_183 w_im_Mo_putNumber w_se_Mo__Mo_putNumber (by decide +kernel) ⟨(Nat.le_of_ble_eq_true rfl), (Nat.le_of_ble_eq_true rfl)⟩) (u_preV hK hV hn [0, 1] rfl hz 0 rfl rfl) rfl rfl hl.1 rfl (lv_room (Nat.le_of_ble_eq_true rfl)) d_Mo_print_135 ⟨(Nat.le_of_ble_eq_true rfl), (Nat.le_of_ble_eq_true rfl)⟩) hV (fun r9 V9 H locs hp hV hle => ?_)
        obtain ⟨rfl, ⟨g_2, rfl, hO_g_2⟩, hz⟩ := hp
        replace hV := u_back hV hn [0, 1] rfl
        have hV : vS G.1 cls lo s H locs (vU V [(m, eO 8 [.int 0, u1, u2, u3, .ref pa, .ref sa, .ref la, .int (nI L.length), .ref ba, u9, u10, u11, u12, u13, u14, u15, u16, u17, u18, .int (nI ((prPs Q 60 ++ spM B S 61 ++ prTn L i ++ pN 120 ((L.getD i z3).1)).length)), .ref oa]), (oa, eI (gI G) 5000 g_2), (pa, eI (gI G) 1769 P), (sa, eI (gI G) 62 sp), (la, eI (gI G) 62 al), (ba, eI (gI G) 600 bf)]) := hV
        refine lv_aload_n hx hb d_Mo_print_138 rfl (lv_at hl 0 rfl) ?_
        refine lv_bipush (v := 45) hx hb d_Mo_print_139 (by decide) ?_
        refine lv_aload_n hx hb d_Mo_print_141 rfl (lv_at hl 0 rfl) ?_
        refine u_get hx hb hts inMo hown hK hV hn 0 rfl rfl 8 (by decide) w_fl_Mo_26 rfl rfl d_Mo_print_142 ?_
        refine lv_iconst (v := 3) hx hb d_Mo_print_145 (by decide) ?_
        refine lv_iload_n hx hb d_Mo_print_146 rfl (lv_at hl 1 rfl) ?_
        refine e_imul (v := nI (3 * i)) hx hb d_Mo_print_147 (nI_mul 3 i) ?_
        refine lv_iconst (v := 1) hx hb d_Mo_print_148 (by decide) ?_
        refine e_iadd (v := nI (3 * i + 1)) hx hb d_Mo_print_149 (nI_add (3 * i) 1) ?_
        refine u_ialdN hx hb hK hV hn 5 rfl (by omega) (by decide) d_Mo_print_150 ?_
        rw [o2]
        refine v_call (va_runV (As := [.int 45, .int (nI ((L.getD i z3).2.1))]) (rest := []) ⟨hx, hb, hml, hown, hts⟩ (c_Mo_putNumber l G lo _ _ m oa (.int 0) u1 u2 u3 (.ref pa) (.ref sa) (.ref la) (.int (nI L.length)) (.ref ba) u9 u10 u11 u12 u13 u14 u15 u16 u17 u18 g_2 (prPs Q 60 ++ spM B S 61 ++ prTn L i ++ pN 120 ((L.getD i z3).1)) (nd_sub hn [0, 1] (by decide) rfl) hO_g_2 45 ((L.getD i z3).2.1) (by omega) (by (try simp only [List.length_append, List.length_singleton]); omega)) (kwV 2 hts w_co_Mo_putNumber rfl rfl w_it_Mo w_ml_Mo_183 w_im_Mo_putNumber w_se_Mo__Mo_putNumber (by decide +kernel) ⟨(Nat.le_of_ble_eq_true rfl), (Nat.le_of_ble_eq_true rfl)⟩) (u_preV hK hV hn [0, 1] rfl hz 0 rfl rfl) rfl rfl hl.1 rfl (lv_room (Nat.le_of_ble_eq_true rfl)) d_Mo_print_151 ⟨(Nat.le_of_ble_eq_true rfl), (Nat.le_of_ble_eq_true rfl)⟩) hV (fun r9 V9 H locs hp hV hle => ?_)
        obtain ⟨rfl, ⟨g_3, rfl, hO_g_3⟩, hz⟩ := hp
        replace hV := u_back hV hn [0, 1] rfl
        have hV : vS G.1 cls lo s H locs (vU V [(m, eO 8 [.int 0, u1, u2, u3, .ref pa, .ref sa, .ref la, .int (nI L.length), .ref ba, u9, u10, u11, u12, u13, u14, u15, u16, u17, u18, .int (nI ((prPs Q 60 ++ spM B S 61 ++ prTn L i ++ pN 120 ((L.getD i z3).1) ++ pN 45 ((L.getD i z3).2.1)).length)), .ref oa]), (oa, eI (gI G) 5000 g_3), (pa, eI (gI G) 1769 P), (sa, eI (gI G) 62 sp), (la, eI (gI G) 62 al), (ba, eI (gI G) 600 bf)]) := hV
        refine lv_aload_n hx hb d_Mo_print_154 rfl (lv_at hl 0 rfl) ?_
        refine lv_bipush (v := 45) hx hb d_Mo_print_155 (by decide) ?_
        refine lv_aload_n hx hb d_Mo_print_157 rfl (lv_at hl 0 rfl) ?_
        refine u_get hx hb hts inMo hown hK hV hn 0 rfl rfl 8 (by decide) w_fl_Mo_26 rfl rfl d_Mo_print_158 ?_
        refine lv_iconst (v := 3) hx hb d_Mo_print_161 (by decide) ?_
        refine lv_iload_n hx hb d_Mo_print_162 rfl (lv_at hl 1 rfl) ?_
        refine e_imul (v := nI (3 * i)) hx hb d_Mo_print_163 (nI_mul 3 i) ?_
        refine lv_iconst (v := 2) hx hb d_Mo_print_164 (by decide) ?_
        refine e_iadd (v := nI (3 * i + 2)) hx hb d_Mo_print_165 (nI_add (3 * i) 2) ?_
        refine u_ialdN hx hb hK hV hn 5 rfl (by omega) (by decide) d_Mo_print_166 ?_
        rw [o3]
        refine v_call (va_runV (As := [.int 45, .int (nI ((L.getD i z3).2.2))]) (rest := []) ⟨hx, hb, hml, hown, hts⟩ (c_Mo_putNumber l G lo _ _ m oa (.int 0) u1 u2 u3 (.ref pa) (.ref sa) (.ref la) (.int (nI L.length)) (.ref ba) u9 u10 u11 u12 u13 u14 u15 u16 u17 u18 g_3 (prPs Q 60 ++ spM B S 61 ++ prTn L i ++ pN 120 ((L.getD i z3).1) ++ pN 45 ((L.getD i z3).2.1)) (nd_sub hn [0, 1] (by decide) rfl) hO_g_3 45 ((L.getD i z3).2.2) (by omega) (by (try simp only [List.length_append, List.length_singleton]); omega)) (kwV 2 hts w_co_Mo_putNumber rfl rfl w_it_Mo w_ml_Mo_183 w_im_Mo_putNumber w_se_Mo__Mo_putNumber (by decide +kernel) ⟨(Nat.le_of_ble_eq_true rfl), (Nat.le_of_ble_eq_true rfl)⟩) (u_preV hK hV hn [0, 1] rfl hz 0 rfl rfl) rfl rfl hl.1 rfl (lv_room (Nat.le_of_ble_eq_true rfl)) d_Mo_print_167 ⟨(Nat.le_of_ble_eq_true rfl), (Nat.le_of_ble_eq_true rfl)⟩) hV (fun r9 V9 H locs hp hV hle => ?_)
        obtain ⟨rfl, ⟨g_4, rfl, hO_g_4⟩, hz⟩ := hp
        replace hV := u_back hV hn [0, 1] rfl
        have hV : vS G.1 cls lo s H locs (vU V [(m, eO 8 [.int 0, u1, u2, u3, .ref pa, .ref sa, .ref la, .int (nI L.length), .ref ba, u9, u10, u11, u12, u13, u14, u15, u16, u17, u18, .int (nI ((prPs Q 60 ++ spM B S 61 ++ prTn L i ++ pN 120 ((L.getD i z3).1) ++ pN 45 ((L.getD i z3).2.1) ++ pN 45 ((L.getD i z3).2.2)).length)), .ref oa]), (oa, eI (gI G) 5000 g_4), (pa, eI (gI G) 1769 P), (sa, eI (gI G) 62 sp), (la, eI (gI G) 62 al), (ba, eI (gI G) 600 bf)]) := hV
        refine lv_aload_n hx hb d_Mo_print_170 rfl (lv_at hl 0 rfl) ?_
        refine lv_bipush (v := 59) hx hb d_Mo_print_171 (by decide) ?_
        refine v_call (va_runV (As := [.int 59]) (rest := []) ⟨hx, hb, hml, hown, hts⟩ (c_Mo_put l G lo _ _ m oa (.int 0) u1 u2 u3 (.ref pa) (.ref sa) (.ref la) (.int (nI L.length)) (.ref ba) u9 u10 u11 u12 u13 u14 u15 u16 u17 u18 g_4 (prPs Q 60 ++ spM B S 61 ++ prTn L i ++ pN 120 ((L.getD i z3).1) ++ pN 45 ((L.getD i z3).2.1) ++ pN 45 ((L.getD i z3).2.2)) (nd_sub hn [0, 1] (by decide) rfl) hO_g_4 59 (by (try simp only [List.length_append, List.length_singleton]); omega)) (kwV 1 hts w_co_Mo_put rfl rfl w_it_Mo w_ml_Mo_180 w_im_Mo_put w_se_Mo__Mo_put (by decide +kernel) ⟨(Nat.le_of_ble_eq_true rfl), (Nat.le_of_ble_eq_true rfl)⟩) (u_preV hK hV hn [0, 1] rfl hz 0 rfl rfl) rfl rfl hl.1 rfl (lv_room (Nat.le_of_ble_eq_true rfl)) d_Mo_print_173 ⟨(Nat.le_of_ble_eq_true rfl), (Nat.le_of_ble_eq_true rfl)⟩) hV (fun r9 V9 H locs hp hV hle => ?_)
        obtain ⟨rfl, ⟨g_5, rfl, hO_g_5⟩, hz⟩ := hp
        replace hV := u_back hV hn [0, 1] rfl
        have hV : vS G.1 cls lo s H locs (vU V [(m, eO 8 [.int 0, u1, u2, u3, .ref pa, .ref sa, .ref la, .int (nI L.length), .ref ba, u9, u10, u11, u12, u13, u14, u15, u16, u17, u18, .int (nI ((prPs Q 60 ++ spM B S 61 ++ prTn L i ++ pN 120 ((L.getD i z3).1) ++ pN 45 ((L.getD i z3).2.1) ++ pN 45 ((L.getD i z3).2.2) ++ [59]).length)), .ref oa]), (oa, eI (gI G) 5000 g_5), (pa, eI (gI G) 1769 P), (sa, eI (gI G) 62 sp), (la, eI (gI G) 62 al), (ba, eI (gI G) 600 bf)]) := hV
        have eP : prPs Q 60 ++ spM B S 61 ++ prTn L i ++ pN 120 ((L.getD i z3).1) ++ pN 45 ((L.getD i z3).2.1) ++ pN 45 ((L.getD i z3).2.2) ++ [59] = prPs Q 60 ++ spM B S 61 ++ prTn L (i + 1) := by simp only [prTn, List.append_assoc]
        rw [eP] at hV hO_g_5
        refine lv_iinc (v := nI (i + 1)) (lv' := [(1, .int (nI (i + 1))), (0, .ref m)]) hx hb d_Mo_print_176 hl (k := 1) rfl (nI_add i 1) (by decide) rfl (fun ls hl => ?_)
        refine lv_goto (tgt := 116) hx hb d_Mo_print_179 (by decide) ?_
        exact ih (i + 1) g_5 (by omega) (by omega) hO_g_5 H locs ls hz hV (lv_sub hl [1, 0] rfl)
  have l2 : ∀ (k : Nat) (i : Nat) (fo : Nat → Int32), 61 - i < k → (i ≤ 61) → (prOk fo (prPs Q 60 ++ spM B S i)) → ∀ (H : Heap) (locs : List Loc) (ls : Array Slot), H.size = sz → vS G.1 cls lo s H locs (vU V [(m, eO 8 [.int 0, u1, u2, u3, .ref pa, .ref sa, .ref la, .int (nI L.length), .ref ba, u9, u10, u11, u12, u13, u14, u15, u16, u17, u18, .int (nI ((prPs Q 60 ++ spM B S i).length)), .ref oa]), (oa, eI (gI G) 5000 fo), (pa, eI (gI G) 1769 P), (sa, eI (gI G) 62 sp), (la, eI (gI G) 62 al), (ba, eI (gI G) 600 bf)]) → lv_has ls 2 [(0, .ref m), (1, .int (nI (i + 1)))] → W pg l ev ({ frames := 3, cells := 0, slots := 0, locals := 100 } : Room) s mi args below meth cd H locs 0 0 (MQ below (vPost G lo (fun r V' k => r = some (.int (nI (prA (Q, B, S, L)).length)) ∧ (∃ f1 : Nat → Int32, V' = vU V [(m, eO 8 [.int 0, u1, u2, u3, .ref pa, .ref sa, .ref la, .int (nI L.length), .ref ba, u9, u10, u11, u12, u13, u14, u15, u16, u17, u18, .int (nI ((prA (Q, B, S, L)).length)), .ref oa]), (oa, eI (gI G) 5000 f1), (pa, eI (gI G) 1769 P), (sa, eI (gI G) 62 sp), (la, eI (gI G) 62 al), (ba, eI (gI G) 600 bf)] ∧ prOk f1 (prA (Q, B, S, L))) ∧ k = sz)) args s 0 0 (vL lo)) (F0 mi 39 ls []) := by
    intro k
    induction k with
    | zero => intro i fo hk; exact absurd hk (by omega)
    | succ k ih =>
      intro i fo hk hi hO H locs ls hz hV hl
      refine lv_iload_n hx hb d_Mo_print_39 rfl (lv_at hl 1 rfl) ?_
      refine lv_bipush (v := 62) hx hb d_Mo_print_40 (by decide) ?_
      refine lv_icmp_ge (tgt := 114) hx hb d_Mo_print_42 (by decide) (fun c_6 => ?_) (fun c_6 => ?_)
      · replace c_6 : 62 ≤ i + 1 := (nI_leI (a := 62) (b := i + 1) (by omega) (by omega)).mp c_6
        refine lv_iconst (v := 0) hx hb d_Mo_print_114 (by decide) ?_
        refine lv_istore_n (lv' := [(1, .int 0), (0, .ref m)]) hx hb d_Mo_print_115 rfl hl (by decide) rfl (fun ls hl => ?_)
        have e61 : prPs Q 60 ++ spM B S i = prPs Q 60 ++ spM B S 61 ++ prTn L 0 := by rw [show i = 61 by omega]; exact (List.append_nil _).symm
        rw [e61] at hV hO
        exact l3 (L.length + 1) 0 fo (by omega) (by omega) hO H locs ls hz hV (lv_sub hl [1, 0] rfl)
      · replace c_6 : ¬ 62 ≤ i + 1 := fun z9 => c_6 ((nI_leI (a := 62) (b := i + 1) (by omega) (by omega)).mpr z9)
        have hle8 := spM_le hS (k := i) (by omega)
        rcases msA_k hS (k := i + 1) (by omega) (by omega) with ⟨h0, ho9⟩ | ⟨x9, y9, h0, h01, ho9, hx1, hx2, hy2⟩
        · rw [← spM_n (B := B) (S := S) (i := i) (by omega) ho9] at hV hO
          refine lv_aload_n hx hb d_Mo_print_45 rfl (lv_at hl 0 rfl) ?_
          refine u_get hx hb hts inMo hown hK hV hn 0 rfl rfl 5 (by decide) w_fl_Mo_20 rfl rfl d_Mo_print_46 ?_
          refine lv_iload_n hx hb d_Mo_print_49 rfl (lv_at hl 1 rfl) ?_
          refine u_ialdN hx hb hK hV hn 3 rfl (by omega) (by decide) d_Mo_print_50 ?_
          rw [h0]
          refine lv_if_ne (tgt := 57) hx hb d_Mo_print_51 (by decide) (fun c_7 => absurd c_7 (by decide)) (fun _ => ?_)
          refine lv_goto (tgt := 108) hx hb d_Mo_print_54 (by decide) ?_
          refine lv_iinc (v := nI (i + 2)) (lv' := [(1, .int (nI (i + 2))), (0, .ref m)]) hx hb d_Mo_print_108 hl (k := 1) rfl (nI_add (i + 1) 1) (by decide) rfl (fun ls hl => ?_)
          refine lv_goto (tgt := 39) hx hb d_Mo_print_111 (by decide) ?_
          exact ih (i + 1) fo (by omega) (by omega) hO H locs ls hz hV (lv_sub hl [1, 0] rfl)
        · have p1 := pN_le2 (c := spC (i + 1)) (v := (i + 1) % 31) (by omega)
          have p2 := pN_le2 (c := 64) (v := x9) (by omega)
          have p3 := pN_le4 43 y9
          refine lv_aload_n hx hb d_Mo_print_45 rfl (lv_at hl 0 rfl) ?_
          refine u_get hx hb hts inMo hown hK hV hn 0 rfl rfl 5 (by decide) w_fl_Mo_20 rfl rfl d_Mo_print_46 ?_
          refine lv_iload_n hx hb d_Mo_print_49 rfl (lv_at hl 1 rfl) ?_
          refine u_ialdN hx hb hK hV hn 3 rfl (by omega) (by decide) d_Mo_print_50 ?_
          rw [h0]
          refine lv_if_ne (tgt := 57) hx hb d_Mo_print_51 (by decide) (fun c_8 => ?_) (fun c_8 => absurd c_8 (fun z => absurd ((nI_eq (a := x9) (b := 0) (by omega) (by decide)).mp z) (by omega)))
          replace c_8 : ¬ x9 = 0 := fun z9 => c_8 ((nI_eq (a := x9) (b := 0) (by omega) (by omega)).mpr z9)
          refine lv_aload_n hx hb d_Mo_print_57 rfl (lv_at hl 0 rfl) ?_
          refine lv_iload_n hx hb d_Mo_print_58 rfl (lv_at hl 1 rfl) ?_
          refine lv_bipush (v := 31) hx hb d_Mo_print_59 (by decide) ?_
          refine lv_icmp_ge (tgt := 69) hx hb d_Mo_print_61 (by decide) (fun c_9 => ?_) (fun c_9 => ?_)
          · replace c_9 : 31 ≤ i + 1 := (nI_leI (a := 31) (b := i + 1) (by omega) (by omega)).mp c_9
            have eC : spC (i + 1) = 115 := if_neg (by omega)
            refine lv_bipush (v := 115) hx hb d_Mo_print_69 (by decide) ?_
            refine lv_iload_n hx hb d_Mo_print_71 rfl (lv_at hl 1 rfl) ?_
            refine lv_bipush (v := 31) hx hb d_Mo_print_72 (by decide) ?_
            refine e_irem (v := nI ((i + 1) % 31)) hx hb d_Mo_print_74 (by decide) (nI_rem (b := 31) (by omega) (by decide)) ?_
            rw [eC] at p1
            refine v_call (va_runV (As := [.int 115, .int (nI ((i + 1) % 31))]) (rest := []) ⟨hx, hb, hml, hown, hts⟩ (c_Mo_putNumber l G lo _ _ m oa (.int 0) u1 u2 u3 (.ref pa) (.ref sa) (.ref la) (.int (nI L.length)) (.ref ba) u9 u10 u11 u12 u13 u14 u15 u16 u17 u18 fo (prPs Q 60 ++ spM B S i) (nd_sub hn [0, 1] (by decide) rfl) hO 115 ((i + 1) % 31) (by omega) (by (try simp only [List.length_append, List.length_singleton]); omega)) (kwV 2 hts w_co_Mo_putNumber rfl rfl w_it_Mo w_ml_Mo_183 w_im_Mo_putNumber w_se_Mo__Mo_putNumber (by decide +kernel) ⟨(Nat.le_of_ble_eq_true rfl), (Nat.le_of_ble_eq_true rfl)⟩) (u_preV hK hV hn [0, 1] rfl hz 0 rfl rfl) rfl rfl hl.1 rfl (lv_room (Nat.le_of_ble_eq_true rfl)) d_Mo_print_75 ⟨(Nat.le_of_ble_eq_true rfl), (Nat.le_of_ble_eq_true rfl)⟩) hV (fun r9 V9 H locs hp hV hle => ?_)
            obtain ⟨rfl, ⟨g_10, rfl, hO_g_10⟩, hz⟩ := hp
            replace hV := u_back hV hn [0, 1] rfl
            have hV : vS G.1 cls lo s H locs (vU V [(m, eO 8 [.int 0, u1, u2, u3, .ref pa, .ref sa, .ref la, .int (nI L.length), .ref ba, u9, u10, u11, u12, u13, u14, u15, u16, u17, u18, .int (nI ((prPs Q 60 ++ spM B S i ++ pN 115 ((i + 1) % 31)).length)), .ref oa]), (oa, eI (gI G) 5000 g_10), (pa, eI (gI G) 1769 P), (sa, eI (gI G) 62 sp), (la, eI (gI G) 62 al), (ba, eI (gI G) 600 bf)]) := hV
            refine lv_aload_n hx hb d_Mo_print_78 rfl (lv_at hl 0 rfl) ?_
            refine lv_bipush (v := 64) hx hb d_Mo_print_79 (by decide) ?_
            refine lv_aload_n hx hb d_Mo_print_81 rfl (lv_at hl 0 rfl) ?_
            refine u_get hx hb hts inMo hown hK hV hn 0 rfl rfl 5 (by decide) w_fl_Mo_20 rfl rfl d_Mo_print_82 ?_
            refine lv_iload_n hx hb d_Mo_print_85 rfl (lv_at hl 1 rfl) ?_
            refine u_ialdN hx hb hK hV hn 3 rfl (by omega) (by decide) d_Mo_print_86 ?_
            rw [h0]
            refine v_call (va_runV (As := [.int 64, .int (nI x9)]) (rest := []) ⟨hx, hb, hml, hown, hts⟩ (c_Mo_putNumber l G lo _ _ m oa (.int 0) u1 u2 u3 (.ref pa) (.ref sa) (.ref la) (.int (nI L.length)) (.ref ba) u9 u10 u11 u12 u13 u14 u15 u16 u17 u18 g_10 (prPs Q 60 ++ spM B S i ++ pN 115 ((i + 1) % 31)) (nd_sub hn [0, 1] (by decide) rfl) hO_g_10 64 x9 (by omega) (by (try simp only [List.length_append, List.length_singleton]); omega)) (kwV 2 hts w_co_Mo_putNumber rfl rfl w_it_Mo w_ml_Mo_183 w_im_Mo_putNumber w_se_Mo__Mo_putNumber (by decide +kernel) ⟨(Nat.le_of_ble_eq_true rfl), (Nat.le_of_ble_eq_true rfl)⟩) (u_preV hK hV hn [0, 1] rfl hz 0 rfl rfl) rfl rfl hl.1 rfl (lv_room (Nat.le_of_ble_eq_true rfl)) d_Mo_print_87 ⟨(Nat.le_of_ble_eq_true rfl), (Nat.le_of_ble_eq_true rfl)⟩) hV (fun r9 V9 H locs hp hV hle => ?_)
            obtain ⟨rfl, ⟨g_11, rfl, hO_g_11⟩, hz⟩ := hp
            replace hV := u_back hV hn [0, 1] rfl
            have hV : vS G.1 cls lo s H locs (vU V [(m, eO 8 [.int 0, u1, u2, u3, .ref pa, .ref sa, .ref la, .int (nI L.length), .ref ba, u9, u10, u11, u12, u13, u14, u15, u16, u17, u18, .int (nI ((prPs Q 60 ++ spM B S i ++ pN 115 ((i + 1) % 31) ++ pN 64 x9).length)), .ref oa]), (oa, eI (gI G) 5000 g_11), (pa, eI (gI G) 1769 P), (sa, eI (gI G) 62 sp), (la, eI (gI G) 62 al), (ba, eI (gI G) 600 bf)]) := hV
            refine lv_aload_n hx hb d_Mo_print_90 rfl (lv_at hl 0 rfl) ?_
            refine lv_bipush (v := 43) hx hb d_Mo_print_91 (by decide) ?_
            refine lv_aload_n hx hb d_Mo_print_93 rfl (lv_at hl 0 rfl) ?_
            refine u_get hx hb hts inMo hown hK hV hn 0 rfl rfl 6 (by decide) w_fl_Mo_23 rfl rfl d_Mo_print_94 ?_
            refine lv_iload_n hx hb d_Mo_print_97 rfl (lv_at hl 1 rfl) ?_
            refine u_ialdN hx hb hK hV hn 4 rfl (by omega) (by decide) d_Mo_print_98 ?_
            rw [h01]
            refine v_call (va_runV (As := [.int 43, .int (nI y9)]) (rest := []) ⟨hx, hb, hml, hown, hts⟩ (c_Mo_putNumber l G lo _ _ m oa (.int 0) u1 u2 u3 (.ref pa) (.ref sa) (.ref la) (.int (nI L.length)) (.ref ba) u9 u10 u11 u12 u13 u14 u15 u16 u17 u18 g_11 (prPs Q 60 ++ spM B S i ++ pN 115 ((i + 1) % 31) ++ pN 64 x9) (nd_sub hn [0, 1] (by decide) rfl) hO_g_11 43 y9 (by omega) (by (try simp only [List.length_append, List.length_singleton]); omega)) (kwV 2 hts w_co_Mo_putNumber rfl rfl w_it_Mo w_ml_Mo_183 w_im_Mo_putNumber w_se_Mo__Mo_putNumber (by decide +kernel) ⟨(Nat.le_of_ble_eq_true rfl), (Nat.le_of_ble_eq_true rfl)⟩) (u_preV hK hV hn [0, 1] rfl hz 0 rfl rfl) rfl rfl hl.1 rfl (lv_room (Nat.le_of_ble_eq_true rfl)) d_Mo_print_99 ⟨(Nat.le_of_ble_eq_true rfl), (Nat.le_of_ble_eq_true rfl)⟩) hV (fun r9 V9 H locs hp hV hle => ?_)
            obtain ⟨rfl, ⟨g_12, rfl, hO_g_12⟩, hz⟩ := hp
            replace hV := u_back hV hn [0, 1] rfl
            have hV : vS G.1 cls lo s H locs (vU V [(m, eO 8 [.int 0, u1, u2, u3, .ref pa, .ref sa, .ref la, .int (nI L.length), .ref ba, u9, u10, u11, u12, u13, u14, u15, u16, u17, u18, .int (nI ((prPs Q 60 ++ spM B S i ++ pN 115 ((i + 1) % 31) ++ pN 64 x9 ++ pN 43 y9).length)), .ref oa]), (oa, eI (gI G) 5000 g_12), (pa, eI (gI G) 1769 P), (sa, eI (gI G) 62 sp), (la, eI (gI G) 62 al), (ba, eI (gI G) 600 bf)]) := hV
            refine lv_aload_n hx hb d_Mo_print_102 rfl (lv_at hl 0 rfl) ?_
            refine lv_bipush (v := 59) hx hb d_Mo_print_103 (by decide) ?_
            refine v_call (va_runV (As := [.int 59]) (rest := []) ⟨hx, hb, hml, hown, hts⟩ (c_Mo_put l G lo _ _ m oa (.int 0) u1 u2 u3 (.ref pa) (.ref sa) (.ref la) (.int (nI L.length)) (.ref ba) u9 u10 u11 u12 u13 u14 u15 u16 u17 u18 g_12 (prPs Q 60 ++ spM B S i ++ pN 115 ((i + 1) % 31) ++ pN 64 x9 ++ pN 43 y9) (nd_sub hn [0, 1] (by decide) rfl) hO_g_12 59 (by (try simp only [List.length_append, List.length_singleton]); omega)) (kwV 1 hts w_co_Mo_put rfl rfl w_it_Mo w_ml_Mo_180 w_im_Mo_put w_se_Mo__Mo_put (by decide +kernel) ⟨(Nat.le_of_ble_eq_true rfl), (Nat.le_of_ble_eq_true rfl)⟩) (u_preV hK hV hn [0, 1] rfl hz 0 rfl rfl) rfl rfl hl.1 rfl (lv_room (Nat.le_of_ble_eq_true rfl)) d_Mo_print_105 ⟨(Nat.le_of_ble_eq_true rfl), (Nat.le_of_ble_eq_true rfl)⟩) hV (fun r9 V9 H locs hp hV hle => ?_)
            obtain ⟨rfl, ⟨g_13, rfl, hO_g_13⟩, hz⟩ := hp
            replace hV := u_back hV hn [0, 1] rfl
            have hV : vS G.1 cls lo s H locs (vU V [(m, eO 8 [.int 0, u1, u2, u3, .ref pa, .ref sa, .ref la, .int (nI L.length), .ref ba, u9, u10, u11, u12, u13, u14, u15, u16, u17, u18, .int (nI ((prPs Q 60 ++ spM B S i ++ pN 115 ((i + 1) % 31) ++ pN 64 x9 ++ pN 43 y9 ++ [59]).length)), .ref oa]), (oa, eI (gI G) 5000 g_13), (pa, eI (gI G) 1769 P), (sa, eI (gI G) 62 sp), (la, eI (gI G) 62 al), (ba, eI (gI G) 600 bf)]) := hV
            have eP : prPs Q 60 ++ spM B S i ++ pN 115 ((i + 1) % 31) ++ pN 64 x9 ++ pN 43 y9 ++ [59] = prPs Q 60 ++ spM B S (i + 1) := by rw [spM_s (B := B) (S := S) (i := i) (by omega) ho9, eC]; simp only [List.append_assoc]
            rw [eP] at hV hO_g_13
            refine lv_iinc (v := nI (i + 2)) (lv' := [(1, .int (nI (i + 2))), (0, .ref m)]) hx hb d_Mo_print_108 hl (k := 1) rfl (nI_add (i + 1) 1) (by decide) rfl (fun ls hl => ?_)
            refine lv_goto (tgt := 39) hx hb d_Mo_print_111 (by decide) ?_
            exact ih (i + 1) g_13 (by omega) (by omega) hO_g_13 H locs ls hz hV (lv_sub hl [1, 0] rfl)
          · replace c_9 : ¬ 31 ≤ i + 1 := fun z9 => c_9 ((nI_leI (a := 31) (b := i + 1) (by omega) (by omega)).mpr z9)
            have eC : spC (i + 1) = 104 := if_pos (by omega)
            refine lv_bipush (v := 104) hx hb d_Mo_print_64 (by decide) ?_
            refine lv_goto (tgt := 71) hx hb d_Mo_print_66 (by decide) ?_
            refine lv_iload_n hx hb d_Mo_print_71 rfl (lv_at hl 1 rfl) ?_
            refine lv_bipush (v := 31) hx hb d_Mo_print_72 (by decide) ?_
            refine e_irem (v := nI ((i + 1) % 31)) hx hb d_Mo_print_74 (by decide) (nI_rem (b := 31) (by omega) (by decide)) ?_
            rw [eC] at p1
            refine v_call (va_runV (As := [.int 104, .int (nI ((i + 1) % 31))]) (rest := []) ⟨hx, hb, hml, hown, hts⟩ (c_Mo_putNumber l G lo _ _ m oa (.int 0) u1 u2 u3 (.ref pa) (.ref sa) (.ref la) (.int (nI L.length)) (.ref ba) u9 u10 u11 u12 u13 u14 u15 u16 u17 u18 fo (prPs Q 60 ++ spM B S i) (nd_sub hn [0, 1] (by decide) rfl) hO 104 ((i + 1) % 31) (by omega) (by (try simp only [List.length_append, List.length_singleton]); omega)) (kwV 2 hts w_co_Mo_putNumber rfl rfl w_it_Mo w_ml_Mo_183 w_im_Mo_putNumber w_se_Mo__Mo_putNumber (by decide +kernel) ⟨(Nat.le_of_ble_eq_true rfl), (Nat.le_of_ble_eq_true rfl)⟩) (u_preV hK hV hn [0, 1] rfl hz 0 rfl rfl) rfl rfl hl.1 rfl (lv_room (Nat.le_of_ble_eq_true rfl)) d_Mo_print_75 ⟨(Nat.le_of_ble_eq_true rfl), (Nat.le_of_ble_eq_true rfl)⟩) hV (fun r9 V9 H locs hp hV hle => ?_)
            obtain ⟨rfl, ⟨g_14, rfl, hO_g_14⟩, hz⟩ := hp
            replace hV := u_back hV hn [0, 1] rfl
            have hV : vS G.1 cls lo s H locs (vU V [(m, eO 8 [.int 0, u1, u2, u3, .ref pa, .ref sa, .ref la, .int (nI L.length), .ref ba, u9, u10, u11, u12, u13, u14, u15, u16, u17, u18, .int (nI ((prPs Q 60 ++ spM B S i ++ pN 104 ((i + 1) % 31)).length)), .ref oa]), (oa, eI (gI G) 5000 g_14), (pa, eI (gI G) 1769 P), (sa, eI (gI G) 62 sp), (la, eI (gI G) 62 al), (ba, eI (gI G) 600 bf)]) := hV
            refine lv_aload_n hx hb d_Mo_print_78 rfl (lv_at hl 0 rfl) ?_
            refine lv_bipush (v := 64) hx hb d_Mo_print_79 (by decide) ?_
            refine lv_aload_n hx hb d_Mo_print_81 rfl (lv_at hl 0 rfl) ?_
            refine u_get hx hb hts inMo hown hK hV hn 0 rfl rfl 5 (by decide) w_fl_Mo_20 rfl rfl d_Mo_print_82 ?_
            refine lv_iload_n hx hb d_Mo_print_85 rfl (lv_at hl 1 rfl) ?_
            refine u_ialdN hx hb hK hV hn 3 rfl (by omega) (by decide) d_Mo_print_86 ?_
            rw [h0]
            refine v_call (va_runV (As := [.int 64, .int (nI x9)]) (rest := []) ⟨hx, hb, hml, hown, hts⟩ (c_Mo_putNumber l G lo _ _ m oa (.int 0) u1 u2 u3 (.ref pa) (.ref sa) (.ref la) (.int (nI L.length)) (.ref ba) u9 u10 u11 u12 u13 u14 u15 u16 u17 u18 g_14 (prPs Q 60 ++ spM B S i ++ pN 104 ((i + 1) % 31)) (nd_sub hn [0, 1] (by decide) rfl) hO_g_14 64 x9 (by omega) (by (try simp only [List.length_append, List.length_singleton]); omega)) (kwV 2 hts w_co_Mo_putNumber rfl rfl w_it_Mo w_ml_Mo_183 w_im_Mo_putNumber w_se_Mo__Mo_putNumber (by decide +kernel) ⟨(Nat.le_of_ble_eq_true rfl), (Nat.le_of_ble_eq_true rfl)⟩) (u_preV hK hV hn [0, 1] rfl hz 0 rfl rfl) rfl rfl hl.1 rfl (lv_room (Nat.le_of_ble_eq_true rfl)) d_Mo_print_87 ⟨(Nat.le_of_ble_eq_true rfl), (Nat.le_of_ble_eq_true rfl)⟩) hV (fun r9 V9 H locs hp hV hle => ?_)
            obtain ⟨rfl, ⟨g_15, rfl, hO_g_15⟩, hz⟩ := hp
            replace hV := u_back hV hn [0, 1] rfl
            have hV : vS G.1 cls lo s H locs (vU V [(m, eO 8 [.int 0, u1, u2, u3, .ref pa, .ref sa, .ref la, .int (nI L.length), .ref ba, u9, u10, u11, u12, u13, u14, u15, u16, u17, u18, .int (nI ((prPs Q 60 ++ spM B S i ++ pN 104 ((i + 1) % 31) ++ pN 64 x9).length)), .ref oa]), (oa, eI (gI G) 5000 g_15), (pa, eI (gI G) 1769 P), (sa, eI (gI G) 62 sp), (la, eI (gI G) 62 al), (ba, eI (gI G) 600 bf)]) := hV
            refine lv_aload_n hx hb d_Mo_print_90 rfl (lv_at hl 0 rfl) ?_
            refine lv_bipush (v := 43) hx hb d_Mo_print_91 (by decide) ?_
            refine lv_aload_n hx hb d_Mo_print_93 rfl (lv_at hl 0 rfl) ?_
            refine u_get hx hb hts inMo hown hK hV hn 0 rfl rfl 6 (by decide) w_fl_Mo_23 rfl rfl d_Mo_print_94 ?_
            refine lv_iload_n hx hb d_Mo_print_97 rfl (lv_at hl 1 rfl) ?_
            refine u_ialdN hx hb hK hV hn 4 rfl (by omega) (by decide) d_Mo_print_98 ?_
            rw [h01]
            refine v_call (va_runV (As := [.int 43, .int (nI y9)]) (rest := []) ⟨hx, hb, hml, hown, hts⟩ (c_Mo_putNumber l G lo _ _ m oa (.int 0) u1 u2 u3 (.ref pa) (.ref sa) (.ref la) (.int (nI L.length)) (.ref ba) u9 u10 u11 u12 u13 u14 u15 u16 u17 u18 g_15 (prPs Q 60 ++ spM B S i ++ pN 104 ((i + 1) % 31) ++ pN 64 x9) (nd_sub hn [0, 1] (by decide) rfl) hO_g_15 43 y9 (by omega) (by (try simp only [List.length_append, List.length_singleton]); omega)) (kwV 2 hts w_co_Mo_putNumber rfl rfl w_it_Mo w_ml_Mo_183 w_im_Mo_putNumber w_se_Mo__Mo_putNumber (by decide +kernel) ⟨(Nat.le_of_ble_eq_true rfl), (Nat.le_of_ble_eq_true rfl)⟩) (u_preV hK hV hn [0, 1] rfl hz 0 rfl rfl) rfl rfl hl.1 rfl (lv_room (Nat.le_of_ble_eq_true rfl)) d_Mo_print_99 ⟨(Nat.le_of_ble_eq_true rfl), (Nat.le_of_ble_eq_true rfl)⟩) hV (fun r9 V9 H locs hp hV hle => ?_)
            obtain ⟨rfl, ⟨g_16, rfl, hO_g_16⟩, hz⟩ := hp
            replace hV := u_back hV hn [0, 1] rfl
            have hV : vS G.1 cls lo s H locs (vU V [(m, eO 8 [.int 0, u1, u2, u3, .ref pa, .ref sa, .ref la, .int (nI L.length), .ref ba, u9, u10, u11, u12, u13, u14, u15, u16, u17, u18, .int (nI ((prPs Q 60 ++ spM B S i ++ pN 104 ((i + 1) % 31) ++ pN 64 x9 ++ pN 43 y9).length)), .ref oa]), (oa, eI (gI G) 5000 g_16), (pa, eI (gI G) 1769 P), (sa, eI (gI G) 62 sp), (la, eI (gI G) 62 al), (ba, eI (gI G) 600 bf)]) := hV
            refine lv_aload_n hx hb d_Mo_print_102 rfl (lv_at hl 0 rfl) ?_
            refine lv_bipush (v := 59) hx hb d_Mo_print_103 (by decide) ?_
            refine v_call (va_runV (As := [.int 59]) (rest := []) ⟨hx, hb, hml, hown, hts⟩ (c_Mo_put l G lo _ _ m oa (.int 0) u1 u2 u3 (.ref pa) (.ref sa) (.ref la) (.int (nI L.length)) (.ref ba) u9 u10 u11 u12 u13 u14 u15 u16 u17 u18 g_16 (prPs Q 60 ++ spM B S i ++ pN 104 ((i + 1) % 31) ++ pN 64 x9 ++ pN 43 y9) (nd_sub hn [0, 1] (by decide) rfl) hO_g_16 59 (by (try simp only [List.length_append, List.length_singleton]); omega)) (kwV 1 hts w_co_Mo_put rfl rfl w_it_Mo w_ml_Mo_180 w_im_Mo_put w_se_Mo__Mo_put (by decide +kernel) ⟨(Nat.le_of_ble_eq_true rfl), (Nat.le_of_ble_eq_true rfl)⟩) (u_preV hK hV hn [0, 1] rfl hz 0 rfl rfl) rfl rfl hl.1 rfl (lv_room (Nat.le_of_ble_eq_true rfl)) d_Mo_print_105 ⟨(Nat.le_of_ble_eq_true rfl), (Nat.le_of_ble_eq_true rfl)⟩) hV (fun r9 V9 H locs hp hV hle => ?_)
            obtain ⟨rfl, ⟨g_17, rfl, hO_g_17⟩, hz⟩ := hp
            replace hV := u_back hV hn [0, 1] rfl
            have hV : vS G.1 cls lo s H locs (vU V [(m, eO 8 [.int 0, u1, u2, u3, .ref pa, .ref sa, .ref la, .int (nI L.length), .ref ba, u9, u10, u11, u12, u13, u14, u15, u16, u17, u18, .int (nI ((prPs Q 60 ++ spM B S i ++ pN 104 ((i + 1) % 31) ++ pN 64 x9 ++ pN 43 y9 ++ [59]).length)), .ref oa]), (oa, eI (gI G) 5000 g_17), (pa, eI (gI G) 1769 P), (sa, eI (gI G) 62 sp), (la, eI (gI G) 62 al), (ba, eI (gI G) 600 bf)]) := hV
            have eP : prPs Q 60 ++ spM B S i ++ pN 104 ((i + 1) % 31) ++ pN 64 x9 ++ pN 43 y9 ++ [59] = prPs Q 60 ++ spM B S (i + 1) := by rw [spM_s (B := B) (S := S) (i := i) (by omega) ho9, eC]; simp only [List.append_assoc]
            rw [eP] at hV hO_g_17
            refine lv_iinc (v := nI (i + 2)) (lv' := [(1, .int (nI (i + 2))), (0, .ref m)]) hx hb d_Mo_print_108 hl (k := 1) rfl (nI_add (i + 1) 1) (by decide) rfl (fun ls hl => ?_)
            refine lv_goto (tgt := 39) hx hb d_Mo_print_111 (by decide) ?_
            exact ih (i + 1) g_17 (by omega) (by omega) hO_g_17 H locs ls hz hV (lv_sub hl [1, 0] rfl)
  have l1 : ∀ (k : Nat) (i : Nat) (fo : Nat → Int32), 60 - i < k → (i ≤ 60) → (prOk fo (prPs Q i)) → ∀ (H : Heap) (locs : List Loc) (ls : Array Slot), H.size = sz → vS G.1 cls lo s H locs (vU V [(m, eO 8 [.int 0, u1, u2, u3, .ref pa, .ref sa, .ref la, .int (nI L.length), .ref ba, u9, u10, u11, u12, u13, u14, u15, u16, u17, u18, .int (nI ((prPs Q i).length)), .ref oa]), (oa, eI (gI G) 5000 fo), (pa, eI (gI G) 1769 P), (sa, eI (gI G) 62 sp), (la, eI (gI G) 62 al), (ba, eI (gI G) 600 bf)]) → lv_has ls 2 [(0, .ref m), (1, .int (nI (i + 1)))] → W pg l ev ({ frames := 3, cells := 0, slots := 0, locals := 100 } : Room) s mi args below meth cd H locs 0 0 (MQ below (vPost G lo (fun r V' k => r = some (.int (nI (prA (Q, B, S, L)).length)) ∧ (∃ f1 : Nat → Int32, V' = vU V [(m, eO 8 [.int 0, u1, u2, u3, .ref pa, .ref sa, .ref la, .int (nI L.length), .ref ba, u9, u10, u11, u12, u13, u14, u15, u16, u17, u18, .int (nI ((prA (Q, B, S, L)).length)), .ref oa]), (oa, eI (gI G) 5000 f1), (pa, eI (gI G) 1769 P), (sa, eI (gI G) 62 sp), (la, eI (gI G) 62 al), (ba, eI (gI G) 600 bf)] ∧ prOk f1 (prA (Q, B, S, L))) ∧ k = sz)) args s 0 0 (vL lo)) (F0 mi 12 ls []) := by
    intro k
    induction k with
    | zero => intro i fo hk; exact absurd hk (by omega)
    | succ k ih =>
      intro i fo hk hi hO H locs ls hz hV hl
      refine lv_iload_n hx hb d_Mo_print_12 rfl (lv_at hl 1 rfl) ?_
      refine lv_bipush (v := 61) hx hb d_Mo_print_13 (by decide) ?_
      refine lv_icmp_ge (tgt := 37) hx hb d_Mo_print_15 (by decide) (fun c_18 => ?_) (fun c_18 => ?_)
      · replace c_18 : 61 ≤ i + 1 := (nI_leI (a := 61) (b := i + 1) (by omega) (by omega)).mp c_18
        refine lv_iconst (v := 1) hx hb d_Mo_print_37 (by decide) ?_
        refine lv_istore_n (lv' := [(1, .int 1), (0, .ref m)]) hx hb d_Mo_print_38 rfl hl (by decide) rfl (fun ls hl => ?_)
        have e60 : prPs Q i = prPs Q 60 ++ spM B S 0 := by rw [show i = 60 by omega]; exact (List.append_nil _).symm
        rw [e60] at hV hO
        exact l2 62 0 fo (by omega) (by omega) hO H locs ls hz hV (lv_sub hl [1, 0] rfl)
      · replace c_18 : ¬ 61 ≤ i + 1 := fun z9 => c_18 ((nI_leI (a := 61) (b := i + 1) (by omega) (by omega)).mpr z9)
        refine lv_aload_n hx hb d_Mo_print_18 rfl (lv_at hl 0 rfl) ?_
        refine lv_iload_n hx hb d_Mo_print_19 rfl (lv_at hl 1 rfl) ?_
        refine v_call (va_runV (As := [.int (nI (i + 1))]) (rest := []) ⟨hx, hb, hml, hown, hts⟩ (c_Mo_isPiece l G lo _ _ m pa (.int 0) u1 u2 u3 (.ref sa) (.ref la) (.int (nI L.length)) (.ref ba) u9 u10 u11 u12 u13 u14 u15 u16 u17 u18 (.int (nI ((prPs Q i).length))) (.ref oa) P Q (nd_sub hn [0, 2] (by decide) rfl) hM (nI (i + 1))) (kwV 1 hts w_co_Mo_isPiece rfl rfl w_it_Mo w_ml_Mo_129 w_im_Mo_isPiece w_se_Mo__Mo_isPiece (by decide +kernel) ⟨(Nat.le_of_ble_eq_true rfl), (Nat.le_of_ble_eq_true rfl)⟩) (u_preV hK hV hn [0, 2] rfl hz 0 rfl rfl) rfl rfl hl.1 rfl (lv_room (Nat.le_of_ble_eq_true rfl)) d_Mo_print_20 ⟨(Nat.le_of_ble_eq_true rfl), (Nat.le_of_ble_eq_true rfl)⟩) hV (fun r9 V9 H locs hp hV hle => ?_)
        obtain ⟨rfl, rfl, hz⟩ := hp
        replace hV := uu_same hV hn [0, 2] rfl
        rcases tf ((qF Q (nI (i + 1))).isSome) with d_19 | d_19
        · obtain ⟨R, hQ, hR, hRv⟩ := mpA_s hM (j := i + 1) (by omega) (by omega) d_19
          have hl8 := prPs_le2 hM i (by omega)
          have hl9 := prPc_le hRv (j := i + 1) (by omega)
          have hV : vS G.1 cls lo s H locs (vU V [(m, eO 8 [.int 0, u1, u2, u3, .ref pa, .ref sa, .ref la, .int (nI L.length), .ref ba, u9, u10, u11, u12, u13, u14, u15, u16, u17, u18, .int (nI ((prPs Q i).length)), .ref oa]), (oa, eI (gI G) 5000 fo), (pa, eI (gI G) 1769 P), (sa, eI (gI G) 62 sp), (la, eI (gI G) 62 al), (ba, eI (gI G) 600 bf)]) := hV
          refine W.eq (g2 := F0 mi 23 ls [.int 1]) (by rw [d_19]; rfl) ?_
          refine lv_if_eq (tgt := 31) hx hb d_Mo_print_23 (by decide) (fun c_20 => absurd c_20 (by decide)) (fun _ => ?_)
          refine lv_aload_n hx hb d_Mo_print_26 rfl (lv_at hl 0 rfl) ?_
          refine lv_iload_n hx hb d_Mo_print_27 rfl (lv_at hl 1 rfl) ?_
          refine v_call (va_runV (As := [.int (nI (i + 1))]) (rest := []) ⟨hx, hb, hml, hown, hts⟩ (c_Mo_printPiece l G lo _ _ m oa pa (.int 0) u1 u2 u3 (.ref sa) (.ref la) (.int (nI L.length)) (.ref ba) u9 u10 u11 u12 u13 u14 u15 u16 u17 u18 fo (prPs Q i) P R (nd_sub hn [0, 1, 2] (by decide) rfl) hO (i + 1) (by omega) (by omega) hR hRv (by omega)) (kwV 1 hts w_co_Mo_printPiece rfl rfl w_it_Mo w_ml_Mo_186 w_im_Mo_printPiece w_se_Mo__Mo_printPiece (by decide +kernel) ⟨(Nat.le_of_ble_eq_true rfl), (Nat.le_of_ble_eq_true rfl)⟩) (u_preV hK hV hn [0, 1, 2] rfl hz 0 rfl rfl) rfl rfl hl.1 rfl (lv_room (Nat.le_of_ble_eq_true rfl)) d_Mo_print_28 ⟨(Nat.le_of_ble_eq_true rfl), (Nat.le_of_ble_eq_true rfl)⟩) hV (fun r9 V9 H locs hp hV hle => ?_)
          obtain ⟨rfl, ⟨g_21, rfl, hO_g_21⟩, hz⟩ := hp
          replace hV := u_back hV hn [0, 1, 2] rfl
          have hV : vS G.1 cls lo s H locs (vU V [(m, eO 8 [.int 0, u1, u2, u3, .ref pa, .ref sa, .ref la, .int (nI L.length), .ref ba, u9, u10, u11, u12, u13, u14, u15, u16, u17, u18, .int (nI ((prPs Q i ++ prPc (i + 1) R).length)), .ref oa]), (oa, eI (gI G) 5000 g_21), (pa, eI (gI G) 1769 P), (sa, eI (gI G) 62 sp), (la, eI (gI G) 62 al), (ba, eI (gI G) 600 bf)]) := hV
          rw [← prPs_s hQ] at hV hO_g_21
          have hV : vS G.1 cls lo s H locs (vU V [(m, eO 8 [.int 0, u1, u2, u3, .ref pa, .ref sa, .ref la, .int (nI L.length), .ref ba, u9, u10, u11, u12, u13, u14, u15, u16, u17, u18, .int (nI ((prPs Q (i + 1)).length)), .ref oa]), (oa, eI (gI G) 5000 g_21), (pa, eI (gI G) 1769 P), (sa, eI (gI G) 62 sp), (la, eI (gI G) 62 al), (ba, eI (gI G) 600 bf)]) := hV
          refine lv_iinc (v := nI (i + 2)) (lv' := [(1, .int (nI (i + 2))), (0, .ref m)]) hx hb d_Mo_print_31 hl (k := 1) rfl (nI_add (i + 1) 1) (by decide) rfl (fun ls hl => ?_)
          refine lv_goto (tgt := 12) hx hb d_Mo_print_34 (by decide) ?_
          exact ih (i + 1) g_21 (by omega) (by omega) hO_g_21 H locs ls hz hV (lv_sub hl [1, 0] rfl)
        · have hQ := mpA_n (Q := Q) (j := i + 1) (by omega) (by omega) d_19
          rw [← prPs_n hQ] at hV hO
          have hV : vS G.1 cls lo s H locs (vU V [(m, eO 8 [.int 0, u1, u2, u3, .ref pa, .ref sa, .ref la, .int (nI L.length), .ref ba, u9, u10, u11, u12, u13, u14, u15, u16, u17, u18, .int (nI ((prPs Q (i + 1)).length)), .ref oa]), (oa, eI (gI G) 5000 fo), (pa, eI (gI G) 1769 P), (sa, eI (gI G) 62 sp), (la, eI (gI G) 62 al), (ba, eI (gI G) 600 bf)]) := hV
          refine W.eq (g2 := F0 mi 23 ls [.int 0]) (by rw [d_19]; rfl) ?_
          refine lv_if_eq (tgt := 31) hx hb d_Mo_print_23 (by decide) (fun _ => ?_) (fun c_22 => absurd c_22 (by decide))
          refine lv_iinc (v := nI (i + 2)) (lv' := [(1, .int (nI (i + 2))), (0, .ref m)]) hx hb d_Mo_print_31 hl (k := 1) rfl (nI_add (i + 1) 1) (by decide) rfl (fun ls hl => ?_)
          refine lv_goto (tgt := 12) hx hb d_Mo_print_34 (by decide) ?_
          exact ih (i + 1) fo (by omega) (by omega) hO H locs ls hz hV (lv_sub hl [1, 0] rfl)
  have hV : vS G.1 cls lo s H locs (vU V [(m, eO 8 [.int 0, u1, u2, u3, .ref pa, .ref sa, .ref la, .int (nI L.length), .ref ba, u9, u10, u11, u12, u13, u14, u15, u16, u17, u18, .int (nI ((prPs Q 0).length)), .ref oa]), (oa, eI (gI G) 5000 fo), (pa, eI (gI G) 1769 P), (sa, eI (gI G) 62 sp), (la, eI (gI G) 62 al), (ba, eI (gI G) 600 bf)]) := hV
  exact l1 61 0 fo (by omega) (by omega) (prOk_nil fo) H locs ls hz hV (lv_sub hl [1, 0] rfl)
