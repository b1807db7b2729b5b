theorem spF_in {B : Nat → Option (Nat × Nat)} {j : Nat} (h1 : 1 ≤ j) (h2 : j ≤ 30) : spF B (nI j) = B j := by
  unfold spF
  rw [if_pos ⟨nI_le h1 (by omega), nI_le h2 (by omega)⟩, nI_clamp (by omega)]
theorem spF_out {B : Nat → Option (Nat × Nat)} {x : Int32} (h : inI x (nI 1) (nI 30) = false) : spF B x = none := if_neg (inI_no h)
def spAt (j : Nat) (st : Int32) : Nat := if st = 0 then j else 31 + j
def bsel (st : Int32) (B S : Nat → Option (Nat × Nat)) : Nat → Option (Nat × Nat) := if st = 0 then B else S
theorem msA_at {sp al : Nat → Int32} {B S : Nat → Option (Nat × Nat)} (h : msA sp al B S) (st : Int32) {j : Nat} (h1 : 1 ≤ j) (h2 : j ≤ 30) : (sp (spAt j st) = 0 ∧ bsel st B S j = none) ∨ ∃ x y : Nat, sp (spAt j st) = nI x ∧ al (spAt j st) = nI y ∧ bsel st B S j = some (x, y) ∧ 1 ≤ x ∧ x ≤ 60 ∧ y ≤ 9999 := by
  unfold spAt bsel
  by_cases hs : st = 0
  · rw [if_pos hs, if_pos hs]; exact h.1 j h1 h2
  · rw [if_neg hs, if_neg hs]; exact h.2.1 j h1 h2
theorem spAt_lt {j : Nat} (st : Int32) (h : j ≤ 30) : spAt j st < 62 := by
  unfold spAt
  split <;> omega

set_option maxHeartbeats 4000000 in
set_option maxRecDepth 100000 in
/-- spotAt -/
theorem c_Mo_spotAt (l : Launch) (G : Gx) (lo : Nat) (V : Vw) (sz : Nat) (j : Nat) (st : Int32) (hj : j ≤ 30) : Met l y_Mo_spotAt ws_Mo_spotAt ({ frames := 0, cells := 0, slots := 0, locals := 0 } : Room) (vPre G lo [.int (nI j), .int st] (vU V []) sz) (vPost G lo (fun r V' k => r = some (.int (nI (spAt j st))) ∧ V' = vU V [] ∧ k = sz)) 0 0 (vL lo) := by
  refine vMet (R := RMo) (by decide) rfl (Nat.le_of_ble_eq_true rfl) ?_
  intro pg ev s mi args below meth cd hx hb hr hml hlk hnm hts hown hK hz hV ls hl
  have hl : lv_has ls 2 [(0, .int (nI j)), (1, .int st)] := hl
  have hV0 := hV
  obtain ⟨H, hH⟩ : ∃ H, H = s.heap := ⟨_, rfl⟩
  obtain ⟨locs, hlocs⟩ : ∃ locs : List Loc, locs = [] := ⟨_, rfl⟩
  rw [← hH, ← hlocs]
  rw [← hH] at hz
  replace hV : vS G.1 cls lo s H locs (vU V []) := by rw [hH, hlocs]; exact hV
  clear hH hlocs hV0
  refine lv_iload_n hx hb d_Mo_spotAt_0 rfl (lv_at hl 1 rfl) ?_
  refine lv_if_eq (tgt := 11) hx hb d_Mo_spotAt_1 (by decide) (fun c_1 => ?_) (fun c_1 => ?_)
  · have hE : spAt j st = j := if_pos c_1
    refine lv_iload_n hx hb d_Mo_spotAt_11 rfl (lv_at hl 0 rfl) ?_
    exact W.iret (v := nI j) hx hb hr (v_end hV ⟨by rw [hE], rfl, hz⟩) hV.2.1.2.2 d_Mo_spotAt_12
  · have hE : spAt j st = 31 + j := if_neg c_1
    refine lv_bipush (v := 31) hx hb d_Mo_spotAt_4 (by decide) ?_
    refine lv_iload_n hx hb d_Mo_spotAt_6 rfl (lv_at hl 0 rfl) ?_
    refine e_iadd (v := nI (31 + j)) hx hb d_Mo_spotAt_7 (nI_add 31 j) ?_
    refine lv_goto (tgt := 12) hx hb d_Mo_spotAt_8 (by decide) ?_
    exact W.iret (v := nI (31 + j)) hx hb hr (v_end hV ⟨by rw [hE], rfl, hz⟩) hV.2.1.2.2 d_Mo_spotAt_12

set_option maxHeartbeats 4000000 in
set_option maxRecDepth 100000 in
/-- spot -/
theorem c_Mo_spot (l : Launch) (G : Gx) (lo : Nat) (V : Vw) (sz : Nat) (m sa : Nat) (u1 u2 u3 u4 u6 u7 u8 u9 u10 u11 u12 u13 u14 u15 u16 u17 u18 u19 u20 : Value) (th : Value) (sp al : Nat → Int32) (B S : Nat → Option (Nat × Nat)) (hn : [m, sa].Nodup) (hS : msA sp al B S) (y st : Int32) : Met l y_Mo_spot ws_Mo_spot ({ frames := 2, cells := 0, slots := 0, locals := 50 } : Room) (vPre G lo [.ref m, .int y, .int st] (vU V [(m, eO 8 [th, u1, u2, u3, u4, .ref sa, u6, u7, u8, u9, u10, u11, u12, u13, u14, u15, u16, u17, u18, u19, u20]), (sa, eI (gI G) 62 sp)]) sz) (vPost G lo (fun r V' k => r = some (.int (vaI (spoR (bsel st B S) y))) ∧ V' = vU V [(m, eO 8 [.int (thI (spoR (bsel st B S) y)), u1, u2, u3, u4, .ref sa, u6, u7, u8, u9, u10, u11, u12, u13, u14, u15, u16, u17, u18, u19, u20]), (sa, eI (gI G) 62 sp)] ∧ k = sz)) 0 0 (vL lo) := by
  refine vMet (R := RMo) (by decide) rfl (Nat.le_of_ble_eq_true rfl) ?_
  intro pg ev s mi args below meth cd hx hb hr hml hlk hnm hts hown hK hz hV ls hl
  have hl : lv_has ls 3 [(0, .ref m), (1, .int y), (2, .int st)] := hl
  have hV0 := hV
  obtain ⟨H, hH⟩ : ∃ H, H = s.heap := ⟨_, rfl⟩
  obtain ⟨locs, hlocs⟩ : ∃ locs : List Loc, locs = [] := ⟨_, rfl⟩
  rw [← hH, ← hlocs]
  rw [← hH] at hz
  replace hV : vS G.1 cls lo s H locs (vU V [(m, eO 8 [th, u1, u2, u3, u4, .ref sa, u6, u7, u8, u9, u10, u11, u12, u13, u14, u15, u16, u17, u18, u19, u20]), (sa, eI (gI G) 62 sp)]) := by rw [hH, hlocs]; exact hV
  clear hH hlocs hV0
  refine lv_aload_n hx hb d_Mo_spot_0 rfl (lv_at hl 0 rfl) ?_
  refine lv_iload_n hx hb d_Mo_spot_1 rfl (lv_at hl 1 rfl) ?_
  refine lv_iconst (v := 1) hx hb d_Mo_spot_2 (by decide) ?_
  refine lv_bipush (v := 30) hx hb d_Mo_spot_3 (by decide) ?_
  refine v_call (va_runS (As := [.int y, .int 1, .int 30]) (rest := [.ref m]) ⟨hx, hb, hml, hown, hts⟩ (c_Mo_in l G lo _ _ y ((1 : Int32)) ((30 : Int32))) (kwS 3 hts w_co_Mo_in rfl rfl w_it_Mo w_ml_Mo_54 w_st_Mo_in (by decide +kernel) ⟨(Nat.le_of_ble_eq_true rfl), (Nat.le_of_ble_eq_true rfl)⟩) (u_preS hK hV hn [] rfl hz) rfl rfl hl.1 rfl (lv_room (Nat.le_of_ble_eq_true rfl)) d_Mo_spot_5 ⟨(Nat.le_of_ble_eq_true rfl), (Nat.le_of_ble_eq_true rfl)⟩) hV (fun r9 V9 H locs hp hV hle => ?_)
  obtain ⟨rfl, rfl, hz⟩ := hp
  replace hV := uu_same hV hn [] rfl
  rcases tf (inI y ((1 : Int32)) ((30 : Int32))) with d_1 | d_1
  · obtain ⟨j, hj1, hj2, ey⟩ := inI_bd (a := 1) (b := 30) (by decide) (by decide) d_1
    have hlt := spAt_lt st hj2
    have hV : vS G.1 cls lo s H locs (vU V [(m, eO 8 [th, u1, u2, u3, u4, .ref sa, u6, u7, u8, u9, u10, u11, u12, u13, u14, u15, u16, u17, u18, u19, u20]), (sa, eI (gI G) 62 sp)]) := hV
    refine W.eq (g2 := F0 mi 8 ls [.int 1, .ref m]) (by rw [d_1]; rfl) ?_
    refine lv_if_eq (tgt := 42) hx hb d_Mo_spot_8 (by decide) (fun c_2 => absurd c_2 (by decide)) (fun _ => ?_)
    subst ey
    rcases msA_at hS st hj1 hj2 with ⟨h0, hb9⟩ | ⟨x9, y9, h0, h01, hb9, hx1, hx2, hy2⟩
    · have hX : spoR (bsel st B S) (nI j) = .inl 1 := by simp only [spoR, spF_in hj1 hj2, hb9]
      refine lv_aload_n hx hb d_Mo_spot_11 rfl (lv_at hl 0 rfl) ?_
      refine u_get hx hb hts inMo hown hK hV hn 0 rfl rfl 5 (by decide) w_fl_Mo_20 rfl rfl d_Mo_spot_12 ?_
      refine lv_iload_n hx hb d_Mo_spot_15 rfl (lv_at hl 1 rfl) ?_
      refine lv_iconst (v := 1) hx hb d_Mo_spot_16 (by decide) ?_
      refine lv_bipush (v := 30) hx hb d_Mo_spot_17 (by decide) ?_
      refine v_call (va_runS (As := [.int (nI j), .int 1, .int 30]) (rest := [.ref sa, .ref m]) ⟨hx, hb, hml, hown, hts⟩ (c_Mo_in l G lo _ _ (nI j) 1 30) (kwS 3 hts w_co_Mo_in rfl rfl w_it_Mo w_ml_Mo_54 w_st_Mo_in (by decide +kernel) ⟨(Nat.le_of_ble_eq_true rfl), (Nat.le_of_ble_eq_true rfl)⟩) (u_preS hK hV hn [] rfl hz) rfl rfl hl.1 rfl (lv_room (Nat.le_of_ble_eq_true rfl)) d_Mo_spot_19 ⟨(Nat.le_of_ble_eq_true rfl), (Nat.le_of_ble_eq_true rfl)⟩) hV (fun r9 V9 H locs hp hV hle => ?_)
      obtain ⟨hr9, rfl, hz⟩ := hp
      rw [show inI (nI j) 1 30 = true from (inI_N (a := 1) (b := 30) (by omega) (by decide) (by decide)).trans (decide_eq_true ⟨hj1, hj2⟩)] at hr9
      subst hr9
      replace hV := uu_same hV hn [] rfl
      have hV : vS G.1 cls lo s H locs (vU V [(m, eO 8 [th, u1, u2, u3, u4, .ref sa, u6, u7, u8, u9, u10, u11, u12, u13, u14, u15, u16, u17, u18, u19, u20]), (sa, eI (gI G) 62 sp)]) := hV
      refine W.eq (g2 := F0 mi 22 ls [.int 1, .ref sa, .ref m]) rfl ?_
      refine lv_if_eq (tgt := 29) hx hb d_Mo_spot_22 (by decide) (fun c_3 => absurd c_3 (by decide)) (fun _ => ?_)
      refine lv_iload_n hx hb d_Mo_spot_25 rfl (lv_at hl 1 rfl) ?_
      refine lv_goto (tgt := 30) hx hb d_Mo_spot_26 (by decide) ?_
      refine lv_iload_n hx hb d_Mo_spot_30 rfl (lv_at hl 2 rfl) ?_
      refine v_call (va_runS (As := [.int (nI j), .int st]) (rest := [.ref sa, .ref m]) ⟨hx, hb, hml, hown, hts⟩ (c_Mo_spotAt l G lo _ _ j st (by omega)) (kwS 2 hts w_co_Mo_spotAt rfl rfl w_it_Mo w_ml_Mo_139 w_st_Mo_spotAt (by decide +kernel) ⟨(Nat.le_of_ble_eq_true rfl), (Nat.le_of_ble_eq_true rfl)⟩) (u_preS hK hV hn [] rfl hz) rfl rfl hl.1 rfl (lv_room (Nat.le_of_ble_eq_true rfl)) d_Mo_spot_31 ⟨(Nat.le_of_ble_eq_true rfl), (Nat.le_of_ble_eq_true rfl)⟩) hV (fun r9 V9 H locs hp hV hle => ?_)
      obtain ⟨rfl, rfl, hz⟩ := hp
      replace hV := uu_same hV hn [] rfl
      have hV : vS G.1 cls lo s H locs (vU V [(m, eO 8 [th, u1, u2, u3, u4, .ref sa, u6, u7, u8, u9, u10, u11, u12, u13, u14, u15, u16, u17, u18, u19, u20]), (sa, eI (gI G) 62 sp)]) := hV
      refine W.eq (g2 := F0 mi 34 ls [.int (nI (spAt j st)), .ref sa, .ref m]) rfl ?_
      refine u_ialdN hx hb hK hV hn 1 rfl (by omega) (by decide) d_Mo_spot_34 ?_
      rw [h0]
      refine lv_if_le (tgt := 42) hx hb d_Mo_spot_35 (by decide) (fun _ => ?_) (fun c_4 => absurd c_4 (by decide))
      refine lv_iconst (v := 0) hx hb d_Mo_spot_42 (by decide) ?_
      refine lv_iconst (v := 1) hx hb d_Mo_spot_43 (by decide) ?_
      refine v_call (va_runV (As := [.int 0, .int 1]) (rest := []) ⟨hx, hb, hml, hown, hts⟩ (c_Mo_asks l G lo _ _ m u1 u2 u3 u4 (.ref sa) u6 u7 u8 u9 u10 u11 u12 u13 u14 u15 u16 u17 u18 u19 u20 th (by simp) 0 1 (by decide) (by decide)) (kwV 2 hts w_co_Mo_asks rfl rfl w_it_Mo w_ml_Mo_132 w_im_Mo_asks w_se_Mo__Mo_asks (by decide +kernel) ⟨(Nat.le_of_ble_eq_true rfl), (Nat.le_of_ble_eq_true rfl)⟩) (u_preV hK hV hn [0] rfl hz 0 rfl rfl) rfl rfl hl.1 rfl (lv_room (Nat.le_of_ble_eq_true rfl)) d_Mo_spot_44 ⟨(Nat.le_of_ble_eq_true rfl), (Nat.le_of_ble_eq_true rfl)⟩) hV (fun r9 V9 H locs hp hV hle => ?_)
      obtain ⟨rfl, rfl, hz⟩ := hp
      replace hV := u_back hV hn [0] rfl
      have hV : vS G.1 cls lo s H locs (vU V [(m, eO 8 [.int 1, u1, u2, u3, u4, .ref sa, u6, u7, u8, u9, u10, u11, u12, u13, u14, u15, u16, u17, u18, u19, u20]), (sa, eI (gI G) 62 sp)]) := hV
      refine W.eq (g2 := F0 mi 47 ls [.int 0]) rfl ?_
      refine lv_if_ne (tgt := 52) hx hb d_Mo_spot_47 (by decide) (fun c_5 => absurd c_5 (by decide)) (fun _ => ?_)
      refine lv_iconst (v := 0) hx hb d_Mo_spot_50 (by decide) ?_
      exact W.iret (v := 0) hx hb hr (v_end hV ⟨by rw [hX]; rfl, by rw [hX]; rfl, hz⟩) hV.2.1.2.2 d_Mo_spot_51
    · have hX : spoR (bsel st B S) (nI j) = .inr (nI x9) := by simp only [spoR, spF_in hj1 hj2, hb9]
      refine lv_aload_n hx hb d_Mo_spot_11 rfl (lv_at hl 0 rfl) ?_
      refine u_get hx hb hts inMo hown hK hV hn 0 rfl rfl 5 (by decide) w_fl_Mo_20 rfl rfl d_Mo_spot_12 ?_
      refine lv_iload_n hx hb d_Mo_spot_15 rfl (lv_at hl 1 rfl) ?_
      refine lv_iconst (v := 1) hx hb d_Mo_spot_16 (by decide) ?_
      refine lv_bipush (v := 30) hx hb d_Mo_spot_17 (by decide) ?_
      refine v_call (va_runS (As := [.int (nI j), .int 1, .int 30]) (rest := [.ref sa, .ref m]) ⟨hx, hb, hml, hown, hts⟩ (c_Mo_in l G lo _ _ (nI j) 1 30) (kwS 3 hts w_co_Mo_in rfl rfl w_it_Mo w_ml_Mo_54 w_st_Mo_in (by decide +kernel) ⟨(Nat.le_of_ble_eq_true rfl), (Nat.le_of_ble_eq_true rfl)⟩) (u_preS hK hV hn [] rfl hz) rfl rfl hl.1 rfl (lv_room (Nat.le_of_ble_eq_true rfl)) d_Mo_spot_19 ⟨(Nat.le_of_ble_eq_true rfl), (Nat.le_of_ble_eq_true rfl)⟩) hV (fun r9 V9 H locs hp hV hle => ?_)
      obtain ⟨hr9, rfl, hz⟩ := hp
      rw [show inI (nI j) 1 30 = true from (inI_N (a := 1) (b := 30) (by omega) (by decide) (by decide)).trans (decide_eq_true ⟨hj1, hj2⟩)] at hr9
      subst hr9
      replace hV := uu_same hV hn [] rfl
      have hV : vS G.1 cls lo s H locs (vU V [(m, eO 8 [th, u1, u2, u3, u4, .ref sa, u6, u7, u8, u9, u10, u11, u12, u13, u14, u15, u16, u17, u18, u19, u20]), (sa, eI (gI G) 62 sp)]) := hV
      refine W.eq (g2 := F0 mi 22 ls [.int 1, .ref sa, .ref m]) rfl ?_
      refine lv_if_eq (tgt := 29) hx hb d_Mo_spot_22 (by decide) (fun c_6 => absurd c_6 (by decide)) (fun _ => ?_)
      refine lv_iload_n hx hb d_Mo_spot_25 rfl (lv_at hl 1 rfl) ?_
      refine lv_goto (tgt := 30) hx hb d_Mo_spot_26 (by decide) ?_
      refine lv_iload_n hx hb d_Mo_spot_30 rfl (lv_at hl 2 rfl) ?_
      refine v_call (va_runS (As := [.int (nI j), .int st]) (rest := [.ref sa, .ref m]) ⟨hx, hb, hml, hown, hts⟩ (c_Mo_spotAt l G lo _ _ j st (by omega)) (kwS 2 hts w_co_Mo_spotAt rfl rfl w_it_Mo w_ml_Mo_139 w_st_Mo_spotAt (by decide +kernel) ⟨(Nat.le_of_ble_eq_true rfl), (Nat.le_of_ble_eq_true rfl)⟩) (u_preS hK hV hn [] rfl hz) rfl rfl hl.1 rfl (lv_room (Nat.le_of_ble_eq_true rfl)) d_Mo_spot_31 ⟨(Nat.le_of_ble_eq_true rfl), (Nat.le_of_ble_eq_true rfl)⟩) hV (fun r9 V9 H locs hp hV hle => ?_)
      obtain ⟨rfl, rfl, hz⟩ := hp
      replace hV := uu_same hV hn [] rfl
      have hV : vS G.1 cls lo s H locs (vU V [(m, eO 8 [th, u1, u2, u3, u4, .ref sa, u6, u7, u8, u9, u10, u11, u12, u13, u14, u15, u16, u17, u18, u19, u20]), (sa, eI (gI G) 62 sp)]) := hV
      refine W.eq (g2 := F0 mi 34 ls [.int (nI (spAt j st)), .ref sa, .ref m]) rfl ?_
      refine u_ialdN hx hb hK hV hn 1 rfl (by omega) (by decide) d_Mo_spot_34 ?_
      rw [h0]
      refine lv_if_le (tgt := 42) hx hb d_Mo_spot_35 (by decide) (fun c_7 => absurd c_7 (fun z => absurd ((nI_leI (a := x9) (b := 0) (by omega) (by decide)).mp z) (by omega))) (fun c_7 => ?_)
      replace c_7 : ¬ x9 ≤ 0 := fun z9 => c_7 ((nI_leI (a := x9) (b := 0) (by omega) (by omega)).mpr z9)
      refine lv_iconst (v := 1) hx hb d_Mo_spot_38 (by decide) ?_
      refine lv_goto (tgt := 43) hx hb d_Mo_spot_39 (by decide) ?_
      refine lv_iconst (v := 1) hx hb d_Mo_spot_43 (by decide) ?_
      refine v_call (va_runV (As := [.int 1, .int 1]) (rest := []) ⟨hx, hb, hml, hown, hts⟩ (c_Mo_asks l G lo _ _ m u1 u2 u3 u4 (.ref sa) u6 u7 u8 u9 u10 u11 u12 u13 u14 u15 u16 u17 u18 u19 u20 th (by simp) 1 1 (by decide) (by decide)) (kwV 2 hts w_co_Mo_asks rfl rfl w_it_Mo w_ml_Mo_132 w_im_Mo_asks w_se_Mo__Mo_asks (by decide +kernel) ⟨(Nat.le_of_ble_eq_true rfl), (Nat.le_of_ble_eq_true rfl)⟩) (u_preV hK hV hn [0] rfl hz 0 rfl rfl) rfl rfl hl.1 rfl (lv_room (Nat.le_of_ble_eq_true rfl)) d_Mo_spot_44 ⟨(Nat.le_of_ble_eq_true rfl), (Nat.le_of_ble_eq_true rfl)⟩) hV (fun r9 V9 H locs hp hV hle => ?_)
      obtain ⟨rfl, rfl, hz⟩ := hp
      replace hV := u_back hV hn [0] rfl
      have hV : vS G.1 cls lo s H locs (vU V [(m, eO 8 [.int 0, u1, u2, u3, u4, .ref sa, u6, u7, u8, u9, u10, u11, u12, u13, u14, u15, u16, u17, u18, u19, u20]), (sa, eI (gI G) 62 sp)]) := hV
      refine W.eq (g2 := F0 mi 47 ls [.int 1]) rfl ?_
      refine lv_if_ne (tgt := 52) hx hb d_Mo_spot_47 (by decide) (fun _ => ?_) (fun c_8 => absurd c_8 (by decide))
      refine lv_aload_n hx hb d_Mo_spot_52 rfl (lv_at hl 0 rfl) ?_
      refine u_get hx hb hts inMo hown hK hV hn 0 rfl rfl 5 (by decide) w_fl_Mo_20 rfl rfl d_Mo_spot_53 ?_
      refine lv_iload_n hx hb d_Mo_spot_56 rfl (lv_at hl 1 rfl) ?_
      refine lv_iload_n hx hb d_Mo_spot_57 rfl (lv_at hl 2 rfl) ?_
      refine v_call (va_runS (As := [.int (nI j), .int st]) (rest := [.ref sa]) ⟨hx, hb, hml, hown, hts⟩ (c_Mo_spotAt l G lo _ _ j st (by omega)) (kwS 2 hts w_co_Mo_spotAt rfl rfl w_it_Mo w_ml_Mo_139 w_st_Mo_spotAt (by decide +kernel) ⟨(Nat.le_of_ble_eq_true rfl), (Nat.le_of_ble_eq_true rfl)⟩) (u_preS hK hV hn [] rfl hz) rfl rfl hl.1 rfl (lv_room (Nat.le_of_ble_eq_true rfl)) d_Mo_spot_58 ⟨(Nat.le_of_ble_eq_true rfl), (Nat.le_of_ble_eq_true rfl)⟩) hV (fun r9 V9 H locs hp hV hle => ?_)
      obtain ⟨rfl, rfl, hz⟩ := hp
      replace hV := uu_same hV hn [] rfl
      have hV : vS G.1 cls lo s H locs (vU V [(m, eO 8 [.int 0, u1, u2, u3, u4, .ref sa, u6, u7, u8, u9, u10, u11, u12, u13, u14, u15, u16, u17, u18, u19, u20]), (sa, eI (gI G) 62 sp)]) := hV
      refine W.eq (g2 := F0 mi 61 ls [.int (nI (spAt j st)), .ref sa]) rfl ?_
      refine u_ialdN hx hb hK hV hn 1 rfl (by omega) (by decide) d_Mo_spot_61 ?_
      rw [h0]
      exact W.iret (v := nI x9) hx hb hr (v_end hV ⟨by rw [hX]; rfl, by rw [hX]; rfl, hz⟩) hV.2.1.2.2 d_Mo_spot_62
  · have hX : spoR (bsel st B S) y = .inl 1 := by simp only [spoR, spF_out d_1]
    have hV : vS G.1 cls lo s H locs (vU V [(m, eO 8 [th, u1, u2, u3, u4, .ref sa, u6, u7, u8, u9, u10, u11, u12, u13, u14, u15, u16, u17, u18, u19, u20]), (sa, eI (gI G) 62 sp)]) := hV
    refine W.eq (g2 := F0 mi 8 ls [.int 0, .ref m]) (by rw [d_1]; rfl) ?_
    refine lv_if_eq (tgt := 42) hx hb d_Mo_spot_8 (by decide) (fun _ => ?_) (fun c_9 => absurd c_9 (by decide))
    refine lv_iconst (v := 0) hx hb d_Mo_spot_42 (by decide) ?_
    refine lv_iconst (v := 1) hx hb d_Mo_spot_43 (by decide) ?_
    refine v_call (va_runV (As := [.int 0, .int 1]) (rest := []) ⟨hx, hb, hml, hown, hts⟩ (c_Mo_asks l G lo _ _ m u1 u2 u3 u4 (.ref sa) u6 u7 u8 u9 u10 u11 u12 u13 u14 u15 u16 u17 u18 u19 u20 th (by simp) 0 1 (by decide) (by decide)) (kwV 2 hts w_co_Mo_asks rfl rfl w_it_Mo w_ml_Mo_132 w_im_Mo_asks w_se_Mo__Mo_asks (by decide +kernel) ⟨(Nat.le_of_ble_eq_true rfl), (Nat.le_of_ble_eq_true rfl)⟩) (u_preV hK hV hn [0] rfl hz 0 rfl rfl) rfl rfl hl.1 rfl (lv_room (Nat.le_of_ble_eq_true rfl)) d_Mo_spot_44 ⟨(Nat.le_of_ble_eq_true rfl), (Nat.le_of_ble_eq_true rfl)⟩) hV (fun r9 V9 H locs hp hV hle => ?_)
    obtain ⟨rfl, rfl, hz⟩ := hp
    replace hV := u_back hV hn [0] rfl
    have hV : vS G.1 cls lo s H locs (vU V [(m, eO 8 [.int 1, u1, u2, u3, u4, .ref sa, u6, u7, u8, u9, u10, u11, u12, u13, u14, u15, u16, u17, u18, u19, u20]), (sa, eI (gI G) 62 sp)]) := hV
    refine W.eq (g2 := F0 mi 47 ls [.int 0]) rfl ?_
    refine lv_if_ne (tgt := 52) hx hb d_Mo_spot_47 (by decide) (fun c_10 => absurd c_10 (by decide)) (fun _ => ?_)
    refine lv_iconst (v := 0) hx hb d_Mo_spot_50 (by decide) ?_
    exact W.iret (v := 0) hx hb hr (v_end hV ⟨by rw [hX]; rfl, by rw [hX]; rfl, hz⟩) hV.2.1.2.2 d_Mo_spot_51

theorem spF_al {sp al : Nat → Int32} {B S : Nat → Option (Nat × Nat)} {st y : Int32} {z : Nat × Nat} (h : msA sp al B S) (hF : spF (bsel st B S) y = some z) : ∃ j, 1 ≤ j ∧ j ≤ 30 ∧ y = nI j ∧ al (spAt j st) = nI z.2 := by
  have h2 := hF
  unfold spF at h2
  by_cases hx : nI 1 ≤ y ∧ y ≤ nI 30
  · rw [if_pos hx] at h2
    obtain ⟨j, h1, h3, rfl⟩ := nI_bd (a := 1) (b := 30) (by decide) (Int32.not_lt.mpr hx.1) (Int32.not_lt.mpr hx.2) (by decide)
    rw [nI_clamp (by omega)] at h2
    refine ⟨j, h1, h3, rfl, ?_⟩
    rcases msA_at h st h1 h3 with ⟨-, g⟩ | ⟨x9, y9, -, g1, g2, -⟩
    · rw [h2] at g; cases g
    · rw [h2] at g2; cases g2; exact g1
  · rw [if_neg hx] at h2; cases h2

set_option maxHeartbeats 4000000 in
set_option maxRecDepth 100000 in
/-- along -/
theorem c_Mo_along (l : Launch) (G : Gx) (lo : Nat) (V : Vw) (sz : Nat) (m sa la : Nat) (u1 u2 u3 u4 u7 u8 u9 u10 u11 u12 u13 u14 u15 u16 u17 u18 u19 u20 : Value) (th : Value) (sp al : Nat → Int32) (B S : Nat → Option (Nat × Nat)) (hn : [m, sa, la].Nodup) (hS : msA sp al B S) (y st : Int32) : Met l y_Mo_along ws_Mo_along ({ frames := 3, cells := 0, slots := 0, locals := 80 } : Room) (vPre G lo [.ref m, .int y, .int st] (vU V [(m, eO 8 [th, u1, u2, u3, u4, .ref sa, .ref la, u7, u8, u9, u10, u11, u12, u13, u14, u15, u16, u17, u18, u19, u20]), (sa, eI (gI G) 62 sp), (la, eI (gI G) 62 al)]) sz) (vPost G lo (fun r V' k => r = some (.int (vaI (aloR (bsel st B S) y))) ∧ V' = vU V [(m, eO 8 [.int (thI (aloR (bsel st B S) y)), u1, u2, u3, u4, .ref sa, .ref la, u7, u8, u9, u10, u11, u12, u13, u14, u15, u16, u17, u18, u19, u20]), (sa, eI (gI G) 62 sp), (la, eI (gI G) 62 al)] ∧ k = sz)) 0 0 (vL lo) := by
  refine vMet (R := RMo) (by decide) rfl (Nat.le_of_ble_eq_true rfl) ?_
  intro pg ev s mi args below meth cd hx hb hr hml hlk hnm hts hown hK hz hV ls hl
  have hl : lv_has ls 4 [(0, .ref m), (1, .int y), (2, .int st)] := hl
  have hV0 := hV
  obtain ⟨H, hH⟩ : ∃ H, H = s.heap := ⟨_, rfl⟩
  obtain ⟨locs, hlocs⟩ : ∃ locs : List Loc, locs = [] := ⟨_, rfl⟩
  rw [← hH, ← hlocs]
  rw [← hH] at hz
  replace hV : vS G.1 cls lo s H locs (vU V [(m, eO 8 [th, u1, u2, u3, u4, .ref sa, .ref la, u7, u8, u9, u10, u11, u12, u13, u14, u15, u16, u17, u18, u19, u20]), (sa, eI (gI G) 62 sp), (la, eI (gI G) 62 al)]) := by rw [hH, hlocs]; exact hV
  clear hH hlocs hV0
  refine lv_aload_n hx hb d_Mo_along_0 rfl (lv_at hl 0 rfl) ?_
  refine lv_iload_n hx hb d_Mo_along_1 rfl (lv_at hl 1 rfl) ?_
  refine lv_iload_n hx hb d_Mo_along_2 rfl (lv_at hl 2 rfl) ?_
  refine v_call (va_runV (As := [.int y, .int st]) (rest := []) ⟨hx, hb, hml, hown, hts⟩ (c_Mo_spot l G lo _ _ m sa u1 u2 u3 u4 (.ref la) u7 u8 u9 u10 u11 u12 u13 u14 u15 u16 u17 u18 u19 u20 th sp al B S (nd_sub hn [0, 1] (by decide) rfl) hS y st) (kwV 2 hts w_co_Mo_spot rfl rfl w_it_Mo w_ml_Mo_143 w_im_Mo_spot w_se_Mo__Mo_spot (by decide +kernel) ⟨(Nat.le_of_ble_eq_true rfl), (Nat.le_of_ble_eq_true rfl)⟩) (u_preV hK hV hn [0, 1] rfl hz 0 rfl rfl) rfl rfl hl.1 rfl (lv_room (Nat.le_of_ble_eq_true rfl)) d_Mo_along_3 ⟨(Nat.le_of_ble_eq_true rfl), (Nat.le_of_ble_eq_true rfl)⟩) hV (fun r9 V9 H locs hp hV hle => ?_)
  obtain ⟨rfl, rfl, hz⟩ := hp
  replace hV := u_back hV hn [0, 1] rfl
  rcases hF : spF (bsel st B S) y with _ | z9
  · have hX : spoR (bsel st B S) y = .inl 1 := by simp only [spoR, hF]
    have hY : aloR (bsel st B S) y = .inl 1 := by simp only [aloR, hF]
    rw [hX] at hV
    have hV : vS G.1 cls lo s H locs (vU V [(m, eO 8 [.int 1, u1, u2, u3, u4, .ref sa, .ref la, u7, u8, u9, u10, u11, u12, u13, u14, u15, u16, u17, u18, u19, u20]), (sa, eI (gI G) 62 sp), (la, eI (gI G) 62 al)]) := hV
    refine W.eq (g2 := F0 mi 6 ls [.int 0]) (by rw [hX]; rfl) ?_
    refine lv_istore_n (lv' := [(3, .int 0), (0, .ref m), (1, .int y), (2, .int st)]) hx hb d_Mo_along_6 rfl hl (by decide) rfl (fun ls hl => ?_)
    refine lv_aload_n hx hb d_Mo_along_7 rfl (lv_at hl 1 rfl) ?_
    refine u_get hx hb hts inMo hown hK hV hn 0 rfl rfl 0 (by decide) w_fl_Mo_51 rfl rfl d_Mo_along_8 ?_
    refine lv_if_le (tgt := 18) hx hb d_Mo_along_11 (by decide) (fun c_1 => absurd c_1 (by decide)) (fun _ => ?_)
    refine lv_iconst (v := 0) hx hb d_Mo_along_14 (by decide) ?_
    refine lv_goto (tgt := 28) hx hb d_Mo_along_15 (by decide) ?_
    exact W.iret (v := 0) hx hb hr (v_end hV ⟨by rw [hY]; rfl, by rw [hY]; rfl, hz⟩) hV.2.1.2.2 d_Mo_along_28
  · have hX : spoR (bsel st B S) y = .inr (nI z9.1) := by simp only [spoR, hF]
    have hY : aloR (bsel st B S) y = .inr (nI z9.2) := by simp only [aloR, hF]
    rw [hX] at hV
    obtain ⟨j, hj1, hj2, ey, hl9⟩ := spF_al hS hF
    have hlt := spAt_lt st hj2
    have hV : vS G.1 cls lo s H locs (vU V [(m, eO 8 [.int 0, u1, u2, u3, u4, .ref sa, .ref la, u7, u8, u9, u10, u11, u12, u13, u14, u15, u16, u17, u18, u19, u20]), (sa, eI (gI G) 62 sp), (la, eI (gI G) 62 al)]) := hV
    refine W.eq (g2 := F0 mi 6 ls [.int (vaI (.inr (nI z9.1)))]) (by rw [hX]; rfl) ?_
    refine lv_istore_n (lv' := [(3, .int (vaI (.inr (nI z9.1)))), (0, .ref m), (1, .int y), (2, .int st)]) hx hb d_Mo_along_6 rfl hl (by decide) rfl (fun ls hl => ?_)
    refine lv_aload_n hx hb d_Mo_along_7 rfl (lv_at hl 1 rfl) ?_
    refine u_get hx hb hts inMo hown hK hV hn 0 rfl rfl 0 (by decide) w_fl_Mo_51 rfl rfl d_Mo_along_8 ?_
    refine lv_if_le (tgt := 18) hx hb d_Mo_along_11 (by decide) (fun _ => ?_) (fun c_2 => absurd c_2 (by decide))
    subst ey
    refine lv_aload_n hx hb d_Mo_along_18 rfl (lv_at hl 1 rfl) ?_
    refine u_get hx hb hts inMo hown hK hV hn 0 rfl rfl 6 (by decide) w_fl_Mo_23 rfl rfl d_Mo_along_19 ?_
    refine lv_iload_n hx hb d_Mo_along_22 rfl (lv_at hl 2 rfl) ?_
    refine lv_iload_n hx hb d_Mo_along_23 rfl (lv_at hl 3 rfl) ?_
    refine v_call (va_runS (As := [.int (nI j), .int st]) (rest := [.ref la]) ⟨hx, hb, hml, hown, hts⟩ (c_Mo_spotAt l G lo _ _ j st (by omega)) (kwS 2 hts w_co_Mo_spotAt rfl rfl w_it_Mo w_ml_Mo_139 w_st_Mo_spotAt (by decide +kernel) ⟨(Nat.le_of_ble_eq_true rfl), (Nat.le_of_ble_eq_true rfl)⟩) (u_preS hK hV hn [] rfl hz) rfl rfl hl.1 rfl (lv_room (Nat.le_of_ble_eq_true rfl)) d_Mo_along_24 ⟨(Nat.le_of_ble_eq_true rfl), (Nat.le_of_ble_eq_true rfl)⟩) hV (fun r9 V9 H locs hp hV hle => ?_)
    obtain ⟨rfl, rfl, hz⟩ := hp
    replace hV := uu_same hV hn [] rfl
    have hV : vS G.1 cls lo s H locs (vU V [(m, eO 8 [.int 0, u1, u2, u3, u4, .ref sa, .ref la, u7, u8, u9, u10, u11, u12, u13, u14, u15, u16, u17, u18, u19, u20]), (sa, eI (gI G) 62 sp), (la, eI (gI G) 62 al)]) := hV
    refine W.eq (g2 := F0 mi 27 ls [.int (nI (spAt j st)), .ref la]) rfl ?_
    refine u_ialdN hx hb hK hV hn 2 rfl (by omega) (by decide) d_Mo_along_27 ?_
    rw [hl9]
    exact W.iret (v := nI z9.2) hx hb hr (v_end hV ⟨by rw [hY]; rfl, by rw [hY]; rfl, hz⟩) hV.2.1.2.2 d_Mo_along_28

def vaB : Sum Nat Bool → Bool
  | .inl _ => false
  | .inr v => v

set_option maxHeartbeats 4000000 in
set_option maxRecDepth 100000 in
/-- barred -/
theorem c_Mo_barred (l : Launch) (G : Gx) (lo : Nat) (V : Vw) (sz : Nat) (m ba : Nat) (u1 u2 u3 u4 u5 u6 u9 u10 u11 u12 u13 u14 u15 u16 u17 u18 u19 u20 : Value) (th : Value) (bf : Nat → Int32) (L : List Tri) (hn : [m, ba].Nodup) (hB9 : mbA bf L) (hL : L.length < 200) (a b c : Int32) : Met l y_Mo_barred ws_Mo_barred ({ frames := 2, cells := 0, slots := 0, locals := 50 } : Room) (vPre G lo [.ref m, .int a, .int b, .int c] (vU V [(m, eO 8 [th, u1, u2, u3, u4, u5, u6, .int (nI L.length), .ref ba, u9, u10, u11, u12, u13, u14, u15, u16, u17, u18, u19, u20]), (ba, eI (gI G) 600 bf)]) sz) (vPost G lo (fun r V' k => r = some (.int (b2i (vaB (barR L a b c)))) ∧ V' = vU V [(m, eO 8 [.int (thI (barR L a b c)), u1, u2, u3, u4, u5, u6, .int (nI L.length), .ref ba, u9, u10, u11, u12, u13, u14, u15, u16, u17, u18, u19, u20]), (ba, eI (gI G) 600 bf)] ∧ k = sz)) 0 0 (vL lo) := by
  refine vMet (R := RMo) (by decide) rfl (Nat.le_of_ble_eq_true rfl) ?_
  intro pg ev s mi args below meth cd hx hb hr hml hlk hnm hts hown hK hz hV ls hl
  have hl : lv_has ls 4 [(0, .ref m), (1, .int a), (2, .int b), (3, .int c)] := hl
  have hV0 := hV
  obtain ⟨H, hH⟩ : ∃ H, H = s.heap := ⟨_, rfl⟩
  obtain ⟨locs, hlocs⟩ : ∃ locs : List Loc, locs = [] := ⟨_, rfl⟩
  rw [← hH, ← hlocs]
  rw [← hH] at hz
  replace hV : vS G.1 cls lo s H locs (vU V [(m, eO 8 [th, u1, u2, u3, u4, u5, u6, .int (nI L.length), .ref ba, u9, u10, u11, u12, u13, u14, u15, u16, u17, u18, u19, u20]), (ba, eI (gI G) 600 bf)]) := by rw [hH, hlocs]; exact hV
  clear hH hlocs hV0
  refine lv_aload_n hx hb d_Mo_barred_0 rfl (lv_at hl 0 rfl) ?_
  refine lv_iload_n hx hb d_Mo_barred_1 rfl (lv_at hl 1 rfl) ?_
  refine v_call (va_runS (As := [.int a]) (rest := [.ref m]) ⟨hx, hb, hml, hown, hts⟩ (c_Mo_isNode l G lo _ _ a) (kwS 1 hts w_co_Mo_isNode rfl rfl w_it_Mo w_ml_Mo_136 w_st_Mo_isNode (by decide +kernel) ⟨(Nat.le_of_ble_eq_true rfl), (Nat.le_of_ble_eq_true rfl)⟩) (u_preS hK hV hn [] rfl hz) rfl rfl hl.1 rfl (lv_room (Nat.le_of_ble_eq_true rfl)) d_Mo_barred_2 ⟨(Nat.le_of_ble_eq_true rfl), (Nat.le_of_ble_eq_true rfl)⟩) hV (fun r9 V9 H locs hp hV hle => ?_)
  obtain ⟨rfl, rfl, hz⟩ := hp
  replace hV := uu_same hV hn [] rfl
  rcases tf (isN a) with d_1 | d_1
  · have hn0 := d_1
    have hV : vS G.1 cls lo s H locs (vU V [(m, eO 8 [th, u1, u2, u3, u4, u5, u6, .int (nI L.length), .ref ba, u9, u10, u11, u12, u13, u14, u15, u16, u17, u18, u19, u20]), (ba, eI (gI G) 600 bf)]) := hV
    refine W.eq (g2 := F0 mi 5 ls [.int 1, .ref m]) (by rw [d_1]; rfl) ?_
    refine lv_if_eq (tgt := 26) hx hb d_Mo_barred_5 (by decide) (fun c_2 => absurd c_2 (by decide)) (fun _ => ?_)
    refine lv_iload_n hx hb d_Mo_barred_8 rfl (lv_at hl 2 rfl) ?_
    refine v_call (va_runS (As := [.int b]) (rest := [.ref m]) ⟨hx, hb, hml, hown, hts⟩ (c_Mo_isNode l G lo _ _ b) (kwS 1 hts w_co_Mo_isNode rfl rfl w_it_Mo w_ml_Mo_136 w_st_Mo_isNode (by decide +kernel) ⟨(Nat.le_of_ble_eq_true rfl), (Nat.le_of_ble_eq_true rfl)⟩) (u_preS hK hV hn [] rfl hz) rfl rfl hl.1 rfl (lv_room (Nat.le_of_ble_eq_true rfl)) d_Mo_barred_9 ⟨(Nat.le_of_ble_eq_true rfl), (Nat.le_of_ble_eq_true rfl)⟩) hV (fun r9 V9 H locs hp hV hle => ?_)
    obtain ⟨rfl, rfl, hz⟩ := hp
    replace hV := uu_same hV hn [] rfl
    rcases tf (isN b) with d_3 | d_3
    · have hn1 := d_3
      have hV : vS G.1 cls lo s H locs (vU V [(m, eO 8 [th, u1, u2, u3, u4, u5, u6, .int (nI L.length), .ref ba, u9, u10, u11, u12, u13, u14, u15, u16, u17, u18, u19, u20]), (ba, eI (gI G) 600 bf)]) := hV
      refine W.eq (g2 := F0 mi 12 ls [.int 1, .ref m]) (by rw [d_3]; rfl) ?_
      refine lv_if_eq (tgt := 26) hx hb d_Mo_barred_12 (by decide) (fun c_4 => absurd c_4 (by decide)) (fun _ => ?_)
      refine lv_iload_n hx hb d_Mo_barred_15 rfl (lv_at hl 3 rfl) ?_
      refine v_call (va_runS (As := [.int c]) (rest := [.ref m]) ⟨hx, hb, hml, hown, hts⟩ (c_Mo_isNode l G lo _ _ c) (kwS 1 hts w_co_Mo_isNode rfl rfl w_it_Mo w_ml_Mo_136 w_st_Mo_isNode (by decide +kernel) ⟨(Nat.le_of_ble_eq_true rfl), (Nat.le_of_ble_eq_true rfl)⟩) (u_preS hK hV hn [] rfl hz) rfl rfl hl.1 rfl (lv_room (Nat.le_of_ble_eq_true rfl)) d_Mo_barred_16 ⟨(Nat.le_of_ble_eq_true rfl), (Nat.le_of_ble_eq_true rfl)⟩) hV (fun r9 V9 H locs hp hV hle => ?_)
      obtain ⟨rfl, rfl, hz⟩ := hp
      replace hV := uu_same hV hn [] rfl
      rcases tf (isN c) with d_5 | d_5
      · have hn2 := d_5
        have hV : vS G.1 cls lo s H locs (vU V [(m, eO 8 [th, u1, u2, u3, u4, u5, u6, .int (nI L.length), .ref ba, u9, u10, u11, u12, u13, u14, u15, u16, u17, u18, u19, u20]), (ba, eI (gI G) 600 bf)]) := hV
        refine W.eq (g2 := F0 mi 19 ls [.int 1, .ref m]) (by rw [d_5]; rfl) ?_
        refine lv_if_eq (tgt := 26) hx hb d_Mo_barred_19 (by decide) (fun c_6 => absurd c_6 (by decide)) (fun _ => ?_)
        refine lv_iconst (v := 1) hx hb d_Mo_barred_22 (by decide) ?_
        refine lv_goto (tgt := 27) hx hb d_Mo_barred_23 (by decide) ?_
        refine lv_iconst (v := 1) hx hb d_Mo_barred_27 (by decide) ?_
        refine v_call (va_runV (As := [.int 1, .int 1]) (rest := []) ⟨hx, hb, hml, hown, hts⟩ (c_Mo_asks l G lo _ _ m u1 u2 u3 u4 u5 u6 (.int (nI L.length)) (.ref ba) u9 u10 u11 u12 u13 u14 u15 u16 u17 u18 u19 u20 th (by simp) 1 1 (by decide) (by decide)) (kwV 2 hts w_co_Mo_asks rfl rfl w_it_Mo w_ml_Mo_132 w_im_Mo_asks w_se_Mo__Mo_asks (by decide +kernel) ⟨(Nat.le_of_ble_eq_true rfl), (Nat.le_of_ble_eq_true rfl)⟩) (u_preV hK hV hn [0] rfl hz 0 rfl rfl) rfl rfl hl.1 rfl (lv_room (Nat.le_of_ble_eq_true rfl)) d_Mo_barred_28 ⟨(Nat.le_of_ble_eq_true rfl), (Nat.le_of_ble_eq_true rfl)⟩) hV (fun r9 V9 H locs hp hV hle => ?_)
        obtain ⟨rfl, rfl, hz⟩ := hp
        replace hV := u_back hV hn [0] rfl
        have hV : vS G.1 cls lo s H locs (vU V [(m, eO 8 [.int 0, u1, u2, u3, u4, u5, u6, .int (nI L.length), .ref ba, u9, u10, u11, u12, u13, u14, u15, u16, u17, u18, u19, u20]), (ba, eI (gI G) 600 bf)]) := hV
        refine W.eq (g2 := F0 mi 31 ls [.int 1]) rfl ?_
        refine lv_if_eq (tgt := 52) hx hb d_Mo_barred_31 (by decide) (fun c_7 => absurd c_7 (by decide)) (fun _ => ?_)
        obtain ⟨j0, g0, m0, e0⟩ := isN_nat hn0
        subst e0
        obtain ⟨j1, g1, m1, e1⟩ := isN_nat hn1
        subst e1
        obtain ⟨j2, g2, m2, e2⟩ := isN_nat hn2
        subst e2
        have hX : barR L (nI j0) (nI j1) (nI j2) = .inr (decide ((j0, j1, j2) ∈ L)) := barR_2 hn0 hn1 hn2 m0 m1 m2
        refine lv_aload_n hx hb d_Mo_barred_34 rfl (lv_at hl 0 rfl) ?_
        refine lv_aload_n hx hb d_Mo_barred_35 rfl (lv_at hl 0 rfl) ?_
        refine u_get hx hb hts inMo hown hK hV hn 0 rfl rfl 7 (by decide) w_fl_Mo_111 rfl rfl d_Mo_barred_36 ?_
        refine lv_iload_n hx hb d_Mo_barred_39 rfl (lv_at hl 1 rfl) ?_
        refine lv_iload_n hx hb d_Mo_barred_40 rfl (lv_at hl 2 rfl) ?_
        refine lv_iload_n hx hb d_Mo_barred_41 rfl (lv_at hl 3 rfl) ?_
        refine v_call (va_runV (As := [.int (nI L.length), .int (nI j0), .int (nI j1), .int (nI j2)]) (rest := []) ⟨hx, hb, hml, hown, hts⟩ (c_Mo_isBarred l G lo _ _ m ba (.int 0) u1 u2 u3 u4 u5 u6 (.int (nI L.length)) u9 u10 u11 u12 u13 u14 u15 u16 u17 u18 u19 u20 bf L hn hB9 hL j0 j1 j2 (by omega) (by omega) (by omega)) (kwV 4 hts w_co_Mo_isBarred rfl rfl w_it_Mo w_ml_Mo_107 w_im_Mo_isBarred w_se_Mo__Mo_isBarred (by decide +kernel) ⟨(Nat.le_of_ble_eq_true rfl), (Nat.le_of_ble_eq_true rfl)⟩) (u_preV hK hV hn [0, 1] rfl hz 0 rfl rfl) rfl rfl hl.1 rfl (lv_room (Nat.le_of_ble_eq_true rfl)) d_Mo_barred_42 ⟨(Nat.le_of_ble_eq_true rfl), (Nat.le_of_ble_eq_true rfl)⟩) hV (fun r9 V9 H locs hp hV hle => ?_)
        obtain ⟨rfl, rfl, hz⟩ := hp
        replace hV := uu_same hV hn [0, 1] rfl
        rcases tf (decide ((j0, j1, j2) ∈ L)) with d_8 | d_8
        · have hV : vS G.1 cls lo s H locs (vU V [(m, eO 8 [.int 0, u1, u2, u3, u4, u5, u6, .int (nI L.length), .ref ba, u9, u10, u11, u12, u13, u14, u15, u16, u17, u18, u19, u20]), (ba, eI (gI G) 600 bf)]) := hV
          refine W.eq (g2 := F0 mi 45 ls [.int 1]) (by rw [d_8]; rfl) ?_
          refine lv_if_eq (tgt := 52) hx hb d_Mo_barred_45 (by decide) (fun c_9 => absurd c_9 (by decide)) (fun _ => ?_)
          refine lv_iconst (v := 1) hx hb d_Mo_barred_48 (by decide) ?_
          refine lv_goto (tgt := 53) hx hb d_Mo_barred_49 (by decide) ?_
          exact W.zret (v := 1) hx hb hr (by decide) (v_end hV ⟨by rw [hX, d_8]; rfl, by rw [hX]; rfl, hz⟩) hV.2.1.2.2 d_Mo_barred_53
        · have hV : vS G.1 cls lo s H locs (vU V [(m, eO 8 [.int 0, u1, u2, u3, u4, u5, u6, .int (nI L.length), .ref ba, u9, u10, u11, u12, u13, u14, u15, u16, u17, u18, u19, u20]), (ba, eI (gI G) 600 bf)]) := hV
          refine W.eq (g2 := F0 mi 45 ls [.int 0]) (by rw [d_8]; rfl) ?_
          refine lv_if_eq (tgt := 52) hx hb d_Mo_barred_45 (by decide) (fun _ => ?_) (fun c_10 => absurd c_10 (by decide))
          refine lv_iconst (v := 0) hx hb d_Mo_barred_52 (by decide) ?_
          exact W.zret (v := 0) hx hb hr (by decide) (v_end hV ⟨by rw [hX, d_8]; rfl, by rw [hX]; rfl, hz⟩) hV.2.1.2.2 d_Mo_barred_53
      · have hX : barR L a b c = .inl 1 := barR_1 (Or.inr (Or.inr d_5))
        have hV : vS G.1 cls lo s H locs (vU V [(m, eO 8 [th, u1, u2, u3, u4, u5, u6, .int (nI L.length), .ref ba, u9, u10, u11, u12, u13, u14, u15, u16, u17, u18, u19, u20]), (ba, eI (gI G) 600 bf)]) := hV
        refine W.eq (g2 := F0 mi 19 ls [.int 0, .ref m]) (by rw [d_5]; rfl) ?_
        refine lv_if_eq (tgt := 26) hx hb d_Mo_barred_19 (by decide) (fun _ => ?_) (fun c_11 => absurd c_11 (by decide))
        refine lv_iconst (v := 0) hx hb d_Mo_barred_26 (by decide) ?_
        refine lv_iconst (v := 1) hx hb d_Mo_barred_27 (by decide) ?_
        refine v_call (va_runV (As := [.int 0, .int 1]) (rest := []) ⟨hx, hb, hml, hown, hts⟩ (c_Mo_asks l G lo _ _ m u1 u2 u3 u4 u5 u6 (.int (nI L.length)) (.ref ba) u9 u10 u11 u12 u13 u14 u15 u16 u17 u18 u19 u20 th (by simp) 0 1 (by decide) (by decide)) (kwV 2 hts w_co_Mo_asks rfl rfl w_it_Mo w_ml_Mo_132 w_im_Mo_asks w_se_Mo__Mo_asks (by decide +kernel) ⟨(Nat.le_of_ble_eq_true rfl), (Nat.le_of_ble_eq_true rfl)⟩) (u_preV hK hV hn [0] rfl hz 0 rfl rfl) rfl rfl hl.1 rfl (lv_room (Nat.le_of_ble_eq_true rfl)) d_Mo_barred_28 ⟨(Nat.le_of_ble_eq_true rfl), (Nat.le_of_ble_eq_true rfl)⟩) hV (fun r9 V9 H locs hp hV hle => ?_)
        obtain ⟨rfl, rfl, hz⟩ := hp
        replace hV := u_back hV hn [0] rfl
        have hV : vS G.1 cls lo s H locs (vU V [(m, eO 8 [.int 1, u1, u2, u3, u4, u5, u6, .int (nI L.length), .ref ba, u9, u10, u11, u12, u13, u14, u15, u16, u17, u18, u19, u20]), (ba, eI (gI G) 600 bf)]) := hV
        refine W.eq (g2 := F0 mi 31 ls [.int 0]) rfl ?_
        refine lv_if_eq (tgt := 52) hx hb d_Mo_barred_31 (by decide) (fun _ => ?_) (fun c_12 => absurd c_12 (by decide))
        refine lv_iconst (v := 0) hx hb d_Mo_barred_52 (by decide) ?_
        exact W.zret (v := 0) hx hb hr (by decide) (v_end hV ⟨by rw [hX]; rfl, by rw [hX]; rfl, hz⟩) hV.2.1.2.2 d_Mo_barred_53
    · have hX : barR L a b c = .inl 1 := barR_1 (Or.inr (Or.inl d_3))
      have hV : vS G.1 cls lo s H locs (vU V [(m, eO 8 [th, u1, u2, u3, u4, u5, u6, .int (nI L.length), .ref ba, u9, u10, u11, u12, u13, u14, u15, u16, u17, u18, u19, u20]), (ba, eI (gI G) 600 bf)]) := hV
      refine W.eq (g2 := F0 mi 12 ls [.int 0, .ref m]) (by rw [d_3]; rfl) ?_
      refine lv_if_eq (tgt := 26) hx hb d_Mo_barred_12 (by decide) (fun _ => ?_) (fun c_13 => absurd c_13 (by decide))
      refine lv_iconst (v := 0) hx hb d_Mo_barred_26 (by decide) ?_
      refine lv_iconst (v := 1) hx hb d_Mo_barred_27 (by decide) ?_
      refine v_call (va_runV (As := [.int 0, .int 1]) (rest := []) ⟨hx, hb, hml, hown, hts⟩ (c_Mo_asks l G lo _ _ m u1 u2 u3 u4 u5 u6 (.int (nI L.length)) (.ref ba) u9 u10 u11 u12 u13 u14 u15 u16 u17 u18 u19 u20 th (by simp) 0 1 (by decide) (by decide)) (kwV 2 hts w_co_Mo_asks rfl rfl w_it_Mo w_ml_Mo_132 w_im_Mo_asks w_se_Mo__Mo_asks (by decide +kernel) ⟨(Nat.le_of_ble_eq_true rfl), (Nat.le_of_ble_eq_true rfl)⟩) (u_preV hK hV hn [0] rfl hz 0 rfl rfl) rfl rfl hl.1 rfl (lv_room (Nat.le_of_ble_eq_true rfl)) d_Mo_barred_28 ⟨(Nat.le_of_ble_eq_true rfl), (Nat.le_of_ble_eq_true rfl)⟩) hV (fun r9 V9 H locs hp hV hle => ?_)
      obtain ⟨rfl, rfl, hz⟩ := hp
      replace hV := u_back hV hn [0] rfl
      have hV : vS G.1 cls lo s H locs (vU V [(m, eO 8 [.int 1, u1, u2, u3, u4, u5, u6, .int (nI L.length), .ref ba, u9, u10, u11, u12, u13, u14, u15, u16, u17, u18, u19, u20]), (ba, eI (gI G) 600 bf)]) := hV
      refine W.eq (g2 := F0 mi 31 ls [.int 0]) rfl ?_
      refine lv_if_eq (tgt := 52) hx hb d_Mo_barred_31 (by decide) (fun _ => ?_) (fun c_14 => absurd c_14 (by decide))
      refine lv_iconst (v := 0) hx hb d_Mo_barred_52 (by decide) ?_
      exact W.zret (v := 0) hx hb hr (by decide) (v_end hV ⟨by rw [hX]; rfl, by rw [hX]; rfl, hz⟩) hV.2.1.2.2 d_Mo_barred_53
  · have hX : barR L a b c = .inl 1 := barR_1 (Or.inl d_1)
    have hV : vS G.1 cls lo s H locs (vU V [(m, eO 8 [th, u1, u2, u3, u4, u5, u6, .int (nI L.length), .ref ba, u9, u10, u11, u12, u13, u14, u15, u16, u17, u18, u19, u20]), (ba, eI (gI G) 600 bf)]) := hV
    refine W.eq (g2 := F0 mi 5 ls [.int 0, .ref m]) (by rw [d_1]; rfl) ?_
    refine lv_if_eq (tgt := 26) hx hb d_Mo_barred_5 (by decide) (fun _ => ?_) (fun c_15 => absurd c_15 (by decide))
    refine lv_iconst (v := 0) hx hb d_Mo_barred_26 (by decide) ?_
    refine lv_iconst (v := 1) hx hb d_Mo_barred_27 (by decide) ?_
    refine v_call (va_runV (As := [.int 0, .int 1]) (rest := []) ⟨hx, hb, hml, hown, hts⟩ (c_Mo_asks l G lo _ _ m u1 u2 u3 u4 u5 u6 (.int (nI L.length)) (.ref ba) u9 u10 u11 u12 u13 u14 u15 u16 u17 u18 u19 u20 th (by simp) 0 1 (by decide) (by decide)) (kwV 2 hts w_co_Mo_asks rfl rfl w_it_Mo w_ml_Mo_132 w_im_Mo_asks w_se_Mo__Mo_asks (by decide +kernel) ⟨(Nat.le_of_ble_eq_true rfl), (Nat.le_of_ble_eq_true rfl)⟩) (u_preV hK hV hn [0] rfl hz 0 rfl rfl) rfl rfl hl.1 rfl (lv_room (Nat.le_of_ble_eq_true rfl)) d_Mo_barred_28 ⟨(Nat.le_of_ble_eq_true rfl), (Nat.le_of_ble_eq_true rfl)⟩) hV (fun r9 V9 H locs hp hV hle => ?_)
    obtain ⟨rfl, rfl, hz⟩ := hp
    replace hV := u_back hV hn [0] rfl
    have hV : vS G.1 cls lo s H locs (vU V [(m, eO 8 [.int 1, u1, u2, u3, u4, u5, u6, .int (nI L.length), .ref ba, u9, u10, u11, u12, u13, u14, u15, u16, u17, u18, u19, u20]), (ba, eI (gI G) 600 bf)]) := hV
    refine W.eq (g2 := F0 mi 31 ls [.int 0]) rfl ?_
    refine lv_if_eq (tgt := 52) hx hb d_Mo_barred_31 (by decide) (fun _ => ?_) (fun c_16 => absurd c_16 (by decide))
    refine lv_iconst (v := 0) hx hb d_Mo_barred_52 (by decide) ?_
    exact W.zret (v := 0) hx hb hr (by decide) (v_end hV ⟨by rw [hX]; rfl, by rw [hX]; rfl, hz⟩) hV.2.1.2.2 d_Mo_barred_53
