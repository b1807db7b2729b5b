/-- the letters laid into a row -/
def letW (F : Nat → Int32) (p : Nat) (ls : List Nat) : Nat → Int32 := fun i => if p + 21 ≤ i ∧ i < p + 21 + ls.length then nI (ls.getD (i - (p + 21)) 0) else F i
theorem letW_0 (F : Nat → Int32) (p : Nat) : letW F p [] = F := by
  funext i
  exact if_neg (by simp only [List.length_nil]; omega)
theorem letW_step (F : Nat → Int32) (p : Nat) (ls : List Nat) (c : Nat) : upd (letW F p ls) (p + 21 + ls.length) (nI c) = letW F p (ls ++ [c]) := by
  funext i
  by_cases h : i = p + 21 + ls.length
  · subst h
    rw [upd_same]
    unfold letW
    rw [if_pos (by rw [List.length_append, List.length_singleton]; omega), show p + 21 + ls.length - (p + 21) = ls.length by omega, getD_app_r]
  · rw [upd_ne _ _ h]
    unfold letW
    by_cases h2 : p + 21 ≤ i ∧ i < p + 21 + ls.length
    · rw [if_pos h2, if_pos (by rw [List.length_append, List.length_singleton]; omega), getD_app_l (by omega)]
    · rw [if_neg h2, if_neg (by rw [List.length_append, List.length_singleton]; omega)]
theorem namX_bad {t : Nat → Nat} {n r : Nat} {ls : List Nat} (h : ls = [] ∨ ¬ (r < n ∧ t r = 34)) : namX t n (ls, r) = .inl r := if_pos h
theorem namX_ok {t : Nat → Nat} {n r : Nat} {ls : List Nat} (h : ¬ (ls = [] ∨ ¬ (r < n ∧ t r = 34))) : namX t n (ls, r) = sbd (tk t n 35 (r + 1)) fun p2 => sbd (num t n 0 9 p2) fun a => .inr (some (ls, a.1), a.2) := if_neg h
theorem letR_stop {t : Nat → Nat} {n k r : Nat} {ls : List Nat} (h : k = 0 ∨ isL t n r = false) : letR t n k ls r = (ls, r) := by
  cases k with
  | zero => rfl
  | succ k =>
    unfold letR
    rw [if_neg (by rcases h with h | h; cases h; rw [h]; exact Bool.false_ne_true)]
theorem letR_go {t : Nat → Nat} {n k r : Nat} {ls : List Nat} (h : isL t n r = true) (hk : 1 ≤ k) : letR t n k ls r = letR t n (k - 1) (ls ++ [t r]) (r + 1) := by
  obtain ⟨j, rfl⟩ : ∃ j, k = j + 1 := ⟨k - 1, by omega⟩
  exact if_pos h
theorem inI_L {t : Nat → Nat} {n r : Nat} (h : r < n) (h2 : t r < 256) : inI (nI (t r)) 97 122 = isL t n r := by
  refine (inI_N (a := 97) (b := 122) (by omega) (by decide) (by decide)).trans ?_
  unfold isL
  rw [decide_eq_true h]
  by_cases h3 : 97 ≤ t r <;> by_cases h4 : t r ≤ 122 <;> simp [h3, h4]
theorem isL_out {t : Nat → Nat} {n r : Nat} (h : ¬ r < n) : isL t n r = false := by simp [isL, h]

set_option maxHeartbeats 4000000 in
set_option maxRecDepth 100000 in
/-- goneRow -/
theorem c_Mo_goneRow (l : Launch) (G : Gx) (lo : Nat) (V : Vw) (sz : Nat) (m mt ns np : Nat) (u0 u3 u4 u5 u6 u7 u8 u11 u12 u15 u16 u17 u18 u19 u20 : Value) (g sp F : Nat → Int32) (t : Nat → Nat) (n q : Nat) (hn : [m, mt, ns, np].Nodup) (hT : mtOk g t n) (h4 : n ≤ 400) (hq4 : q ≤ 500) : Met l y_Mo_goneRow ws_Mo_goneRow ({ frames := 3, cells := 0, slots := 0, locals := 80 } : Room) (vPre G lo [.ref m] (vU V [(m, eO 8 [u0, .int (nI n), .ref mt, u3, u4, u5, u6, u7, u8, .ref np, .ref ns, u11, u12, .int (nI q), .int ((-1)), u15, u16, u17, u18, u19, u20]), (mt, eI (gI G) 400 g), (ns, eI (gI G) 62 sp), (np, eI (gI G) 1769 F)]) sz) (vPost G lo (fun r V' k => r = none ∧ (∃ (a9 : Nat) (sp2 F2 : Nat → Int32), V' = vU V [(m, eO 8 [u0, .int (nI n), .ref mt, u3, u4, u5, u6, u7, u8, .ref np, .ref ns, u11, u12, .int (nI a9), .int (wI (semi t n (goneR t n q))), u15, u16, u17, u18, u19, u20]), (mt, eI (gI G) 400 g), (ns, eI (gI G) 62 sp2), (np, eI (gI G) 1769 F2)] ∧ ∀ z, semi t n (goneR t n q) = .inr z → a9 = z.2 ∧ (z.1.1 = 112 → F2 = upd F (29 * z.1.2) 0 ∧ sp2 = sp) ∧ (z.1.1 = 104 → F2 = F ∧ sp2 = upd sp z.1.2 0) ∧ (z.1.1 = 115 → F2 = F ∧ sp2 = upd sp (31 + z.1.2) 0)) ∧ k = sz)) 0 0 (vL lo) := by
  refine vMet (R := RMo) (by decide) rfl (Nat.le_of_ble_eq_true rfl) ?_
  intro pg ev s mi args below meth cd hx hb hr hml hlk hnm hts hown hK hz hV ls hl
  have hl : lv_has ls 3 [(0, .ref m)] := hl
  have hV0 := hV
  obtain ⟨H, hH⟩ : ∃ H, H = s.heap := ⟨_, rfl⟩
  obtain ⟨locs, hlocs⟩ : ∃ locs : List Loc, locs = [] := ⟨_, rfl⟩
  rw [← hH, ← hlocs]
  rw [← hH] at hz
  replace hV : vS G.1 cls lo s H locs (vU V [(m, eO 8 [u0, .int (nI n), .ref mt, u3, u4, u5, u6, u7, u8, .ref np, .ref ns, u11, u12, .int (nI q), .int ((-1)), u15, u16, u17, u18, u19, u20]), (mt, eI (gI G) 400 g), (ns, eI (gI G) 62 sp), (np, eI (gI G) 1769 F)]) := by rw [hH, hlocs]; exact hV
  clear hH hlocs hV0
  refine lv_aload_n hx hb d_Mo_goneRow_0 rfl (lv_at hl 0 rfl) ?_
  refine v_call (va_runV (As := []) (rest := []) ⟨hx, hb, hml, hown, hts⟩ (c_Mo_see l G lo _ _ m mt u0 u3 u4 u5 u6 u7 u8 (.ref np) (.ref ns) u11 u12 (.int ((-1))) u15 u16 u17 u18 u19 u20 g t n q (nd_sub hn [0, 1] (by decide) rfl) hT h4 (by omega)) (kwV 0 hts w_co_Mo_see rfl rfl w_it_Mo w_ml_Mo_71 w_im_Mo_see w_se_Mo__Mo_see (by decide +kernel) ⟨(Nat.le_of_ble_eq_true rfl), (Nat.le_of_ble_eq_true rfl)⟩) (u_preV hK hV hn [0, 1] rfl hz 0 rfl rfl) rfl rfl hl.1 rfl (lv_room (Nat.le_of_ble_eq_true rfl)) d_Mo_goneRow_1 ⟨(Nat.le_of_ble_eq_true rfl), (Nat.le_of_ble_eq_true rfl)⟩) hV (fun r9 V9 H locs hp hV hle => ?_)
  obtain ⟨rfl, rfl, hz⟩ := hp
  replace hV := u_back hV hn [0, 1] rfl
  have hV : vS G.1 cls lo s H locs (vU V [(m, eO 8 [u0, .int (nI n), .ref mt, u3, u4, u5, u6, u7, u8, .ref np, .ref ns, u11, u12, .int (nI (sk t n q)), .int ((-1)), u15, u16, u17, u18, u19, u20]), (mt, eI (gI G) 400 g), (ns, eI (gI G) 62 sp), (np, eI (gI G) 1769 F)]) := hV
  obtain ⟨q_1, hq_1⟩ : ∃ z, sk t n q = z := ⟨_, rfl⟩
  rw [hq_1] at hV
  have gq_1 : q ≤ q_1 := by rw [← hq_1]; exact sk_ge t n q
  have bq_1 : q_1 ≤ n ∨ q_1 = q := by rw [← hq_1]; exact sk_le2 t n q
  rcases Nat.lt_or_ge q_1 n with l_2 | l_2
  · have kl_2 := (hT q_1 l_2).1
    have hV : vS G.1 cls lo s H locs (vU V [(m, eO 8 [u0, .int (nI n), .ref mt, u3, u4, u5, u6, u7, u8, .ref np, .ref ns, u11, u12, .int (nI q_1), .int ((-1)), u15, u16, u17, u18, u19, u20]), (mt, eI (gI G) 400 g), (ns, eI (gI G) 62 sp), (np, eI (gI G) 1769 F)]) := hV
    refine W.eq (g2 := F0 mi 4 ls [.int (nI (t q_1))]) (by rw [hq_1, rK_in l_2]; rfl) ?_
    refine lv_istore_n (lv' := [(1, .int (nI (t q_1))), (0, .ref m)]) hx hb d_Mo_goneRow_4 rfl hl (by decide) rfl (fun ls hl => ?_)
    refine lv_iload_n hx hb d_Mo_goneRow_5 rfl (lv_at hl 0 rfl) ?_
    refine lv_bipush (v := 112) hx hb d_Mo_goneRow_6 (by decide) ?_
    refine lv_icmp_eq (tgt := 31) hx hb d_Mo_goneRow_8 (by decide) (fun c_3 => ?_) (fun c_3 => ?_)
    · replace c_3 : t q_1 = 112 := (nI_eq (a := t q_1) (b := 112) (by omega) (by omega)).mp c_3
      refine lv_aload_n hx hb d_Mo_goneRow_31 rfl (lv_at hl 1 rfl) ?_
      refine lv_dup hx hb d_Mo_goneRow_32 rfl ?_
      refine u_get hx hb hts inMo hown hK hV hn 0 rfl rfl 13 (by decide) w_fl_Mo_61 rfl rfl d_Mo_goneRow_33 ?_
      refine lv_iconst (v := 1) hx hb d_Mo_goneRow_36 (by decide) ?_
      refine e_iadd (v := nI (q_1 + 1)) hx hb d_Mo_goneRow_37 (nI_add q_1 1) ?_
      refine u_put hx hb hts inMo tyMo tyMo_ok nmMo hown hK hV hn 0 rfl rfl 13 (by decide) w_fl_Mo_61 rfl rfl rfl rfl (Nat.le_of_ble_eq_true rfl) d_Mo_goneRow_38 (fun H locs hV hz9 => ?_)
      have hV : vS G.1 cls lo s H locs (vU V [(m, eO 8 [u0, .int (nI n), .ref mt, u3, u4, u5, u6, u7, u8, .ref np, .ref ns, u11, u12, .int (nI (q_1 + 1)), .int ((-1)), u15, u16, u17, u18, u19, u20]), (mt, eI (gI G) 400 g), (ns, eI (gI G) 62 sp), (np, eI (gI G) 1769 F)]) := hV
      replace hz := hz9.trans hz
      refine lv_aload_n hx hb d_Mo_goneRow_41 rfl (lv_at hl 1 rfl) ?_
      refine lv_iconst (v := 1) hx hb d_Mo_goneRow_42 (by decide) ?_
      refine lv_iload_n hx hb d_Mo_goneRow_43 rfl (lv_at hl 0 rfl) ?_
      refine lv_bipush (v := 112) hx hb d_Mo_goneRow_44 (by decide) ?_
      refine lv_icmp_ne (tgt := 54) hx hb d_Mo_goneRow_46 (by decide) (fun c_4 => absurd ((nI_eq (a := t q_1) (b := 112) (by omega) (by omega)).mpr (by omega)) c_4) (fun _ => ?_)
      refine lv_bipush (v := 60) hx hb d_Mo_goneRow_49 (by decide) ?_
      refine lv_goto (tgt := 56) hx hb d_Mo_goneRow_51 (by decide) ?_
      refine v_call (va_runV (As := [.int 1, .int 60]) (rest := []) ⟨hx, hb, hml, hown, hts⟩ (c_Mo_number l G lo _ _ m mt u0 u3 u4 u5 u6 u7 u8 (.ref np) (.ref ns) u11 u12 u15 u16 u17 u18 u19 u20 g t n (q_1 + 1) (nd_sub hn [0, 1] (by decide) rfl) hT h4 (by omega) 1 60 (by omega) (by omega)) (kwV 2 hts w_co_Mo_number rfl rfl w_it_Mo w_ml_Mo_82 w_im_Mo_number w_se_Mo__Mo_number (by decide +kernel) ⟨(Nat.le_of_ble_eq_true rfl), (Nat.le_of_ble_eq_true rfl)⟩) (u_preV hK hV hn [0, 1] rfl hz 0 rfl rfl) rfl rfl hl.1 rfl (lv_room (Nat.le_of_ble_eq_true rfl)) d_Mo_goneRow_56 ⟨(Nat.le_of_ble_eq_true rfl), (Nat.le_of_ble_eq_true rfl)⟩) hV (fun r9 V9 H locs hp hV hle => ?_)
      obtain ⟨rfl, rfl, hz⟩ := hp
      replace hV := u_back hV hn [0, 1] rfl
      have hV : vS G.1 cls lo s H locs (vU V [(m, eO 8 [u0, .int (nI n), .ref mt, u3, u4, u5, u6, u7, u8, .ref np, .ref ns, u11, u12, .int (nI ((dgs t n 4 0 0 (sk t n (q_1 + 1))).2.2)), .int (wI (num t n 1 60 (q_1 + 1))), u15, u16, u17, u18, u19, u20]), (mt, eI (gI G) 400 g), (ns, eI (gI G) 62 sp), (np, eI (gI G) 1769 F)]) := hV
      obtain ⟨x_5, hx_5⟩ : ∃ z, num t n 1 60 (q_1 + 1) = z := ⟨_, rfl⟩
      rw [hx_5] at hV
      rcases x_5 with e_5 | ⟨v_5, q_5⟩
      · obtain ⟨ax_5, hax_5⟩ : ∃ z, (dgs t n 4 0 0 (sk t n (q_1 + 1))).2.2 = z := ⟨_, rfl⟩
        rw [hax_5] at hV
        have be_5 := num_er2 hx_5
        have bax_5 := dgs_le2 hax_5
        have hV : vS G.1 cls lo s H locs (vU V [(m, eO 8 [u0, .int (nI n), .ref mt, u3, u4, u5, u6, u7, u8, .ref np, .ref ns, u11, u12, .int (nI ax_5), .int (nI e_5), u15, u16, u17, u18, u19, u20]), (mt, eI (gI G) 400 g), (ns, eI (gI G) 62 sp), (np, eI (gI G) 1769 F)]) := hV
        refine W.eq (g2 := F0 mi 59 ls [.int 1]) (by rw [hx_5]; rfl) ?_
        refine lv_istore_n (lv' := [(2, .int 1), (1, .int (nI (t q_1))), (0, .ref m)]) hx hb d_Mo_goneRow_59 rfl hl (by decide) rfl (fun ls hl => ?_)
        refine lv_aload_n hx hb d_Mo_goneRow_60 rfl (lv_at hl 2 rfl) ?_
        refine lv_bipush (v := 59) hx hb d_Mo_goneRow_61 (by decide) ?_
        refine v_call (va_runV (As := [.int 59]) (rest := []) ⟨hx, hb, hml, hown, hts⟩ (c_Mo_takeB l G lo _ _ m u0 (.int (nI n)) (.ref mt) u3 u4 u5 u6 u7 u8 (.ref np) (.ref ns) u11 u12 (.int (nI ax_5)) u15 u16 u17 u18 u19 u20 (by simp) e_5 (by omega) 59) (kwV 1 hts w_co_Mo_take rfl rfl w_it_Mo w_ml_Mo_86 w_im_Mo_take w_se_Mo__Mo_take (by decide +kernel) ⟨(Nat.le_of_ble_eq_true rfl), (Nat.le_of_ble_eq_true rfl)⟩) (u_preV hK hV hn [0] rfl hz 0 rfl rfl) rfl rfl hl.1 rfl (lv_room (Nat.le_of_ble_eq_true rfl)) d_Mo_goneRow_63 ⟨(Nat.le_of_ble_eq_true rfl), (Nat.le_of_ble_eq_true rfl)⟩) hV (fun r9 V9 H locs hp hV hle => ?_)
        obtain ⟨rfl, rfl, hz⟩ := hp
        replace hV := uu_same hV hn [0] rfl
        have hV : vS G.1 cls lo s H locs (vU V [(m, eO 8 [u0, .int (nI n), .ref mt, u3, u4, u5, u6, u7, u8, .ref np, .ref ns, u11, u12, .int (nI ax_5), .int (nI e_5), u15, u16, u17, u18, u19, u20]), (mt, eI (gI G) 400 g), (ns, eI (gI G) 62 sp), (np, eI (gI G) 1769 F)]) := hV
        refine lv_aload_n hx hb d_Mo_goneRow_66 rfl (lv_at hl 2 rfl) ?_
        refine u_get hx hb hts inMo hown hK hV hn 0 rfl rfl 14 (by decide) w_fl_Mo_68 rfl rfl d_Mo_goneRow_67 ?_
        refine lv_if_lt (tgt := 74) hx hb d_Mo_goneRow_70 (by decide) (fun c_6 => absurd c_6 (nI_nlt0 (by omega))) (fun c_6 => ?_)
        replace c_6 : ¬ e_5 < 0 := fun z9 => c_6 ((nI_ltI (a := e_5) (b := 0) (by omega) (by omega)).mpr z9)
        have hX : semi t n (goneR t n q) = .inl e_5 := by
          have e9 : goneR t n q = sbd (num t n 1 60 (q_1 + 1)) fun a => .inr ((t q_1, a.1), a.2) := by unfold goneR; rw [hq_1, if_pos (show q_1 < n ∧ (t q_1 = 112 ∨ t q_1 = 104 ∨ t q_1 = 115) by omega), if_pos (by omega)]
          simp only [semi, e9, hx_5, sbd_l, sbd_r]
        exact W.vret hx hb hr (v_end hV ⟨rfl, ⟨_, _, _, by rw [hX]; rfl, fun z hz9 => by rw [hX] at hz9; cases hz9⟩, hz⟩) hV.2.1.2.2 d_Mo_goneRow_73
      · rw [num_at hx_5] at hV
        obtain ⟨lv_5, uv_5, gq_5, bq_5⟩ := num_ok2 hx_5
        have hV : vS G.1 cls lo s H locs (vU V [(m, eO 8 [u0, .int (nI n), .ref mt, u3, u4, u5, u6, u7, u8, .ref np, .ref ns, u11, u12, .int (nI q_5), .int ((-1)), u15, u16, u17, u18, u19, u20]), (mt, eI (gI G) 400 g), (ns, eI (gI G) 62 sp), (np, eI (gI G) 1769 F)]) := hV
        refine W.eq (g2 := F0 mi 59 ls [.int (nI v_5)]) (by rw [hx_5]; rfl) ?_
        refine lv_istore_n (lv' := [(2, .int (nI v_5)), (1, .int (nI (t q_1))), (0, .ref m)]) hx hb d_Mo_goneRow_59 rfl hl (by decide) rfl (fun ls hl => ?_)
        refine lv_aload_n hx hb d_Mo_goneRow_60 rfl (lv_at hl 2 rfl) ?_
        refine lv_bipush (v := 59) hx hb d_Mo_goneRow_61 (by decide) ?_
        refine v_call (va_runV (As := [.int 59]) (rest := []) ⟨hx, hb, hml, hown, hts⟩ (c_Mo_take l G lo _ _ m mt u0 u3 u4 u5 u6 u7 u8 (.ref np) (.ref ns) u11 u12 u15 u16 u17 u18 u19 u20 g t n q_5 (nd_sub hn [0, 1] (by decide) rfl) hT h4 (by omega) 59 (by decide)) (kwV 1 hts w_co_Mo_take rfl rfl w_it_Mo w_ml_Mo_86 w_im_Mo_take w_se_Mo__Mo_take (by decide +kernel) ⟨(Nat.le_of_ble_eq_true rfl), (Nat.le_of_ble_eq_true rfl)⟩) (u_preV hK hV hn [0, 1] rfl hz 0 rfl rfl) rfl rfl hl.1 rfl (lv_room (Nat.le_of_ble_eq_true rfl)) d_Mo_goneRow_63 ⟨(Nat.le_of_ble_eq_true rfl), (Nat.le_of_ble_eq_true rfl)⟩) hV (fun r9 V9 H locs hp hV hle => ?_)
        obtain ⟨rfl, rfl, hz⟩ := hp
        replace hV := u_back hV hn [0, 1] rfl
        have hV : vS G.1 cls lo s H locs (vU V [(m, eO 8 [u0, .int (nI n), .ref mt, u3, u4, u5, u6, u7, u8, .ref np, .ref ns, u11, u12, .int (nI (rQ (tk t n 59 q_5))), .int (wI (tk t n 59 q_5)), u15, u16, u17, u18, u19, u20]), (mt, eI (gI G) 400 g), (ns, eI (gI G) 62 sp), (np, eI (gI G) 1769 F)]) := hV
        obtain ⟨x_7, hx_7⟩ : ∃ z, tk t n 59 q_5 = z := ⟨_, rfl⟩
        rw [hx_7] at hV
        rcases x_7 with e_7 | q_7
        · have be_7 := tk_er2 hx_7
          have hV : vS G.1 cls lo s H locs (vU V [(m, eO 8 [u0, .int (nI n), .ref mt, u3, u4, u5, u6, u7, u8, .ref np, .ref ns, u11, u12, .int (nI e_7), .int (nI e_7), u15, u16, u17, u18, u19, u20]), (mt, eI (gI G) 400 g), (ns, eI (gI G) 62 sp), (np, eI (gI G) 1769 F)]) := hV
          refine W.eq (g2 := F0 mi 66 ls []) rfl ?_
          refine lv_aload_n hx hb d_Mo_goneRow_66 rfl (lv_at hl 2 rfl) ?_
          refine u_get hx hb hts inMo hown hK hV hn 0 rfl rfl 14 (by decide) w_fl_Mo_68 rfl rfl d_Mo_goneRow_67 ?_
          refine lv_if_lt (tgt := 74) hx hb d_Mo_goneRow_70 (by decide) (fun c_8 => absurd c_8 (nI_nlt0 (by omega))) (fun c_8 => ?_)
          replace c_8 : ¬ e_7 < 0 := fun z9 => c_8 ((nI_ltI (a := e_7) (b := 0) (by omega) (by omega)).mpr z9)
          have hX : semi t n (goneR t n q) = .inl e_7 := by
            have e9 : goneR t n q = sbd (num t n 1 60 (q_1 + 1)) fun a => .inr ((t q_1, a.1), a.2) := by unfold goneR; rw [hq_1, if_pos (show q_1 < n ∧ (t q_1 = 112 ∨ t q_1 = 104 ∨ t q_1 = 115) by omega), if_pos (by omega)]
            simp only [semi, e9, hx_5, hx_7, sbd_l, sbd_r]
          exact W.vret hx hb hr (v_end hV ⟨rfl, ⟨_, _, _, by rw [hX]; rfl, fun z hz9 => by rw [hX] at hz9; cases hz9⟩, hz⟩) hV.2.1.2.2 d_Mo_goneRow_73
        · obtain ⟨gq_7, bq_7⟩ := tk_ok hx_7
          have hV : vS G.1 cls lo s H locs (vU V [(m, eO 8 [u0, .int (nI n), .ref mt, u3, u4, u5, u6, u7, u8, .ref np, .ref ns, u11, u12, .int (nI q_7), .int ((-1)), u15, u16, u17, u18, u19, u20]), (mt, eI (gI G) 400 g), (ns, eI (gI G) 62 sp), (np, eI (gI G) 1769 F)]) := hV
          refine W.eq (g2 := F0 mi 66 ls []) rfl ?_
          refine lv_aload_n hx hb d_Mo_goneRow_66 rfl (lv_at hl 2 rfl) ?_
          refine u_get hx hb hts inMo hown hK hV hn 0 rfl rfl 14 (by decide) w_fl_Mo_68 rfl rfl d_Mo_goneRow_67 ?_
          refine lv_if_lt (tgt := 74) hx hb d_Mo_goneRow_70 (by decide) (fun _ => ?_) (fun c_9 => absurd c_9 (by decide))
          have hX : semi t n (goneR t n q) = .inr ((t q_1, v_5), q_7) := by
            have e9 : goneR t n q = sbd (num t n 1 60 (q_1 + 1)) fun a => .inr ((t q_1, a.1), a.2) := by unfold goneR; rw [hq_1, if_pos (show q_1 < n ∧ (t q_1 = 112 ∨ t q_1 = 104 ∨ t q_1 = 115) by omega), if_pos (by omega)]
            simp only [semi, e9, hx_5, hx_7, sbd_l, sbd_r]
          refine lv_iload_n hx hb d_Mo_goneRow_74 rfl (lv_at hl 1 rfl) ?_
          refine lv_bipush (v := 112) hx hb d_Mo_goneRow_75 (by decide) ?_
          refine lv_icmp_ne (tgt := 95) hx hb d_Mo_goneRow_77 (by decide) (fun c_10 => absurd ((nI_eq (a := t q_1) (b := 112) (by omega) (by omega)).mpr (by omega)) c_10) (fun _ => ?_)
          refine lv_aload_n hx hb d_Mo_goneRow_80 rfl (lv_at hl 2 rfl) ?_
          refine u_get hx hb hts inMo hown hK hV hn 0 rfl rfl 9 (by decide) w_fl_Mo_29 rfl rfl d_Mo_goneRow_81 ?_
          refine lv_iload_n hx hb d_Mo_goneRow_84 rfl (lv_at hl 0 rfl) ?_
          refine lv_bipush (v := 29) hx hb d_Mo_goneRow_85 (by decide) ?_
          refine e_imul (v := nI (29 * v_5)) hx hb d_Mo_goneRow_87 (by rw [Nat.mul_comm 29 v_5]; exact nI_mul v_5 29) ?_
          refine lv_iconst (v := 0) hx hb d_Mo_goneRow_88 (by decide) ?_
          refine e_iadd (v := nI (29 * v_5)) hx hb d_Mo_goneRow_89 (nI_add (29 * v_5) 0) ?_
          refine lv_iconst (v := 0) hx hb d_Mo_goneRow_90 (by decide) ?_
          refine u_iastN hx hb hK hV hn 3 rfl (by omega) (by decide) d_Mo_goneRow_91 (fun H locs hV hz9 => ?_)
          have hV : vS G.1 cls lo s H locs (vU V [(m, eO 8 [u0, .int (nI n), .ref mt, u3, u4, u5, u6, u7, u8, .ref np, .ref ns, u11, u12, .int (nI q_7), .int ((-1)), u15, u16, u17, u18, u19, u20]), (mt, eI (gI G) 400 g), (ns, eI (gI G) 62 sp), (np, eI (gI G) 1769 (upd F (29 * v_5) 0))]) := hV
          replace hz := hz9.trans hz
          refine lv_goto (tgt := 115) hx hb d_Mo_goneRow_92 (by decide) ?_
          exact W.vret hx hb hr (v_end hV ⟨rfl, ⟨_, _, _, by rw [hX]; rfl, fun z hz9 => by rw [hX] at hz9; cases hz9; exact ⟨rfl, fun _ => ⟨rfl, rfl⟩, fun z9 => absurd (show t q_1 = 104 from z9) (by omega), fun z9 => absurd (show t q_1 = 115 from z9) (by omega)⟩⟩, hz⟩) hV.2.1.2.2 d_Mo_goneRow_115
    · replace c_3 : ¬ t q_1 = 112 := fun z9 => c_3 ((nI_eq (a := t q_1) (b := 112) (by omega) (by omega)).mpr z9)
      refine lv_iload_n hx hb d_Mo_goneRow_11 rfl (lv_at hl 0 rfl) ?_
      refine lv_bipush (v := 104) hx hb d_Mo_goneRow_12 (by decide) ?_
      refine lv_icmp_eq (tgt := 31) hx hb d_Mo_goneRow_14 (by decide) (fun c_11 => ?_) (fun c_11 => ?_)
      · replace c_11 : t q_1 = 104 := (nI_eq (a := t q_1) (b := 104) (by omega) (by omega)).mp c_11
        refine lv_aload_n hx hb d_Mo_goneRow_31 rfl (lv_at hl 1 rfl) ?_
        refine lv_dup hx hb d_Mo_goneRow_32 rfl ?_
        refine u_get hx hb hts inMo hown hK hV hn 0 rfl rfl 13 (by decide) w_fl_Mo_61 rfl rfl d_Mo_goneRow_33 ?_
        refine lv_iconst (v := 1) hx hb d_Mo_goneRow_36 (by decide) ?_
        refine e_iadd (v := nI (q_1 + 1)) hx hb d_Mo_goneRow_37 (nI_add q_1 1) ?_
        refine u_put hx hb hts inMo tyMo tyMo_ok nmMo hown hK hV hn 0 rfl rfl 13 (by decide) w_fl_Mo_61 rfl rfl rfl rfl (Nat.le_of_ble_eq_true rfl) d_Mo_goneRow_38 (fun H locs hV hz9 => ?_)
        have hV : vS G.1 cls lo s H locs (vU V [(m, eO 8 [u0, .int (nI n), .ref mt, u3, u4, u5, u6, u7, u8, .ref np, .ref ns, u11, u12, .int (nI (q_1 + 1)), .int ((-1)), u15, u16, u17, u18, u19, u20]), (mt, eI (gI G) 400 g), (ns, eI (gI G) 62 sp), (np, eI (gI G) 1769 F)]) := hV
        replace hz := hz9.trans hz
        refine lv_aload_n hx hb d_Mo_goneRow_41 rfl (lv_at hl 1 rfl) ?_
        refine lv_iconst (v := 1) hx hb d_Mo_goneRow_42 (by decide) ?_
        refine lv_iload_n hx hb d_Mo_goneRow_43 rfl (lv_at hl 0 rfl) ?_
        refine lv_bipush (v := 112) hx hb d_Mo_goneRow_44 (by decide) ?_
        refine lv_icmp_ne (tgt := 54) hx hb d_Mo_goneRow_46 (by decide) (fun _ => ?_) (fun c_12 => absurd ((nI_eq (a := t q_1) (b := 112) (by omega) (by omega)).mp c_12) (by omega))
        refine lv_bipush (v := 30) hx hb d_Mo_goneRow_54 (by decide) ?_
        refine v_call (va_runV (As := [.int 1, .int 30]) (rest := []) ⟨hx, hb, hml, hown, hts⟩ (c_Mo_number l G lo _ _ m mt u0 u3 u4 u5 u6 u7 u8 (.ref np) (.ref ns) u11 u12 u15 u16 u17 u18 u19 u20 g t n (q_1 + 1) (nd_sub hn [0, 1] (by decide) rfl) hT h4 (by omega) 1 30 (by omega) (by omega)) (kwV 2 hts w_co_Mo_number rfl rfl w_it_Mo w_ml_Mo_82 w_im_Mo_number w_se_Mo__Mo_number (by decide +kernel) ⟨(Nat.le_of_ble_eq_true rfl), (Nat.le_of_ble_eq_true rfl)⟩) (u_preV hK hV hn [0, 1] rfl hz 0 rfl rfl) rfl rfl hl.1 rfl (lv_room (Nat.le_of_ble_eq_true rfl)) d_Mo_goneRow_56 ⟨(Nat.le_of_ble_eq_true rfl), (Nat.le_of_ble_eq_true rfl)⟩) hV (fun r9 V9 H locs hp hV hle => ?_)
        obtain ⟨rfl, rfl, hz⟩ := hp
        replace hV := u_back hV hn [0, 1] rfl
        have hV : vS G.1 cls lo s H locs (vU V [(m, eO 8 [u0, .int (nI n), .ref mt, u3, u4, u5, u6, u7, u8, .ref np, .ref ns, u11, u12, .int (nI ((dgs t n 4 0 0 (sk t n (q_1 + 1))).2.2)), .int (wI (num t n 1 30 (q_1 + 1))), u15, u16, u17, u18, u19, u20]), (mt, eI (gI G) 400 g), (ns, eI (gI G) 62 sp), (np, eI (gI G) 1769 F)]) := hV
        obtain ⟨x_13, hx_13⟩ : ∃ z, num t n 1 30 (q_1 + 1) = z := ⟨_, rfl⟩
        rw [hx_13] at hV
        rcases x_13 with e_13 | ⟨v_13, q_13⟩
        · obtain ⟨ax_13, hax_13⟩ : ∃ z, (dgs t n 4 0 0 (sk t n (q_1 + 1))).2.2 = z := ⟨_, rfl⟩
          rw [hax_13] at hV
          have be_13 := num_er2 hx_13
          have bax_13 := dgs_le2 hax_13
          have hV : vS G.1 cls lo s H locs (vU V [(m, eO 8 [u0, .int (nI n), .ref mt, u3, u4, u5, u6, u7, u8, .ref np, .ref ns, u11, u12, .int (nI ax_13), .int (nI e_13), u15, u16, u17, u18, u19, u20]), (mt, eI (gI G) 400 g), (ns, eI (gI G) 62 sp), (np, eI (gI G) 1769 F)]) := hV
          refine W.eq (g2 := F0 mi 59 ls [.int 1]) (by rw [hx_13]; rfl) ?_
          refine lv_istore_n (lv' := [(2, .int 1), (1, .int (nI (t q_1))), (0, .ref m)]) hx hb d_Mo_goneRow_59 rfl hl (by decide) rfl (fun ls hl => ?_)
          refine lv_aload_n hx hb d_Mo_goneRow_60 rfl (lv_at hl 2 rfl) ?_
          refine lv_bipush (v := 59) hx hb d_Mo_goneRow_61 (by decide) ?_
          refine v_call (va_runV (As := [.int 59]) (rest := []) ⟨hx, hb, hml, hown, hts⟩ (c_Mo_takeB l G lo _ _ m u0 (.int (nI n)) (.ref mt) u3 u4 u5 u6 u7 u8 (.ref np) (.ref ns) u11 u12 (.int (nI ax_13)) u15 u16 u17 u18 u19 u20 (by simp) e_13 (by omega) 59) (kwV 1 hts w_co_Mo_take rfl rfl w_it_Mo w_ml_Mo_86 w_im_Mo_take w_se_Mo__Mo_take (by decide +kernel) ⟨(Nat.le_of_ble_eq_true rfl), (Nat.le_of_ble_eq_true rfl)⟩) (u_preV hK hV hn [0] rfl hz 0 rfl rfl) rfl rfl hl.1 rfl (lv_room (Nat.le_of_ble_eq_true rfl)) d_Mo_goneRow_63 ⟨(Nat.le_of_ble_eq_true rfl), (Nat.le_of_ble_eq_true rfl)⟩) hV (fun r9 V9 H locs hp hV hle => ?_)
          obtain ⟨rfl, rfl, hz⟩ := hp
          replace hV := uu_same hV hn [0] rfl
          have hV : vS G.1 cls lo s H locs (vU V [(m, eO 8 [u0, .int (nI n), .ref mt, u3, u4, u5, u6, u7, u8, .ref np, .ref ns, u11, u12, .int (nI ax_13), .int (nI e_13), u15, u16, u17, u18, u19, u20]), (mt, eI (gI G) 400 g), (ns, eI (gI G) 62 sp), (np, eI (gI G) 1769 F)]) := hV
          refine lv_aload_n hx hb d_Mo_goneRow_66 rfl (lv_at hl 2 rfl) ?_
          refine u_get hx hb hts inMo hown hK hV hn 0 rfl rfl 14 (by decide) w_fl_Mo_68 rfl rfl d_Mo_goneRow_67 ?_
          refine lv_if_lt (tgt := 74) hx hb d_Mo_goneRow_70 (by decide) (fun c_14 => absurd c_14 (nI_nlt0 (by omega))) (fun c_14 => ?_)
          replace c_14 : ¬ e_13 < 0 := fun z9 => c_14 ((nI_ltI (a := e_13) (b := 0) (by omega) (by omega)).mpr z9)
          have hX : semi t n (goneR t n q) = .inl e_13 := by
            have e9 : goneR t n q = sbd (num t n 1 30 (q_1 + 1)) fun a => .inr ((t q_1, a.1), a.2) := by unfold goneR; rw [hq_1, if_pos (show q_1 < n ∧ (t q_1 = 112 ∨ t q_1 = 104 ∨ t q_1 = 115) by omega), if_neg (by omega)]
            simp only [semi, e9, hx_13, sbd_l, sbd_r]
          exact W.vret hx hb hr (v_end hV ⟨rfl, ⟨_, _, _, by rw [hX]; rfl, fun z hz9 => by rw [hX] at hz9; cases hz9⟩, hz⟩) hV.2.1.2.2 d_Mo_goneRow_73
        · rw [num_at hx_13] at hV
          obtain ⟨lv_13, uv_13, gq_13, bq_13⟩ := num_ok2 hx_13
          have hV : vS G.1 cls lo s H locs (vU V [(m, eO 8 [u0, .int (nI n), .ref mt, u3, u4, u5, u6, u7, u8, .ref np, .ref ns, u11, u12, .int (nI q_13), .int ((-1)), u15, u16, u17, u18, u19, u20]), (mt, eI (gI G) 400 g), (ns, eI (gI G) 62 sp), (np, eI (gI G) 1769 F)]) := hV
          refine W.eq (g2 := F0 mi 59 ls [.int (nI v_13)]) (by rw [hx_13]; rfl) ?_
          refine lv_istore_n (lv' := [(2, .int (nI v_13)), (1, .int (nI (t q_1))), (0, .ref m)]) hx hb d_Mo_goneRow_59 rfl hl (by decide) rfl (fun ls hl => ?_)
          refine lv_aload_n hx hb d_Mo_goneRow_60 rfl (lv_at hl 2 rfl) ?_
          refine lv_bipush (v := 59) hx hb d_Mo_goneRow_61 (by decide) ?_
          refine v_call (va_runV (As := [.int 59]) (rest := []) ⟨hx, hb, hml, hown, hts⟩ (c_Mo_take l G lo _ _ m mt u0 u3 u4 u5 u6 u7 u8 (.ref np) (.ref ns) u11 u12 u15 u16 u17 u18 u19 u20 g t n q_13 (nd_sub hn [0, 1] (by decide) rfl) hT h4 (by omega) 59 (by decide)) (kwV 1 hts w_co_Mo_take rfl rfl w_it_Mo w_ml_Mo_86 w_im_Mo_take w_se_Mo__Mo_take (by decide +kernel) ⟨(Nat.le_of_ble_eq_true rfl), (Nat.le_of_ble_eq_true rfl)⟩) (u_preV hK hV hn [0, 1] rfl hz 0 rfl rfl) rfl rfl hl.1 rfl (lv_room (Nat.le_of_ble_eq_true rfl)) d_Mo_goneRow_63 ⟨(Nat.le_of_ble_eq_true rfl), (Nat.le_of_ble_eq_true rfl)⟩) hV (fun r9 V9 H locs hp hV hle => ?_)
          obtain ⟨rfl, rfl, hz⟩ := hp
          replace hV := u_back hV hn [0, 1] rfl
          have hV : vS G.1 cls lo s H locs (vU V [(m, eO 8 [u0, .int (nI n), .ref mt, u3, u4, u5, u6, u7, u8, .ref np, .ref ns, u11, u12, .int (nI (rQ (tk t n 59 q_13))), .int (wI (tk t n 59 q_13)), u15, u16, u17, u18, u19, u20]), (mt, eI (gI G) 400 g), (ns, eI (gI G) 62 sp), (np, eI (gI G) 1769 F)]) := hV
          obtain ⟨x_15, hx_15⟩ : ∃ z, tk t n 59 q_13 = z := ⟨_, rfl⟩
          rw [hx_15] at hV
          rcases x_15 with e_15 | q_15
          · have be_15 := tk_er2 hx_15
            have hV : vS G.1 cls lo s H locs (vU V [(m, eO 8 [u0, .int (nI n), .ref mt, u3, u4, u5, u6, u7, u8, .ref np, .ref ns, u11, u12, .int (nI e_15), .int (nI e_15), u15, u16, u17, u18, u19, u20]), (mt, eI (gI G) 400 g), (ns, eI (gI G) 62 sp), (np, eI (gI G) 1769 F)]) := hV
            refine W.eq (g2 := F0 mi 66 ls []) rfl ?_
            refine lv_aload_n hx hb d_Mo_goneRow_66 rfl (lv_at hl 2 rfl) ?_
            refine u_get hx hb hts inMo hown hK hV hn 0 rfl rfl 14 (by decide) w_fl_Mo_68 rfl rfl d_Mo_goneRow_67 ?_
            refine lv_if_lt (tgt := 74) hx hb d_Mo_goneRow_70 (by decide) (fun c_16 => absurd c_16 (nI_nlt0 (by omega))) (fun c_16 => ?_)
            replace c_16 : ¬ e_15 < 0 := fun z9 => c_16 ((nI_ltI (a := e_15) (b := 0) (by omega) (by omega)).mpr z9)
            have hX : semi t n (goneR t n q) = .inl e_15 := by
              have e9 : goneR t n q = sbd (num t n 1 30 (q_1 + 1)) fun a => .inr ((t q_1, a.1), a.2) := by unfold goneR; rw [hq_1, if_pos (show q_1 < n ∧ (t q_1 = 112 ∨ t q_1 = 104 ∨ t q_1 = 115) by omega), if_neg (by omega)]
              simp only [semi, e9, hx_13, hx_15, sbd_l, sbd_r]
            exact W.vret hx hb hr (v_end hV ⟨rfl, ⟨_, _, _, by rw [hX]; rfl, fun z hz9 => by rw [hX] at hz9; cases hz9⟩, hz⟩) hV.2.1.2.2 d_Mo_goneRow_73
          · obtain ⟨gq_15, bq_15⟩ := tk_ok hx_15
            have hV : vS G.1 cls lo s H locs (vU V [(m, eO 8 [u0, .int (nI n), .ref mt, u3, u4, u5, u6, u7, u8, .ref np, .ref ns, u11, u12, .int (nI q_15), .int ((-1)), u15, u16, u17, u18, u19, u20]), (mt, eI (gI G) 400 g), (ns, eI (gI G) 62 sp), (np, eI (gI G) 1769 F)]) := hV
            refine W.eq (g2 := F0 mi 66 ls []) rfl ?_
            refine lv_aload_n hx hb d_Mo_goneRow_66 rfl (lv_at hl 2 rfl) ?_
            refine u_get hx hb hts inMo hown hK hV hn 0 rfl rfl 14 (by decide) w_fl_Mo_68 rfl rfl d_Mo_goneRow_67 ?_
            refine lv_if_lt (tgt := 74) hx hb d_Mo_goneRow_70 (by decide) (fun _ => ?_) (fun c_17 => absurd c_17 (by decide))
            have hX : semi t n (goneR t n q) = .inr ((t q_1, v_13), q_15) := by
              have e9 : goneR t n q = sbd (num t n 1 30 (q_1 + 1)) fun a => .inr ((t q_1, a.1), a.2) := by unfold goneR; rw [hq_1, if_pos (show q_1 < n ∧ (t q_1 = 112 ∨ t q_1 = 104 ∨ t q_1 = 115) by omega), if_neg (by omega)]
              simp only [semi, e9, hx_13, hx_15, sbd_l, sbd_r]
            refine lv_iload_n hx hb d_Mo_goneRow_74 rfl (lv_at hl 1 rfl) ?_
            refine lv_bipush (v := 112) hx hb d_Mo_goneRow_75 (by decide) ?_
            refine lv_icmp_ne (tgt := 95) hx hb d_Mo_goneRow_77 (by decide) (fun _ => ?_) (fun c_18 => absurd ((nI_eq (a := t q_1) (b := 112) (by omega) (by omega)).mp c_18) (by omega))
            refine lv_aload_n hx hb d_Mo_goneRow_95 rfl (lv_at hl 2 rfl) ?_
            refine u_get hx hb hts inMo hown hK hV hn 0 rfl rfl 10 (by decide) w_fl_Mo_32 rfl rfl d_Mo_goneRow_96 ?_
            refine lv_iload_n hx hb d_Mo_goneRow_99 rfl (lv_at hl 1 rfl) ?_
            refine lv_bipush (v := 104) hx hb d_Mo_goneRow_100 (by decide) ?_
            refine lv_icmp_ne (tgt := 109) hx hb d_Mo_goneRow_102 (by decide) (fun c_19 => absurd ((nI_eq (a := t q_1) (b := 104) (by omega) (by omega)).mpr (by omega)) c_19) (fun _ => ?_)
            refine lv_iload_n hx hb d_Mo_goneRow_105 rfl (lv_at hl 0 rfl) ?_
            refine lv_goto (tgt := 113) hx hb d_Mo_goneRow_106 (by decide) ?_
            refine lv_iconst (v := 0) hx hb d_Mo_goneRow_113 (by decide) ?_
            refine u_iastN hx hb hK hV hn 2 rfl (by omega) (by decide) d_Mo_goneRow_114 (fun H locs hV hz9 => ?_)
            have hV : vS G.1 cls lo s H locs (vU V [(m, eO 8 [u0, .int (nI n), .ref mt, u3, u4, u5, u6, u7, u8, .ref np, .ref ns, u11, u12, .int (nI q_15), .int ((-1)), u15, u16, u17, u18, u19, u20]), (mt, eI (gI G) 400 g), (ns, eI (gI G) 62 (upd sp v_13 0)), (np, eI (gI G) 1769 F)]) := hV
            replace hz := hz9.trans hz
            exact W.vret hx hb hr (v_end hV ⟨rfl, ⟨_, _, _, by rw [hX]; rfl, fun z hz9 => by rw [hX] at hz9; cases hz9; exact ⟨rfl, fun z9 => absurd (show t q_1 = 112 from z9) (by omega), fun _ => ⟨rfl, rfl⟩, fun z9 => absurd (show t q_1 = 115 from z9) (by omega)⟩⟩, hz⟩) hV.2.1.2.2 d_Mo_goneRow_115
      · replace c_11 : ¬ t q_1 = 104 := fun z9 => c_11 ((nI_eq (a := t q_1) (b := 104) (by omega) (by omega)).mpr z9)
        refine lv_iload_n hx hb d_Mo_goneRow_17 rfl (lv_at hl 0 rfl) ?_
        refine lv_bipush (v := 115) hx hb d_Mo_goneRow_18 (by decide) ?_
        refine lv_icmp_eq (tgt := 31) hx hb d_Mo_goneRow_20 (by decide) (fun c_20 => ?_) (fun c_20 => ?_)
        · replace c_20 : t q_1 = 115 := (nI_eq (a := t q_1) (b := 115) (by omega) (by omega)).mp c_20
          refine lv_aload_n hx hb d_Mo_goneRow_31 rfl (lv_at hl 1 rfl) ?_
          refine lv_dup hx hb d_Mo_goneRow_32 rfl ?_
          refine u_get hx hb hts inMo hown hK hV hn 0 rfl rfl 13 (by decide) w_fl_Mo_61 rfl rfl d_Mo_goneRow_33 ?_
          refine lv_iconst (v := 1) hx hb d_Mo_goneRow_36 (by decide) ?_
          refine e_iadd (v := nI (q_1 + 1)) hx hb d_Mo_goneRow_37 (nI_add q_1 1) ?_
          refine u_put hx hb hts inMo tyMo tyMo_ok nmMo hown hK hV hn 0 rfl rfl 13 (by decide) w_fl_Mo_61 rfl rfl rfl rfl (Nat.le_of_ble_eq_true rfl) d_Mo_goneRow_38 (fun H locs hV hz9 => ?_)
          have hV : vS G.1 cls lo s H locs (vU V [(m, eO 8 [u0, .int (nI n), .ref mt, u3, u4, u5, u6, u7, u8, .ref np, .ref ns, u11, u12, .int (nI (q_1 + 1)), .int ((-1)), u15, u16, u17, u18, u19, u20]), (mt, eI (gI G) 400 g), (ns, eI (gI G) 62 sp), (np, eI (gI G) 1769 F)]) := hV
          replace hz := hz9.trans hz
          refine lv_aload_n hx hb d_Mo_goneRow_41 rfl (lv_at hl 1 rfl) ?_
          refine lv_iconst (v := 1) hx hb d_Mo_goneRow_42 (by decide) ?_
          refine lv_iload_n hx hb d_Mo_goneRow_43 rfl (lv_at hl 0 rfl) ?_
          refine lv_bipush (v := 112) hx hb d_Mo_goneRow_44 (by decide) ?_
          refine lv_icmp_ne (tgt := 54) hx hb d_Mo_goneRow_46 (by decide) (fun _ => ?_) (fun c_21 => absurd ((nI_eq (a := t q_1) (b := 112) (by omega) (by omega)).mp c_21) (by omega))
          refine lv_bipush (v := 30) hx hb d_Mo_goneRow_54 (by decide) ?_
          refine v_call (va_runV (As := [.int 1, .int 30]) (rest := []) ⟨hx, hb, hml, hown, hts⟩ (c_Mo_number l G lo _ _ m mt u0 u3 u4 u5 u6 u7 u8 (.ref np) (.ref ns) u11 u12 u15 u16 u17 u18 u19 u20 g t n (q_1 + 1) (nd_sub hn [0, 1] (by decide) rfl) hT h4 (by omega) 1 30 (by omega) (by omega)) (kwV 2 hts w_co_Mo_number rfl rfl w_it_Mo w_ml_Mo_82 w_im_Mo_number w_se_Mo__Mo_number (by decide +kernel) ⟨(Nat.le_of_ble_eq_true rfl), (Nat.le_of_ble_eq_true rfl)⟩) (u_preV hK hV hn [0, 1] rfl hz 0 rfl rfl) rfl rfl hl.1 rfl (lv_room (Nat.le_of_ble_eq_true rfl)) d_Mo_goneRow_56 ⟨(Nat.le_of_ble_eq_true rfl), (Nat.le_of_ble_eq_true rfl)⟩) hV (fun r9 V9 H locs hp hV hle => ?_)
          obtain ⟨rfl, rfl, hz⟩ := hp
          replace hV := u_back hV hn [0, 1] rfl
          have hV : vS G.1 cls lo s H locs (vU V [(m, eO 8 [u0, .int (nI n), .ref mt, u3, u4, u5, u6, u7, u8, .ref np, .ref ns, u11, u12, .int (nI ((dgs t n 4 0 0 (sk t n (q_1 + 1))).2.2)), .int (wI (num t n 1 30 (q_1 + 1))), u15, u16, u17, u18, u19, u20]), (mt, eI (gI G) 400 g), (ns, eI (gI G) 62 sp), (np, eI (gI G) 1769 F)]) := hV
          obtain ⟨x_22, hx_22⟩ : ∃ z, num t n 1 30 (q_1 + 1) = z := ⟨_, rfl⟩
          rw [hx_22] at hV
          rcases x_22 with e_22 | ⟨v_22, q_22⟩
          · obtain ⟨ax_22, hax_22⟩ : ∃ z, (dgs t n 4 0 0 (sk t n (q_1 + 1))).2.2 = z := ⟨_, rfl⟩
            rw [hax_22] at hV
            have be_22 := num_er2 hx_22
            have bax_22 := dgs_le2 hax_22
            have hV : vS G.1 cls lo s H locs (vU V [(m, eO 8 [u0, .int (nI n), .ref mt, u3, u4, u5, u6, u7, u8, .ref np, .ref ns, u11, u12, .int (nI ax_22), .int (nI e_22), u15, u16, u17, u18, u19, u20]), (mt, eI (gI G) 400 g), (ns, eI (gI G) 62 sp), (np, eI (gI G) 1769 F)]) := hV
            refine W.eq (g2 := F0 mi 59 ls [.int 1]) (by rw [hx_22]; rfl) ?_
            refine lv_istore_n (lv' := [(2, .int 1), (1, .int (nI (t q_1))), (0, .ref m)]) hx hb d_Mo_goneRow_59 rfl hl (by decide) rfl (fun ls hl => ?_)
            refine lv_aload_n hx hb d_Mo_goneRow_60 rfl (lv_at hl 2 rfl) ?_
            refine lv_bipush (v := 59) hx hb d_Mo_goneRow_61 (by decide) ?_
            refine v_call (va_runV (As := [.int 59]) (rest := []) ⟨hx, hb, hml, hown, hts⟩ (c_Mo_takeB l G lo _ _ m u0 (.int (nI n)) (.ref mt) u3 u4 u5 u6 u7 u8 (.ref np) (.ref ns) u11 u12 (.int (nI ax_22)) u15 u16 u17 u18 u19 u20 (by simp) e_22 (by omega) 59) (kwV 1 hts w_co_Mo_take rfl rfl w_it_Mo w_ml_Mo_86 w_im_Mo_take w_se_Mo__Mo_take (by decide +kernel) ⟨(Nat.le_of_ble_eq_true rfl), (Nat.le_of_ble_eq_true rfl)⟩) (u_preV hK hV hn [0] rfl hz 0 rfl rfl) rfl rfl hl.1 rfl (lv_room (Nat.le_of_ble_eq_true rfl)) d_Mo_goneRow_63 ⟨(Nat.le_of_ble_eq_true rfl), (Nat.le_of_ble_eq_true rfl)⟩) hV (fun r9 V9 H locs hp hV hle => ?_)
            obtain ⟨rfl, rfl, hz⟩ := hp
            replace hV := uu_same hV hn [0] rfl
            have hV : vS G.1 cls lo s H locs (vU V [(m, eO 8 [u0, .int (nI n), .ref mt, u3, u4, u5, u6, u7, u8, .ref np, .ref ns, u11, u12, .int (nI ax_22), .int (nI e_22), u15, u16, u17, u18, u19, u20]), (mt, eI (gI G) 400 g), (ns, eI (gI G) 62 sp), (np, eI (gI G) 1769 F)]) := hV
            refine lv_aload_n hx hb d_Mo_goneRow_66 rfl (lv_at hl 2 rfl) ?_
            refine u_get hx hb hts inMo hown hK hV hn 0 rfl rfl 14 (by decide) w_fl_Mo_68 rfl rfl d_Mo_goneRow_67 ?_
            refine lv_if_lt (tgt := 74) hx hb d_Mo_goneRow_70 (by decide) (fun c_23 => absurd c_23 (nI_nlt0 (by omega))) (fun c_23 => ?_)
            replace c_23 : ¬ e_22 < 0 := fun z9 => c_23 ((nI_ltI (a := e_22) (b := 0) (by omega) (by omega)).mpr z9)
            have hX : semi t n (goneR t n q) = .inl e_22 := by
              have e9 : goneR t n q = sbd (num t n 1 30 (q_1 + 1)) fun a => .inr ((t q_1, a.1), a.2) := by unfold goneR; rw [hq_1, if_pos (show q_1 < n ∧ (t q_1 = 112 ∨ t q_1 = 104 ∨ t q_1 = 115) by omega), if_neg (by omega)]
              simp only [semi, e9, hx_22, sbd_l, sbd_r]
            exact W.vret hx hb hr (v_end hV ⟨rfl, ⟨_, _, _, by rw [hX]; rfl, fun z hz9 => by rw [hX] at hz9; cases hz9⟩, hz⟩) hV.2.1.2.2 d_Mo_goneRow_73
          · rw [num_at hx_22] at hV
            obtain ⟨lv_22, uv_22, gq_22, bq_22⟩ := num_ok2 hx_22
            have hV : vS G.1 cls lo s H locs (vU V [(m, eO 8 [u0, .int (nI n), .ref mt, u3, u4, u5, u6, u7, u8, .ref np, .ref ns, u11, u12, .int (nI q_22), .int ((-1)), u15, u16, u17, u18, u19, u20]), (mt, eI (gI G) 400 g), (ns, eI (gI G) 62 sp), (np, eI (gI G) 1769 F)]) := hV
            refine W.eq (g2 := F0 mi 59 ls [.int (nI v_22)]) (by rw [hx_22]; rfl) ?_
            refine lv_istore_n (lv' := [(2, .int (nI v_22)), (1, .int (nI (t q_1))), (0, .ref m)]) hx hb d_Mo_goneRow_59 rfl hl (by decide) rfl (fun ls hl => ?_)
            refine lv_aload_n hx hb d_Mo_goneRow_60 rfl (lv_at hl 2 rfl) ?_
            refine lv_bipush (v := 59) hx hb d_Mo_goneRow_61 (by decide) ?_
            refine v_call (va_runV (As := [.int 59]) (rest := []) ⟨hx, hb, hml, hown, hts⟩ (c_Mo_take l G lo _ _ m mt u0 u3 u4 u5 u6 u7 u8 (.ref np) (.ref ns) u11 u12 u15 u16 u17 u18 u19 u20 g t n q_22 (nd_sub hn [0, 1] (by decide) rfl) hT h4 (by omega) 59 (by decide)) (kwV 1 hts w_co_Mo_take rfl rfl w_it_Mo w_ml_Mo_86 w_im_Mo_take w_se_Mo__Mo_take (by decide +kernel) ⟨(Nat.le_of_ble_eq_true rfl), (Nat.le_of_ble_eq_true rfl)⟩) (u_preV hK hV hn [0, 1] rfl hz 0 rfl rfl) rfl rfl hl.1 rfl (lv_room (Nat.le_of_ble_eq_true rfl)) d_Mo_goneRow_63 ⟨(Nat.le_of_ble_eq_true rfl), (Nat.le_of_ble_eq_true rfl)⟩) hV (fun r9 V9 H locs hp hV hle => ?_)
            obtain ⟨rfl, rfl, hz⟩ := hp
            replace hV := u_back hV hn [0, 1] rfl
            have hV : vS G.1 cls lo s H locs (vU V [(m, eO 8 [u0, .int (nI n), .ref mt, u3, u4, u5, u6, u7, u8, .ref np, .ref ns, u11, u12, .int (nI (rQ (tk t n 59 q_22))), .int (wI (tk t n 59 q_22)), u15, u16, u17, u18, u19, u20]), (mt, eI (gI G) 400 g), (ns, eI (gI G) 62 sp), (np, eI (gI G) 1769 F)]) := hV
            obtain ⟨x_24, hx_24⟩ : ∃ z, tk t n 59 q_22 = z := ⟨_, rfl⟩
            rw [hx_24] at hV
            rcases x_24 with e_24 | q_24
            · have be_24 := tk_er2 hx_24
              have hV : vS G.1 cls lo s H locs (vU V [(m, eO 8 [u0, .int (nI n), .ref mt, u3, u4, u5, u6, u7, u8, .ref np, .ref ns, u11, u12, .int (nI e_24), .int (nI e_24), u15, u16, u17, u18, u19, u20]), (mt, eI (gI G) 400 g), (ns, eI (gI G) 62 sp), (np, eI (gI G) 1769 F)]) := hV
              refine W.eq (g2 := F0 mi 66 ls []) rfl ?_
              refine lv_aload_n hx hb d_Mo_goneRow_66 rfl (lv_at hl 2 rfl) ?_
              refine u_get hx hb hts inMo hown hK hV hn 0 rfl rfl 14 (by decide) w_fl_Mo_68 rfl rfl d_Mo_goneRow_67 ?_
              refine lv_if_lt (tgt := 74) hx hb d_Mo_goneRow_70 (by decide) (fun c_25 => absurd c_25 (nI_nlt0 (by omega))) (fun c_25 => ?_)
              replace c_25 : ¬ e_24 < 0 := fun z9 => c_25 ((nI_ltI (a := e_24) (b := 0) (by omega) (by omega)).mpr z9)
              have hX : semi t n (goneR t n q) = .inl e_24 := by
                have e9 : goneR t n q = sbd (num t n 1 30 (q_1 + 1)) fun a => .inr ((t q_1, a.1), a.2) := by unfold goneR; rw [hq_1, if_pos (show q_1 < n ∧ (t q_1 = 112 ∨ t q_1 = 104 ∨ t q_1 = 115) by omega), if_neg (by omega)]
                simp only [semi, e9, hx_22, hx_24, sbd_l, sbd_r]
              exact W.vret hx hb hr (v_end hV ⟨rfl, ⟨_, _, _, by rw [hX]; rfl, fun z hz9 => by rw [hX] at hz9; cases hz9⟩, hz⟩) hV.2.1.2.2 d_Mo_goneRow_73
            · obtain ⟨gq_24, bq_24⟩ := tk_ok hx_24
              have hV : vS G.1 cls lo s H locs (vU V [(m, eO 8 [u0, .int (nI n), .ref mt, u3, u4, u5, u6, u7, u8, .ref np, .ref ns, u11, u12, .int (nI q_24), .int ((-1)), u15, u16, u17, u18, u19, u20]), (mt, eI (gI G) 400 g), (ns, eI (gI G) 62 sp), (np, eI (gI G) 1769 F)]) := hV
              refine W.eq (g2 := F0 mi 66 ls []) rfl ?_
              refine lv_aload_n hx hb d_Mo_goneRow_66 rfl (lv_at hl 2 rfl) ?_
              refine u_get hx hb hts inMo hown hK hV hn 0 rfl rfl 14 (by decide) w_fl_Mo_68 rfl rfl d_Mo_goneRow_67 ?_
              refine lv_if_lt (tgt := 74) hx hb d_Mo_goneRow_70 (by decide) (fun _ => ?_) (fun c_26 => absurd c_26 (by decide))
              have hX : semi t n (goneR t n q) = .inr ((t q_1, v_22), q_24) := by
                have e9 : goneR t n q = sbd (num t n 1 30 (q_1 + 1)) fun a => .inr ((t q_1, a.1), a.2) := by unfold goneR; rw [hq_1, if_pos (show q_1 < n ∧ (t q_1 = 112 ∨ t q_1 = 104 ∨ t q_1 = 115) by omega), if_neg (by omega)]
                simp only [semi, e9, hx_22, hx_24, sbd_l, sbd_r]
              refine lv_iload_n hx hb d_Mo_goneRow_74 rfl (lv_at hl 1 rfl) ?_
              refine lv_bipush (v := 112) hx hb d_Mo_goneRow_75 (by decide) ?_
              refine lv_icmp_ne (tgt := 95) hx hb d_Mo_goneRow_77 (by decide) (fun _ => ?_) (fun c_27 => absurd ((nI_eq (a := t q_1) (b := 112) (by omega) (by omega)).mp c_27) (by omega))
              refine lv_aload_n hx hb d_Mo_goneRow_95 rfl (lv_at hl 2 rfl) ?_
              refine u_get hx hb hts inMo hown hK hV hn 0 rfl rfl 10 (by decide) w_fl_Mo_32 rfl rfl d_Mo_goneRow_96 ?_
              refine lv_iload_n hx hb d_Mo_goneRow_99 rfl (lv_at hl 1 rfl) ?_
              refine lv_bipush (v := 104) hx hb d_Mo_goneRow_100 (by decide) ?_
              refine lv_icmp_ne (tgt := 109) hx hb d_Mo_goneRow_102 (by decide) (fun _ => ?_) (fun c_28 => absurd ((nI_eq (a := t q_1) (b := 104) (by omega) (by omega)).mp c_28) (by omega))
              refine lv_bipush (v := 31) hx hb d_Mo_goneRow_109 (by decide) ?_
              refine lv_iload_n hx hb d_Mo_goneRow_111 rfl (lv_at hl 0 rfl) ?_
              refine e_iadd (v := nI (31 + v_22)) hx hb d_Mo_goneRow_112 (nI_add 31 v_22) ?_
              refine lv_iconst (v := 0) hx hb d_Mo_goneRow_113 (by decide) ?_
              refine u_iastN hx hb hK hV hn 2 rfl (by omega) (by decide) d_Mo_goneRow_114 (fun H locs hV hz9 => ?_)
              have hV : vS G.1 cls lo s H locs (vU V [(m, eO 8 [u0, .int (nI n), .ref mt, u3, u4, u5, u6, u7, u8, .ref np, .ref ns, u11, u12, .int (nI q_24), .int ((-1)), u15, u16, u17, u18, u19, u20]), (mt, eI (gI G) 400 g), (ns, eI (gI G) 62 (upd sp (31 + v_22) 0)), (np, eI (gI G) 1769 F)]) := hV
              replace hz := hz9.trans hz
              exact W.vret hx hb hr (v_end hV ⟨rfl, ⟨_, _, _, by rw [hX]; rfl, fun z hz9 => by rw [hX] at hz9; cases hz9; exact ⟨rfl, fun z9 => absurd (show t q_1 = 112 from z9) (by omega), fun z9 => absurd (show t q_1 = 104 from z9) (by omega), fun _ => ⟨rfl, rfl⟩⟩⟩, hz⟩) hV.2.1.2.2 d_Mo_goneRow_115
        · replace c_20 : ¬ t q_1 = 115 := fun z9 => c_20 ((nI_eq (a := t q_1) (b := 115) (by omega) (by omega)).mpr z9)
          refine lv_aload_n hx hb d_Mo_goneRow_23 rfl (lv_at hl 1 rfl) ?_
          refine lv_aload_n hx hb d_Mo_goneRow_24 rfl (lv_at hl 1 rfl) ?_
          refine u_get hx hb hts inMo hown hK hV hn 0 rfl rfl 13 (by decide) w_fl_Mo_61 rfl rfl d_Mo_goneRow_25 ?_
          refine v_call (va_runV (As := [.int (nI q_1)]) (rest := []) ⟨hx, hb, hml, hown, hts⟩ (c_Mo_fail l G lo _ _ m u0 (.int (nI n)) (.ref mt) u3 u4 u5 u6 u7 u8 (.ref np) (.ref ns) u11 u12 (.int (nI q_1)) u15 u16 u17 u18 u19 u20 (by simp) (nI q_1)) (kwV 1 hts w_co_Mo_fail rfl rfl w_it_Mo w_ml_Mo_74 w_im_Mo_fail w_se_Mo__Mo_fail (by decide +kernel) ⟨(Nat.le_of_ble_eq_true rfl), (Nat.le_of_ble_eq_true rfl)⟩) (u_preV hK hV hn [0] rfl hz 0 rfl rfl) rfl rfl hl.1 rfl (lv_room (Nat.le_of_ble_eq_true rfl)) d_Mo_goneRow_28 ⟨(Nat.le_of_ble_eq_true rfl), (Nat.le_of_ble_eq_true rfl)⟩) hV (fun r9 V9 H locs hp hV hle => ?_)
          obtain ⟨rfl, rfl, hz⟩ := hp
          replace hV := u_back hV hn [0] rfl
          have hV : vS G.1 cls lo s H locs (vU V [(m, eO 8 [u0, .int (nI n), .ref mt, u3, u4, u5, u6, u7, u8, .ref np, .ref ns, u11, u12, .int (nI q_1), .int (nI q_1), u15, u16, u17, u18, u19, u20]), (mt, eI (gI G) 400 g), (ns, eI (gI G) 62 sp), (np, eI (gI G) 1769 F)]) := hV
          refine lv_aload_n hx hb d_Mo_goneRow_31 rfl (lv_at hl 1 rfl) ?_
          refine lv_dup hx hb d_Mo_goneRow_32 rfl ?_
          refine u_get hx hb hts inMo hown hK hV hn 0 rfl rfl 13 (by decide) w_fl_Mo_61 rfl rfl d_Mo_goneRow_33 ?_
          refine lv_iconst (v := 1) hx hb d_Mo_goneRow_36 (by decide) ?_
          refine e_iadd (v := nI (q_1 + 1)) hx hb d_Mo_goneRow_37 (nI_add q_1 1) ?_
          refine u_put hx hb hts inMo tyMo tyMo_ok nmMo hown hK hV hn 0 rfl rfl 13 (by decide) w_fl_Mo_61 rfl rfl rfl rfl (Nat.le_of_ble_eq_true rfl) d_Mo_goneRow_38 (fun H locs hV hz9 => ?_)
          have hV : vS G.1 cls lo s H locs (vU V [(m, eO 8 [u0, .int (nI n), .ref mt, u3, u4, u5, u6, u7, u8, .ref np, .ref ns, u11, u12, .int (nI (q_1 + 1)), .int (nI q_1), u15, u16, u17, u18, u19, u20]), (mt, eI (gI G) 400 g), (ns, eI (gI G) 62 sp), (np, eI (gI G) 1769 F)]) := hV
          replace hz := hz9.trans hz
          refine lv_aload_n hx hb d_Mo_goneRow_41 rfl (lv_at hl 1 rfl) ?_
          refine lv_iconst (v := 1) hx hb d_Mo_goneRow_42 (by decide) ?_
          refine lv_iload_n hx hb d_Mo_goneRow_43 rfl (lv_at hl 0 rfl) ?_
          refine lv_bipush (v := 112) hx hb d_Mo_goneRow_44 (by decide) ?_
          refine lv_icmp_ne (tgt := 54) hx hb d_Mo_goneRow_46 (by decide) (fun _ => ?_) (fun c_29 => absurd ((nI_eq (a := t q_1) (b := 112) (by omega) (by omega)).mp c_29) (by omega))
          refine lv_bipush (v := 30) hx hb d_Mo_goneRow_54 (by decide) ?_
          refine v_call (va_runV (As := [.int 1, .int 30]) (rest := []) ⟨hx, hb, hml, hown, hts⟩ (c_Mo_numberB l G lo _ _ m u0 (.int (nI n)) (.ref mt) u3 u4 u5 u6 u7 u8 (.ref np) (.ref ns) u11 u12 (.int (nI (q_1 + 1))) u15 u16 u17 u18 u19 u20 (by simp) q_1 (by omega) 1 30) (kwV 2 hts w_co_Mo_number rfl rfl w_it_Mo w_ml_Mo_82 w_im_Mo_number w_se_Mo__Mo_number (by decide +kernel) ⟨(Nat.le_of_ble_eq_true rfl), (Nat.le_of_ble_eq_true rfl)⟩) (u_preV hK hV hn [0] rfl hz 0 rfl rfl) rfl rfl hl.1 rfl (lv_room (Nat.le_of_ble_eq_true rfl)) d_Mo_goneRow_56 ⟨(Nat.le_of_ble_eq_true rfl), (Nat.le_of_ble_eq_true rfl)⟩) hV (fun r9 V9 H locs hp hV hle => ?_)
          obtain ⟨rfl, rfl, hz⟩ := hp
          replace hV := uu_same hV hn [0] rfl
          have hV : vS G.1 cls lo s H locs (vU V [(m, eO 8 [u0, .int (nI n), .ref mt, u3, u4, u5, u6, u7, u8, .ref np, .ref ns, u11, u12, .int (nI (q_1 + 1)), .int (nI q_1), u15, u16, u17, u18, u19, u20]), (mt, eI (gI G) 400 g), (ns, eI (gI G) 62 sp), (np, eI (gI G) 1769 F)]) := hV
          refine W.eq (g2 := F0 mi 59 ls [.int 1]) rfl ?_
          refine lv_istore_n (lv' := [(2, .int 1), (1, .int (nI (t q_1))), (0, .ref m)]) hx hb d_Mo_goneRow_59 rfl hl (by decide) rfl (fun ls hl => ?_)
          refine lv_aload_n hx hb d_Mo_goneRow_60 rfl (lv_at hl 2 rfl) ?_
          refine lv_bipush (v := 59) hx hb d_Mo_goneRow_61 (by decide) ?_
          refine v_call (va_runV (As := [.int 59]) (rest := []) ⟨hx, hb, hml, hown, hts⟩ (c_Mo_takeB l G lo _ _ m u0 (.int (nI n)) (.ref mt) u3 u4 u5 u6 u7 u8 (.ref np) (.ref ns) u11 u12 (.int (nI (q_1 + 1))) u15 u16 u17 u18 u19 u20 (by simp) q_1 (by omega) 59) (kwV 1 hts w_co_Mo_take rfl rfl w_it_Mo w_ml_Mo_86 w_im_Mo_take w_se_Mo__Mo_take (by decide +kernel) ⟨(Nat.le_of_ble_eq_true rfl), (Nat.le_of_ble_eq_true rfl)⟩) (u_preV hK hV hn [0] rfl hz 0 rfl rfl) rfl rfl hl.1 rfl (lv_room (Nat.le_of_ble_eq_true rfl)) d_Mo_goneRow_63 ⟨(Nat.le_of_ble_eq_true rfl), (Nat.le_of_ble_eq_true rfl)⟩) hV (fun r9 V9 H locs hp hV hle => ?_)
          obtain ⟨rfl, rfl, hz⟩ := hp
          replace hV := uu_same hV hn [0] rfl
          have hV : vS G.1 cls lo s H locs (vU V [(m, eO 8 [u0, .int (nI n), .ref mt, u3, u4, u5, u6, u7, u8, .ref np, .ref ns, u11, u12, .int (nI (q_1 + 1)), .int (nI q_1), u15, u16, u17, u18, u19, u20]), (mt, eI (gI G) 400 g), (ns, eI (gI G) 62 sp), (np, eI (gI G) 1769 F)]) := hV
          refine lv_aload_n hx hb d_Mo_goneRow_66 rfl (lv_at hl 2 rfl) ?_
          refine u_get hx hb hts inMo hown hK hV hn 0 rfl rfl 14 (by decide) w_fl_Mo_68 rfl rfl d_Mo_goneRow_67 ?_
          refine lv_if_lt (tgt := 74) hx hb d_Mo_goneRow_70 (by decide) (fun c_30 => absurd c_30 (nI_nlt0 (by omega))) (fun c_30 => ?_)
          replace c_30 : ¬ q_1 < 0 := fun z9 => c_30 ((nI_ltI (a := q_1) (b := 0) (by omega) (by omega)).mpr z9)
          have hX : semi t n (goneR t n q) = .inl q_1 := by
            have e9 : goneR t n q = .inl q_1 := by unfold goneR; rw [hq_1, if_neg (by omega)]
            simp only [semi, e9, sbd_l]
          exact W.vret hx hb hr (v_end hV ⟨rfl, ⟨_, _, _, by rw [hX]; rfl, fun z hz9 => by rw [hX] at hz9; cases hz9⟩, hz⟩) hV.2.1.2.2 d_Mo_goneRow_73
  · have hV : vS G.1 cls lo s H locs (vU V [(m, eO 8 [u0, .int (nI n), .ref mt, u3, u4, u5, u6, u7, u8, .ref np, .ref ns, u11, u12, .int (nI q_1), .int ((-1)), u15, u16, u17, u18, u19, u20]), (mt, eI (gI G) 400 g), (ns, eI (gI G) 62 sp), (np, eI (gI G) 1769 F)]) := hV
    refine W.eq (g2 := F0 mi 4 ls [.int ((-1))]) (by rw [hq_1, rK_out (by omega)]; rfl) ?_
    refine lv_istore_n (lv' := [(1, .int ((-1))), (0, .ref m)]) hx hb d_Mo_goneRow_4 rfl hl (by decide) rfl (fun ls hl => ?_)
    refine lv_iload_n hx hb d_Mo_goneRow_5 rfl (lv_at hl 0 rfl) ?_
    refine lv_bipush (v := 112) hx hb d_Mo_goneRow_6 (by decide) ?_
    refine lv_icmp_eq (tgt := 31) hx hb d_Mo_goneRow_8 (by decide) (fun c_31 => absurd c_31 (by decide)) (fun _ => ?_)
    refine lv_iload_n hx hb d_Mo_goneRow_11 rfl (lv_at hl 0 rfl) ?_
    refine lv_bipush (v := 104) hx hb d_Mo_goneRow_12 (by decide) ?_
    refine lv_icmp_eq (tgt := 31) hx hb d_Mo_goneRow_14 (by decide) (fun c_32 => absurd c_32 (by decide)) (fun _ => ?_)
    refine lv_iload_n hx hb d_Mo_goneRow_17 rfl (lv_at hl 0 rfl) ?_
    refine lv_bipush (v := 115) hx hb d_Mo_goneRow_18 (by decide) ?_
    refine lv_icmp_eq (tgt := 31) hx hb d_Mo_goneRow_20 (by decide) (fun c_33 => absurd c_33 (by decide)) (fun _ => ?_)
    refine lv_aload_n hx hb d_Mo_goneRow_23 rfl (lv_at hl 1 rfl) ?_
    refine lv_aload_n hx hb d_Mo_goneRow_24 rfl (lv_at hl 1 rfl) ?_
    refine u_get hx hb hts inMo hown hK hV hn 0 rfl rfl 13 (by decide) w_fl_Mo_61 rfl rfl d_Mo_goneRow_25 ?_
    refine v_call (va_runV (As := [.int (nI q_1)]) (rest := []) ⟨hx, hb, hml, hown, hts⟩ (c_Mo_fail l G lo _ _ m u0 (.int (nI n)) (.ref mt) u3 u4 u5 u6 u7 u8 (.ref np) (.ref ns) u11 u12 (.int (nI q_1)) u15 u16 u17 u18 u19 u20 (by simp) (nI q_1)) (kwV 1 hts w_co_Mo_fail rfl rfl w_it_Mo w_ml_Mo_74 w_im_Mo_fail w_se_Mo__Mo_fail (by decide +kernel) ⟨(Nat.le_of_ble_eq_true rfl), (Nat.le_of_ble_eq_true rfl)⟩) (u_preV hK hV hn [0] rfl hz 0 rfl rfl) rfl rfl hl.1 rfl (lv_room (Nat.le_of_ble_eq_true rfl)) d_Mo_goneRow_28 ⟨(Nat.le_of_ble_eq_true rfl), (Nat.le_of_ble_eq_true rfl)⟩) hV (fun r9 V9 H locs hp hV hle => ?_)
    obtain ⟨rfl, rfl, hz⟩ := hp
    replace hV := u_back hV hn [0] rfl
    have hV : vS G.1 cls lo s H locs (vU V [(m, eO 8 [u0, .int (nI n), .ref mt, u3, u4, u5, u6, u7, u8, .ref np, .ref ns, u11, u12, .int (nI q_1), .int (nI q_1), u15, u16, u17, u18, u19, u20]), (mt, eI (gI G) 400 g), (ns, eI (gI G) 62 sp), (np, eI (gI G) 1769 F)]) := hV
    refine lv_aload_n hx hb d_Mo_goneRow_31 rfl (lv_at hl 1 rfl) ?_
    refine lv_dup hx hb d_Mo_goneRow_32 rfl ?_
    refine u_get hx hb hts inMo hown hK hV hn 0 rfl rfl 13 (by decide) w_fl_Mo_61 rfl rfl d_Mo_goneRow_33 ?_
    refine lv_iconst (v := 1) hx hb d_Mo_goneRow_36 (by decide) ?_
    refine e_iadd (v := nI (q_1 + 1)) hx hb d_Mo_goneRow_37 (nI_add q_1 1) ?_
    refine u_put hx hb hts inMo tyMo tyMo_ok nmMo hown hK hV hn 0 rfl rfl 13 (by decide) w_fl_Mo_61 rfl rfl rfl rfl (Nat.le_of_ble_eq_true rfl) d_Mo_goneRow_38 (fun H locs hV hz9 => ?_)
    have hV : vS G.1 cls lo s H locs (vU V [(m, eO 8 [u0, .int (nI n), .ref mt, u3, u4, u5, u6, u7, u8, .ref np, .ref ns, u11, u12, .int (nI (q_1 + 1)), .int (nI q_1), u15, u16, u17, u18, u19, u20]), (mt, eI (gI G) 400 g), (ns, eI (gI G) 62 sp), (np, eI (gI G) 1769 F)]) := hV
    replace hz := hz9.trans hz
    refine lv_aload_n hx hb d_Mo_goneRow_41 rfl (lv_at hl 1 rfl) ?_
    refine lv_iconst (v := 1) hx hb d_Mo_goneRow_42 (by decide) ?_
    refine lv_iload_n hx hb d_Mo_goneRow_43 rfl (lv_at hl 0 rfl) ?_
    refine lv_bipush (v := 112) hx hb d_Mo_goneRow_44 (by decide) ?_
    refine lv_icmp_ne (tgt := 54) hx hb d_Mo_goneRow_46 (by decide) (fun _ => ?_) (fun c_34 => absurd c_34 (by decide))
    refine lv_bipush (v := 30) hx hb d_Mo_goneRow_54 (by decide) ?_
    refine v_call (va_runV (As := [.int 1, .int 30]) (rest := []) ⟨hx, hb, hml, hown, hts⟩ (c_Mo_numberB l G lo _ _ m u0 (.int (nI n)) (.ref mt) u3 u4 u5 u6 u7 u8 (.ref np) (.ref ns) u11 u12 (.int (nI (q_1 + 1))) u15 u16 u17 u18 u19 u20 (by simp) q_1 (by omega) 1 30) (kwV 2 hts w_co_Mo_number rfl rfl w_it_Mo w_ml_Mo_82 w_im_Mo_number w_se_Mo__Mo_number (by decide +kernel) ⟨(Nat.le_of_ble_eq_true rfl), (Nat.le_of_ble_eq_true rfl)⟩) (u_preV hK hV hn [0] rfl hz 0 rfl rfl) rfl rfl hl.1 rfl (lv_room (Nat.le_of_ble_eq_true rfl)) d_Mo_goneRow_56 ⟨(Nat.le_of_ble_eq_true rfl), (Nat.le_of_ble_eq_true rfl)⟩) hV (fun r9 V9 H locs hp hV hle => ?_)
    obtain ⟨rfl, rfl, hz⟩ := hp
    replace hV := uu_same hV hn [0] rfl
    have hV : vS G.1 cls lo s H locs (vU V [(m, eO 8 [u0, .int (nI n), .ref mt, u3, u4, u5, u6, u7, u8, .ref np, .ref ns, u11, u12, .int (nI (q_1 + 1)), .int (nI q_1), u15, u16, u17, u18, u19, u20]), (mt, eI (gI G) 400 g), (ns, eI (gI G) 62 sp), (np, eI (gI G) 1769 F)]) := hV
    refine W.eq (g2 := F0 mi 59 ls [.int 1]) rfl ?_
    refine lv_istore_n (lv' := [(2, .int 1), (1, .int ((-1))), (0, .ref m)]) hx hb d_Mo_goneRow_59 rfl hl (by decide) rfl (fun ls hl => ?_)
    refine lv_aload_n hx hb d_Mo_goneRow_60 rfl (lv_at hl 2 rfl) ?_
    refine lv_bipush (v := 59) hx hb d_Mo_goneRow_61 (by decide) ?_
    refine v_call (va_runV (As := [.int 59]) (rest := []) ⟨hx, hb, hml, hown, hts⟩ (c_Mo_takeB l G lo _ _ m u0 (.int (nI n)) (.ref mt) u3 u4 u5 u6 u7 u8 (.ref np) (.ref ns) u11 u12 (.int (nI (q_1 + 1))) u15 u16 u17 u18 u19 u20 (by simp) q_1 (by omega) 59) (kwV 1 hts w_co_Mo_take rfl rfl w_it_Mo w_ml_Mo_86 w_im_Mo_take w_se_Mo__Mo_take (by decide +kernel) ⟨(Nat.le_of_ble_eq_true rfl), (Nat.le_of_ble_eq_true rfl)⟩) (u_preV hK hV hn [0] rfl hz 0 rfl rfl) rfl rfl hl.1 rfl (lv_room (Nat.le_of_ble_eq_true rfl)) d_Mo_goneRow_63 ⟨(Nat.le_of_ble_eq_true rfl), (Nat.le_of_ble_eq_true rfl)⟩) hV (fun r9 V9 H locs hp hV hle => ?_)
    obtain ⟨rfl, rfl, hz⟩ := hp
    replace hV := uu_same hV hn [0] rfl
    have hV : vS G.1 cls lo s H locs (vU V [(m, eO 8 [u0, .int (nI n), .ref mt, u3, u4, u5, u6, u7, u8, .ref np, .ref ns, u11, u12, .int (nI (q_1 + 1)), .int (nI q_1), u15, u16, u17, u18, u19, u20]), (mt, eI (gI G) 400 g), (ns, eI (gI G) 62 sp), (np, eI (gI G) 1769 F)]) := hV
    refine lv_aload_n hx hb d_Mo_goneRow_66 rfl (lv_at hl 2 rfl) ?_
    refine u_get hx hb hts inMo hown hK hV hn 0 rfl rfl 14 (by decide) w_fl_Mo_68 rfl rfl d_Mo_goneRow_67 ?_
    refine lv_if_lt (tgt := 74) hx hb d_Mo_goneRow_70 (by decide) (fun c_35 => absurd c_35 (nI_nlt0 (by omega))) (fun c_35 => ?_)
    replace c_35 : ¬ q_1 < 0 := fun z9 => c_35 ((nI_ltI (a := q_1) (b := 0) (by omega) (by omega)).mpr z9)
    have hX : semi t n (goneR t n q) = .inl q_1 := by
      have e9 : goneR t n q = .inl q_1 := by unfold goneR; rw [hq_1, if_neg (by omega)]
      simp only [semi, e9, sbd_l]
    exact W.vret hx hb hr (v_end hV ⟨rfl, ⟨_, _, _, by rw [hX]; rfl, fun z hz9 => by rw [hX] at hz9; cases hz9⟩, hz⟩) hV.2.1.2.2 d_Mo_goneRow_73

set_option maxHeartbeats 4000000 in
set_option maxRecDepth 100000 in
/-- hours -/
theorem c_Mo_hours (l : Launch) (G : Gx) (lo : Nat) (V : Vw) (sz : Nat) (m mt np : Nat) (u0 u3 u4 u5 u6 u7 u8 u10 u11 u12 u15 u16 u17 u18 u19 u20 : Value) (g F : Nat → Int32) (t : Nat → Nat) (n q i p c : Nat) (hn : [m, mt, np].Nodup) (hT : mtOk g t n) (h4 : n ≤ 400) (hq4 : q ≤ 500) (hi : p + 7 < i) (hi2 : i < 1760) (hc : F (p + 7) = nI c) (hc9 : c < 9) : Met l y_Mo_hours ws_Mo_hours ({ frames := 3, cells := 0, slots := 0, locals := 80 } : Room) (vPre G lo [.ref m, .int (nI i), .int (nI p)] (vU V [(m, eO 8 [u0, .int (nI n), .ref mt, u3, u4, u5, u6, u7, u8, .ref np, u10, u11, u12, .int (nI q), .int ((-1)), u15, u16, u17, u18, u19, u20]), (mt, eI (gI G) 400 g), (np, eI (gI G) 1769 F)]) sz) (vPost G lo (fun r V' k => r = none ∧ (∃ (a9 : Nat) (F2 : Nat → Int32), V' = vU V [(m, eO 8 [u0, .int (nI n), .ref mt, u3, u4, u5, u6, u7, u8, .ref np, u10, u11, u12, .int (nI a9), .int (wI (hourR t n q)), u15, u16, u17, u18, u19, u20]), (mt, eI (gI G) 400 g), (np, eI (gI G) 1769 F2)] ∧ ∀ z, hourR t n q = .inr z → a9 = z.2 ∧ F2 = upd (upd (upd (upd F i (nI z.1.1)) (i + 1) (nI z.1.2.1)) (i + 2) (nI z.1.2.2)) (p + 7) (nI (c + 1))) ∧ k = sz)) 0 0 (vL lo) := by
  refine vMet (R := RMo) (by decide) rfl (Nat.le_of_ble_eq_true rfl) ?_
  intro pg ev s mi args below meth cd hx hb hr hml hlk hnm hts hown hK hz hV ls hl
  have hl : lv_has ls 3 [(0, .ref m), (1, .int (nI i)), (2, .int (nI p))] := hl
  have hV0 := hV
  obtain ⟨H, hH⟩ : ∃ H, H = s.heap := ⟨_, rfl⟩
  obtain ⟨locs, hlocs⟩ : ∃ locs : List Loc, locs = [] := ⟨_, rfl⟩
  rw [← hH, ← hlocs]
  rw [← hH] at hz
  replace hV : vS G.1 cls lo s H locs (vU V [(m, eO 8 [u0, .int (nI n), .ref mt, u3, u4, u5, u6, u7, u8, .ref np, u10, u11, u12, .int (nI q), .int ((-1)), u15, u16, u17, u18, u19, u20]), (mt, eI (gI G) 400 g), (np, eI (gI G) 1769 F)]) := by rw [hH, hlocs]; exact hV
  clear hH hlocs hV0
  refine lv_aload_n hx hb d_Mo_hours_0 rfl (lv_at hl 0 rfl) ?_
  refine u_get hx hb hts inMo hown hK hV hn 0 rfl rfl 9 (by decide) w_fl_Mo_29 rfl rfl d_Mo_hours_1 ?_
  refine lv_iload_n hx hb d_Mo_hours_4 rfl (lv_at hl 1 rfl) ?_
  refine lv_aload_n hx hb d_Mo_hours_5 rfl (lv_at hl 0 rfl) ?_
  refine lv_iconst (v := 0) hx hb d_Mo_hours_6 (by decide) ?_
  refine lv_bipush (v := 23) hx hb d_Mo_hours_7 (by decide) ?_
  refine v_call (va_runV (As := [.int 0, .int 23]) (rest := [.int (nI i), .ref np]) ⟨hx, hb, hml, hown, hts⟩ (c_Mo_number l G lo _ _ m mt u0 u3 u4 u5 u6 u7 u8 (.ref np) u10 u11 u12 u15 u16 u17 u18 u19 u20 g t n q (nd_sub hn [0, 1] (by decide) rfl) hT h4 (by omega) 0 23 (by omega) (by omega)) (kwV 2 hts w_co_Mo_number rfl rfl w_it_Mo w_ml_Mo_82 w_im_Mo_number w_se_Mo__Mo_number (by decide +kernel) ⟨(Nat.le_of_ble_eq_true rfl), (Nat.le_of_ble_eq_true rfl)⟩) (u_preV hK hV hn [0, 1] rfl hz 0 rfl rfl) rfl rfl hl.1 rfl (lv_room (Nat.le_of_ble_eq_true rfl)) d_Mo_hours_9 ⟨(Nat.le_of_ble_eq_true rfl), (Nat.le_of_ble_eq_true rfl)⟩) hV (fun r9 V9 H locs hp hV hle => ?_)
  obtain ⟨rfl, rfl, hz⟩ := hp
  replace hV := u_back hV hn [0, 1] rfl
  have hV : vS G.1 cls lo s H locs (vU V [(m, eO 8 [u0, .int (nI n), .ref mt, u3, u4, u5, u6, u7, u8, .ref np, u10, u11, u12, .int (nI ((dgs t n 4 0 0 (sk t n q)).2.2)), .int (wI (num t n 0 23 q)), u15, u16, u17, u18, u19, u20]), (mt, eI (gI G) 400 g), (np, eI (gI G) 1769 F)]) := hV
  obtain ⟨x_1, hx_1⟩ : ∃ z, num t n 0 23 q = z := ⟨_, rfl⟩
  rw [hx_1] at hV
  rcases x_1 with e_1 | ⟨v_1, q_1⟩
  · obtain ⟨ax_1, hax_1⟩ : ∃ z, (dgs t n 4 0 0 (sk t n q)).2.2 = z := ⟨_, rfl⟩
    rw [hax_1] at hV
    have be_1 := num_er2 hx_1
    have bax_1 := dgs_le2 hax_1
    have hV : vS G.1 cls lo s H locs (vU V [(m, eO 8 [u0, .int (nI n), .ref mt, u3, u4, u5, u6, u7, u8, .ref np, u10, u11, u12, .int (nI ax_1), .int (nI e_1), u15, u16, u17, u18, u19, u20]), (mt, eI (gI G) 400 g), (np, eI (gI G) 1769 F)]) := hV
    refine W.eq (g2 := F0 mi 12 ls [.int 0, .int (nI i), .ref np]) (by rw [hx_1]; rfl) ?_
    refine u_iastN hx hb hK hV hn 2 rfl (by omega) (by decide) d_Mo_hours_12 (fun H locs hV hz9 => ?_)
    have hV : vS G.1 cls lo s H locs (vU V [(m, eO 8 [u0, .int (nI n), .ref mt, u3, u4, u5, u6, u7, u8, .ref np, u10, u11, u12, .int (nI ax_1), .int (nI e_1), u15, u16, u17, u18, u19, u20]), (mt, eI (gI G) 400 g), (np, eI (gI G) 1769 (upd F i 0))]) := hV
    replace hz := hz9.trans hz
    refine lv_aload_n hx hb d_Mo_hours_13 rfl (lv_at hl 0 rfl) ?_
    refine lv_bipush (v := 45) hx hb d_Mo_hours_14 (by decide) ?_
    refine v_call (va_runV (As := [.int 45]) (rest := []) ⟨hx, hb, hml, hown, hts⟩ (c_Mo_takeB l G lo _ _ m u0 (.int (nI n)) (.ref mt) u3 u4 u5 u6 u7 u8 (.ref np) u10 u11 u12 (.int (nI ax_1)) u15 u16 u17 u18 u19 u20 (by simp) e_1 (by omega) 45) (kwV 1 hts w_co_Mo_take rfl rfl w_it_Mo w_ml_Mo_86 w_im_Mo_take w_se_Mo__Mo_take (by decide +kernel) ⟨(Nat.le_of_ble_eq_true rfl), (Nat.le_of_ble_eq_true rfl)⟩) (u_preV hK hV hn [0] rfl hz 0 rfl rfl) rfl rfl hl.1 rfl (lv_room (Nat.le_of_ble_eq_true rfl)) d_Mo_hours_16 ⟨(Nat.le_of_ble_eq_true rfl), (Nat.le_of_ble_eq_true rfl)⟩) hV (fun r9 V9 H locs hp hV hle => ?_)
    obtain ⟨rfl, rfl, hz⟩ := hp
    replace hV := uu_same hV hn [0] rfl
    have hV : vS G.1 cls lo s H locs (vU V [(m, eO 8 [u0, .int (nI n), .ref mt, u3, u4, u5, u6, u7, u8, .ref np, u10, u11, u12, .int (nI ax_1), .int (nI e_1), u15, u16, u17, u18, u19, u20]), (mt, eI (gI G) 400 g), (np, eI (gI G) 1769 (upd F i 0))]) := hV
    refine lv_aload_n hx hb d_Mo_hours_19 rfl (lv_at hl 0 rfl) ?_
    refine u_get hx hb hts inMo hown hK hV hn 0 rfl rfl 9 (by decide) w_fl_Mo_29 rfl rfl d_Mo_hours_20 ?_
    refine lv_iload_n hx hb d_Mo_hours_23 rfl (lv_at hl 1 rfl) ?_
    refine lv_iconst (v := 1) hx hb d_Mo_hours_24 (by decide) ?_
    refine e_iadd (v := nI (i + 1)) hx hb d_Mo_hours_25 (nI_add i 1) ?_
    refine lv_aload_n hx hb d_Mo_hours_26 rfl (lv_at hl 0 rfl) ?_
    refine lv_aload_n hx hb d_Mo_hours_27 rfl (lv_at hl 0 rfl) ?_
    refine u_get hx hb hts inMo hown hK hV hn 0 rfl rfl 9 (by decide) w_fl_Mo_29 rfl rfl d_Mo_hours_28 ?_
    refine lv_iload_n hx hb d_Mo_hours_31 rfl (lv_at hl 1 rfl) ?_
    refine u_ialdN hx hb hK hV hn 2 rfl (by omega) (by decide) d_Mo_hours_32 ?_
    refine lv_bipush (v := 23) hx hb d_Mo_hours_33 (by decide) ?_
    refine v_call (va_runV (As := [.int ((upd F i 0) i), .int 23]) (rest := [.int (nI (i + 1)), .ref np]) ⟨hx, hb, hml, hown, hts⟩ (c_Mo_numberB l G lo _ _ m u0 (.int (nI n)) (.ref mt) u3 u4 u5 u6 u7 u8 (.ref np) u10 u11 u12 (.int (nI ax_1)) u15 u16 u17 u18 u19 u20 (by simp) e_1 (by omega) ((upd F i 0) i) 23) (kwV 2 hts w_co_Mo_number rfl rfl w_it_Mo w_ml_Mo_82 w_im_Mo_number w_se_Mo__Mo_number (by decide +kernel) ⟨(Nat.le_of_ble_eq_true rfl), (Nat.le_of_ble_eq_true rfl)⟩) (u_preV hK hV hn [0] rfl hz 0 rfl rfl) rfl rfl hl.1 rfl (lv_room (Nat.le_of_ble_eq_true rfl)) d_Mo_hours_35 ⟨(Nat.le_of_ble_eq_true rfl), (Nat.le_of_ble_eq_true rfl)⟩) hV (fun r9 V9 H locs hp hV hle => ?_)
    obtain ⟨rfl, rfl, hz⟩ := hp
    replace hV := uu_same hV hn [0] rfl
    have hV : vS G.1 cls lo s H locs (vU V [(m, eO 8 [u0, .int (nI n), .ref mt, u3, u4, u5, u6, u7, u8, .ref np, u10, u11, u12, .int (nI ax_1), .int (nI e_1), u15, u16, u17, u18, u19, u20]), (mt, eI (gI G) 400 g), (np, eI (gI G) 1769 (upd F i 0))]) := hV
    refine W.eq (g2 := F0 mi 38 ls [.int ((upd F i 0) i), .int (nI (i + 1)), .ref np]) rfl ?_
    refine u_iastN hx hb hK hV hn 2 rfl (by omega) (by decide) d_Mo_hours_38 (fun H locs hV hz9 => ?_)
    have hV : vS G.1 cls lo s H locs (vU V [(m, eO 8 [u0, .int (nI n), .ref mt, u3, u4, u5, u6, u7, u8, .ref np, u10, u11, u12, .int (nI ax_1), .int (nI e_1), u15, u16, u17, u18, u19, u20]), (mt, eI (gI G) 400 g), (np, eI (gI G) 1769 (upd (upd F i 0) (i + 1) ((upd F i 0) i)))]) := hV
    replace hz := hz9.trans hz
    refine lv_aload_n hx hb d_Mo_hours_39 rfl (lv_at hl 0 rfl) ?_
    refine lv_bipush (v := 58) hx hb d_Mo_hours_40 (by decide) ?_
    refine v_call (va_runV (As := [.int 58]) (rest := []) ⟨hx, hb, hml, hown, hts⟩ (c_Mo_takeB l G lo _ _ m u0 (.int (nI n)) (.ref mt) u3 u4 u5 u6 u7 u8 (.ref np) u10 u11 u12 (.int (nI ax_1)) u15 u16 u17 u18 u19 u20 (by simp) e_1 (by omega) 58) (kwV 1 hts w_co_Mo_take rfl rfl w_it_Mo w_ml_Mo_86 w_im_Mo_take w_se_Mo__Mo_take (by decide +kernel) ⟨(Nat.le_of_ble_eq_true rfl), (Nat.le_of_ble_eq_true rfl)⟩) (u_preV hK hV hn [0] rfl hz 0 rfl rfl) rfl rfl hl.1 rfl (lv_room (Nat.le_of_ble_eq_true rfl)) d_Mo_hours_42 ⟨(Nat.le_of_ble_eq_true rfl), (Nat.le_of_ble_eq_true rfl)⟩) hV (fun r9 V9 H locs hp hV hle => ?_)
    obtain ⟨rfl, rfl, hz⟩ := hp
    replace hV := uu_same hV hn [0] rfl
    have hV : vS G.1 cls lo s H locs (vU V [(m, eO 8 [u0, .int (nI n), .ref mt, u3, u4, u5, u6, u7, u8, .ref np, u10, u11, u12, .int (nI ax_1), .int (nI e_1), u15, u16, u17, u18, u19, u20]), (mt, eI (gI G) 400 g), (np, eI (gI G) 1769 (upd (upd F i 0) (i + 1) ((upd F i 0) i)))]) := hV
    refine lv_aload_n hx hb d_Mo_hours_45 rfl (lv_at hl 0 rfl) ?_
    refine u_get hx hb hts inMo hown hK hV hn 0 rfl rfl 9 (by decide) w_fl_Mo_29 rfl rfl d_Mo_hours_46 ?_
    refine lv_iload_n hx hb d_Mo_hours_49 rfl (lv_at hl 1 rfl) ?_
    refine lv_iconst (v := 2) hx hb d_Mo_hours_50 (by decide) ?_
    refine e_iadd (v := nI (i + 2)) hx hb d_Mo_hours_51 (nI_add i 2) ?_
    refine lv_aload_n hx hb d_Mo_hours_52 rfl (lv_at hl 0 rfl) ?_
    refine lv_iconst (v := 1) hx hb d_Mo_hours_53 (by decide) ?_
    refine lv_bipush (v := 99) hx hb d_Mo_hours_54 (by decide) ?_
    refine v_call (va_runV (As := [.int 1, .int 99]) (rest := [.int (nI (i + 2)), .ref np]) ⟨hx, hb, hml, hown, hts⟩ (c_Mo_numberB l G lo _ _ m u0 (.int (nI n)) (.ref mt) u3 u4 u5 u6 u7 u8 (.ref np) u10 u11 u12 (.int (nI ax_1)) u15 u16 u17 u18 u19 u20 (by simp) e_1 (by omega) 1 99) (kwV 2 hts w_co_Mo_number rfl rfl w_it_Mo w_ml_Mo_82 w_im_Mo_number w_se_Mo__Mo_number (by decide +kernel) ⟨(Nat.le_of_ble_eq_true rfl), (Nat.le_of_ble_eq_true rfl)⟩) (u_preV hK hV hn [0] rfl hz 0 rfl rfl) rfl rfl hl.1 rfl (lv_room (Nat.le_of_ble_eq_true rfl)) d_Mo_hours_56 ⟨(Nat.le_of_ble_eq_true rfl), (Nat.le_of_ble_eq_true rfl)⟩) hV (fun r9 V9 H locs hp hV hle => ?_)
    obtain ⟨rfl, rfl, hz⟩ := hp
    replace hV := uu_same hV hn [0] rfl
    have hV : vS G.1 cls lo s H locs (vU V [(m, eO 8 [u0, .int (nI n), .ref mt, u3, u4, u5, u6, u7, u8, .ref np, u10, u11, u12, .int (nI ax_1), .int (nI e_1), u15, u16, u17, u18, u19, u20]), (mt, eI (gI G) 400 g), (np, eI (gI G) 1769 (upd (upd F i 0) (i + 1) ((upd F i 0) i)))]) := hV
    refine W.eq (g2 := F0 mi 59 ls [.int 1, .int (nI (i + 2)), .ref np]) rfl ?_
    refine u_iastN hx hb hK hV hn 2 rfl (by omega) (by decide) d_Mo_hours_59 (fun H locs hV hz9 => ?_)
    have hV : vS G.1 cls lo s H locs (vU V [(m, eO 8 [u0, .int (nI n), .ref mt, u3, u4, u5, u6, u7, u8, .ref np, u10, u11, u12, .int (nI ax_1), .int (nI e_1), u15, u16, u17, u18, u19, u20]), (mt, eI (gI G) 400 g), (np, eI (gI G) 1769 (upd (upd (upd F i 0) (i + 1) ((upd F i 0) i)) (i + 2) 1))]) := hV
    replace hz := hz9.trans hz
    refine lv_aload_n hx hb d_Mo_hours_60 rfl (lv_at hl 0 rfl) ?_
    refine lv_bipush (v := 93) hx hb d_Mo_hours_61 (by decide) ?_
    refine v_call (va_runV (As := [.int 93]) (rest := []) ⟨hx, hb, hml, hown, hts⟩ (c_Mo_takeB l G lo _ _ m u0 (.int (nI n)) (.ref mt) u3 u4 u5 u6 u7 u8 (.ref np) u10 u11 u12 (.int (nI ax_1)) u15 u16 u17 u18 u19 u20 (by simp) e_1 (by omega) 93) (kwV 1 hts w_co_Mo_take rfl rfl w_it_Mo w_ml_Mo_86 w_im_Mo_take w_se_Mo__Mo_take (by decide +kernel) ⟨(Nat.le_of_ble_eq_true rfl), (Nat.le_of_ble_eq_true rfl)⟩) (u_preV hK hV hn [0] rfl hz 0 rfl rfl) rfl rfl hl.1 rfl (lv_room (Nat.le_of_ble_eq_true rfl)) d_Mo_hours_63 ⟨(Nat.le_of_ble_eq_true rfl), (Nat.le_of_ble_eq_true rfl)⟩) hV (fun r9 V9 H locs hp hV hle => ?_)
    obtain ⟨rfl, rfl, hz⟩ := hp
    replace hV := uu_same hV hn [0] rfl
    have hV : vS G.1 cls lo s H locs (vU V [(m, eO 8 [u0, .int (nI n), .ref mt, u3, u4, u5, u6, u7, u8, .ref np, u10, u11, u12, .int (nI ax_1), .int (nI e_1), u15, u16, u17, u18, u19, u20]), (mt, eI (gI G) 400 g), (np, eI (gI G) 1769 (upd (upd (upd F i 0) (i + 1) ((upd F i 0) i)) (i + 2) 1))]) := hV
    refine lv_aload_n hx hb d_Mo_hours_66 rfl (lv_at hl 0 rfl) ?_
    refine u_get hx hb hts inMo hown hK hV hn 0 rfl rfl 9 (by decide) w_fl_Mo_29 rfl rfl d_Mo_hours_67 ?_
    refine lv_iload_n hx hb d_Mo_hours_70 rfl (lv_at hl 2 rfl) ?_
    refine lv_bipush (v := 7) hx hb d_Mo_hours_71 (by decide) ?_
    refine e_iadd (v := nI (p + 7)) hx hb d_Mo_hours_73 (nI_add p 7) ?_
    refine lv_dup2_11 hx hb d_Mo_hours_74 rfl rfl ?_
    refine u_ialdN hx hb hK hV hn 2 rfl (by omega) (by decide) d_Mo_hours_75 ?_
    refine lv_iconst (v := 1) hx hb d_Mo_hours_76 (by decide) ?_
    refine e_iadd (v := ((upd (upd (upd F i 0) (i + 1) ((upd F i 0) i)) (i + 2) 1) (p + 7)) + 1) hx hb d_Mo_hours_77 (rfl) ?_
    refine u_iastN hx hb hK hV hn 2 rfl (by omega) (by decide) d_Mo_hours_78 (fun H locs hV hz9 => ?_)
    have hV : vS G.1 cls lo s H locs (vU V [(m, eO 8 [u0, .int (nI n), .ref mt, u3, u4, u5, u6, u7, u8, .ref np, u10, u11, u12, .int (nI ax_1), .int (nI e_1), u15, u16, u17, u18, u19, u20]), (mt, eI (gI G) 400 g), (np, eI (gI G) 1769 (upd (upd (upd (upd F i 0) (i + 1) ((upd F i 0) i)) (i + 2) 1) (p + 7) (((upd (upd (upd F i 0) (i + 1) ((upd F i 0) i)) (i + 2) 1) (p + 7)) + 1)))]) := hV
    replace hz := hz9.trans hz
    have hX : hourR t n q = .inl e_1 := by simp only [semi, hourR, hx_1, sbd_l, sbd_r]
    exact W.vret hx hb hr (v_end hV ⟨rfl, ⟨_, _, by rw [hX]; rfl, fun z hz9 => by rw [hX] at hz9; cases hz9⟩, hz⟩) hV.2.1.2.2 d_Mo_hours_79
  · rw [num_at hx_1] at hV
    obtain ⟨lv_1, uv_1, gq_1, bq_1⟩ := num_ok2 hx_1
    have hV : vS G.1 cls lo s H locs (vU V [(m, eO 8 [u0, .int (nI n), .ref mt, u3, u4, u5, u6, u7, u8, .ref np, u10, u11, u12, .int (nI q_1), .int ((-1)), u15, u16, u17, u18, u19, u20]), (mt, eI (gI G) 400 g), (np, eI (gI G) 1769 F)]) := hV
    refine W.eq (g2 := F0 mi 12 ls [.int (nI v_1), .int (nI i), .ref np]) (by rw [hx_1]; rfl) ?_
    refine u_iastN hx hb hK hV hn 2 rfl (by omega) (by decide) d_Mo_hours_12 (fun H locs hV hz9 => ?_)
    have hV : vS G.1 cls lo s H locs (vU V [(m, eO 8 [u0, .int (nI n), .ref mt, u3, u4, u5, u6, u7, u8, .ref np, u10, u11, u12, .int (nI q_1), .int ((-1)), u15, u16, u17, u18, u19, u20]), (mt, eI (gI G) 400 g), (np, eI (gI G) 1769 (upd F i (nI v_1)))]) := hV
    replace hz := hz9.trans hz
    refine lv_aload_n hx hb d_Mo_hours_13 rfl (lv_at hl 0 rfl) ?_
    refine lv_bipush (v := 45) hx hb d_Mo_hours_14 (by decide) ?_
    refine v_call (va_runV (As := [.int 45]) (rest := []) ⟨hx, hb, hml, hown, hts⟩ (c_Mo_take l G lo _ _ m mt u0 u3 u4 u5 u6 u7 u8 (.ref np) u10 u11 u12 u15 u16 u17 u18 u19 u20 g t n q_1 (nd_sub hn [0, 1] (by decide) rfl) hT h4 (by omega) 45 (by decide)) (kwV 1 hts w_co_Mo_take rfl rfl w_it_Mo w_ml_Mo_86 w_im_Mo_take w_se_Mo__Mo_take (by decide +kernel) ⟨(Nat.le_of_ble_eq_true rfl), (Nat.le_of_ble_eq_true rfl)⟩) (u_preV hK hV hn [0, 1] rfl hz 0 rfl rfl) rfl rfl hl.1 rfl (lv_room (Nat.le_of_ble_eq_true rfl)) d_Mo_hours_16 ⟨(Nat.le_of_ble_eq_true rfl), (Nat.le_of_ble_eq_true rfl)⟩) hV (fun r9 V9 H locs hp hV hle => ?_)
    obtain ⟨rfl, rfl, hz⟩ := hp
    replace hV := u_back hV hn [0, 1] rfl
    have hV : vS G.1 cls lo s H locs (vU V [(m, eO 8 [u0, .int (nI n), .ref mt, u3, u4, u5, u6, u7, u8, .ref np, u10, u11, u12, .int (nI (rQ (tk t n 45 q_1))), .int (wI (tk t n 45 q_1)), u15, u16, u17, u18, u19, u20]), (mt, eI (gI G) 400 g), (np, eI (gI G) 1769 (upd F i (nI v_1)))]) := hV
    obtain ⟨x_2, hx_2⟩ : ∃ z, tk t n 45 q_1 = z := ⟨_, rfl⟩
    rw [hx_2] at hV
    rcases x_2 with e_2 | q_2
    · have be_2 := tk_er2 hx_2
      have hV : vS G.1 cls lo s H locs (vU V [(m, eO 8 [u0, .int (nI n), .ref mt, u3, u4, u5, u6, u7, u8, .ref np, u10, u11, u12, .int (nI e_2), .int (nI e_2), u15, u16, u17, u18, u19, u20]), (mt, eI (gI G) 400 g), (np, eI (gI G) 1769 (upd F i (nI v_1)))]) := hV
      refine W.eq (g2 := F0 mi 19 ls []) rfl ?_
      refine lv_aload_n hx hb d_Mo_hours_19 rfl (lv_at hl 0 rfl) ?_
      refine u_get hx hb hts inMo hown hK hV hn 0 rfl rfl 9 (by decide) w_fl_Mo_29 rfl rfl d_Mo_hours_20 ?_
      refine lv_iload_n hx hb d_Mo_hours_23 rfl (lv_at hl 1 rfl) ?_
      refine lv_iconst (v := 1) hx hb d_Mo_hours_24 (by decide) ?_
      refine e_iadd (v := nI (i + 1)) hx hb d_Mo_hours_25 (nI_add i 1) ?_
      refine lv_aload_n hx hb d_Mo_hours_26 rfl (lv_at hl 0 rfl) ?_
      refine lv_aload_n hx hb d_Mo_hours_27 rfl (lv_at hl 0 rfl) ?_
      refine u_get hx hb hts inMo hown hK hV hn 0 rfl rfl 9 (by decide) w_fl_Mo_29 rfl rfl d_Mo_hours_28 ?_
      refine lv_iload_n hx hb d_Mo_hours_31 rfl (lv_at hl 1 rfl) ?_
      refine u_ialdN hx hb hK hV hn 2 rfl (by omega) (by decide) d_Mo_hours_32 ?_
      refine lv_bipush (v := 23) hx hb d_Mo_hours_33 (by decide) ?_
      refine v_call (va_runV (As := [.int ((upd F i (nI v_1)) i), .int 23]) (rest := [.int (nI (i + 1)), .ref np]) ⟨hx, hb, hml, hown, hts⟩ (c_Mo_numberB l G lo _ _ m u0 (.int (nI n)) (.ref mt) u3 u4 u5 u6 u7 u8 (.ref np) u10 u11 u12 (.int (nI e_2)) u15 u16 u17 u18 u19 u20 (by simp) e_2 (by omega) ((upd F i (nI v_1)) i) 23) (kwV 2 hts w_co_Mo_number rfl rfl w_it_Mo w_ml_Mo_82 w_im_Mo_number w_se_Mo__Mo_number (by decide +kernel) ⟨(Nat.le_of_ble_eq_true rfl), (Nat.le_of_ble_eq_true rfl)⟩) (u_preV hK hV hn [0] rfl hz 0 rfl rfl) rfl rfl hl.1 rfl (lv_room (Nat.le_of_ble_eq_true rfl)) d_Mo_hours_35 ⟨(Nat.le_of_ble_eq_true rfl), (Nat.le_of_ble_eq_true rfl)⟩) hV (fun r9 V9 H locs hp hV hle => ?_)
      obtain ⟨rfl, rfl, hz⟩ := hp
      replace hV := uu_same hV hn [0] rfl
      have hV : vS G.1 cls lo s H locs (vU V [(m, eO 8 [u0, .int (nI n), .ref mt, u3, u4, u5, u6, u7, u8, .ref np, u10, u11, u12, .int (nI e_2), .int (nI e_2), u15, u16, u17, u18, u19, u20]), (mt, eI (gI G) 400 g), (np, eI (gI G) 1769 (upd F i (nI v_1)))]) := hV
      refine W.eq (g2 := F0 mi 38 ls [.int ((upd F i (nI v_1)) i), .int (nI (i + 1)), .ref np]) rfl ?_
      refine u_iastN hx hb hK hV hn 2 rfl (by omega) (by decide) d_Mo_hours_38 (fun H locs hV hz9 => ?_)
      have hV : vS G.1 cls lo s H locs (vU V [(m, eO 8 [u0, .int (nI n), .ref mt, u3, u4, u5, u6, u7, u8, .ref np, u10, u11, u12, .int (nI e_2), .int (nI e_2), u15, u16, u17, u18, u19, u20]), (mt, eI (gI G) 400 g), (np, eI (gI G) 1769 (upd (upd F i (nI v_1)) (i + 1) ((upd F i (nI v_1)) i)))]) := hV
      replace hz := hz9.trans hz
      refine lv_aload_n hx hb d_Mo_hours_39 rfl (lv_at hl 0 rfl) ?_
      refine lv_bipush (v := 58) hx hb d_Mo_hours_40 (by decide) ?_
      refine v_call (va_runV (As := [.int 58]) (rest := []) ⟨hx, hb, hml, hown, hts⟩ (c_Mo_takeB l G lo _ _ m u0 (.int (nI n)) (.ref mt) u3 u4 u5 u6 u7 u8 (.ref np) u10 u11 u12 (.int (nI e_2)) u15 u16 u17 u18 u19 u20 (by simp) e_2 (by omega) 58) (kwV 1 hts w_co_Mo_take rfl rfl w_it_Mo w_ml_Mo_86 w_im_Mo_take w_se_Mo__Mo_take (by decide +kernel) ⟨(Nat.le_of_ble_eq_true rfl), (Nat.le_of_ble_eq_true rfl)⟩) (u_preV hK hV hn [0] rfl hz 0 rfl rfl) rfl rfl hl.1 rfl (lv_room (Nat.le_of_ble_eq_true rfl)) d_Mo_hours_42 ⟨(Nat.le_of_ble_eq_true rfl), (Nat.le_of_ble_eq_true rfl)⟩) hV (fun r9 V9 H locs hp hV hle => ?_)
      obtain ⟨rfl, rfl, hz⟩ := hp
      replace hV := uu_same hV hn [0] rfl
      have hV : vS G.1 cls lo s H locs (vU V [(m, eO 8 [u0, .int (nI n), .ref mt, u3, u4, u5, u6, u7, u8, .ref np, u10, u11, u12, .int (nI e_2), .int (nI e_2), u15, u16, u17, u18, u19, u20]), (mt, eI (gI G) 400 g), (np, eI (gI G) 1769 (upd (upd F i (nI v_1)) (i + 1) ((upd F i (nI v_1)) i)))]) := hV
      refine lv_aload_n hx hb d_Mo_hours_45 rfl (lv_at hl 0 rfl) ?_
      refine u_get hx hb hts inMo hown hK hV hn 0 rfl rfl 9 (by decide) w_fl_Mo_29 rfl rfl d_Mo_hours_46 ?_
      refine lv_iload_n hx hb d_Mo_hours_49 rfl (lv_at hl 1 rfl) ?_
      refine lv_iconst (v := 2) hx hb d_Mo_hours_50 (by decide) ?_
      refine e_iadd (v := nI (i + 2)) hx hb d_Mo_hours_51 (nI_add i 2) ?_
      refine lv_aload_n hx hb d_Mo_hours_52 rfl (lv_at hl 0 rfl) ?_
      refine lv_iconst (v := 1) hx hb d_Mo_hours_53 (by decide) ?_
      refine lv_bipush (v := 99) hx hb d_Mo_hours_54 (by decide) ?_
      refine v_call (va_runV (As := [.int 1, .int 99]) (rest := [.int (nI (i + 2)), .ref np]) ⟨hx, hb, hml, hown, hts⟩ (c_Mo_numberB l G lo _ _ m u0 (.int (nI n)) (.ref mt) u3 u4 u5 u6 u7 u8 (.ref np) u10 u11 u12 (.int (nI e_2)) u15 u16 u17 u18 u19 u20 (by simp) e_2 (by omega) 1 99) (kwV 2 hts w_co_Mo_number rfl rfl w_it_Mo w_ml_Mo_82 w_im_Mo_number w_se_Mo__Mo_number (by decide +kernel) ⟨(Nat.le_of_ble_eq_true rfl), (Nat.le_of_ble_eq_true rfl)⟩) (u_preV hK hV hn [0] rfl hz 0 rfl rfl) rfl rfl hl.1 rfl (lv_room (Nat.le_of_ble_eq_true rfl)) d_Mo_hours_56 ⟨(Nat.le_of_ble_eq_true rfl), (Nat.le_of_ble_eq_true rfl)⟩) hV (fun r9 V9 H locs hp hV hle => ?_)
      obtain ⟨rfl, rfl, hz⟩ := hp
      replace hV := uu_same hV hn [0] rfl
      have hV : vS G.1 cls lo s H locs (vU V [(m, eO 8 [u0, .int (nI n), .ref mt, u3, u4, u5, u6, u7, u8, .ref np, u10, u11, u12, .int (nI e_2), .int (nI e_2), u15, u16, u17, u18, u19, u20]), (mt, eI (gI G) 400 g), (np, eI (gI G) 1769 (upd (upd F i (nI v_1)) (i + 1) ((upd F i (nI v_1)) i)))]) := hV
      refine W.eq (g2 := F0 mi 59 ls [.int 1, .int (nI (i + 2)), .ref np]) rfl ?_
      refine u_iastN hx hb hK hV hn 2 rfl (by omega) (by decide) d_Mo_hours_59 (fun H locs hV hz9 => ?_)
      have hV : vS G.1 cls lo s H locs (vU V [(m, eO 8 [u0, .int (nI n), .ref mt, u3, u4, u5, u6, u7, u8, .ref np, u10, u11, u12, .int (nI e_2), .int (nI e_2), u15, u16, u17, u18, u19, u20]), (mt, eI (gI G) 400 g), (np, eI (gI G) 1769 (upd (upd (upd F i (nI v_1)) (i + 1) ((upd F i (nI v_1)) i)) (i + 2) 1))]) := hV
      replace hz := hz9.trans hz
      refine lv_aload_n hx hb d_Mo_hours_60 rfl (lv_at hl 0 rfl) ?_
      refine lv_bipush (v := 93) hx hb d_Mo_hours_61 (by decide) ?_
      refine v_call (va_runV (As := [.int 93]) (rest := []) ⟨hx, hb, hml, hown, hts⟩ (c_Mo_takeB l G lo _ _ m u0 (.int (nI n)) (.ref mt) u3 u4 u5 u6 u7 u8 (.ref np) u10 u11 u12 (.int (nI e_2)) u15 u16 u17 u18 u19 u20 (by simp) e_2 (by omega) 93) (kwV 1 hts w_co_Mo_take rfl rfl w_it_Mo w_ml_Mo_86 w_im_Mo_take w_se_Mo__Mo_take (by decide +kernel) ⟨(Nat.le_of_ble_eq_true rfl), (Nat.le_of_ble_eq_true rfl)⟩) (u_preV hK hV hn [0] rfl hz 0 rfl rfl) rfl rfl hl.1 rfl (lv_room (Nat.le_of_ble_eq_true rfl)) d_Mo_hours_63 ⟨(Nat.le_of_ble_eq_true rfl), (Nat.le_of_ble_eq_true rfl)⟩) hV (fun r9 V9 H locs hp hV hle => ?_)
      obtain ⟨rfl, rfl, hz⟩ := hp
      replace hV := uu_same hV hn [0] rfl
      have hV : vS G.1 cls lo s H locs (vU V [(m, eO 8 [u0, .int (nI n), .ref mt, u3, u4, u5, u6, u7, u8, .ref np, u10, u11, u12, .int (nI e_2), .int (nI e_2), u15, u16, u17, u18, u19, u20]), (mt, eI (gI G) 400 g), (np, eI (gI G) 1769 (upd (upd (upd F i (nI v_1)) (i + 1) ((upd F i (nI v_1)) i)) (i + 2) 1))]) := hV
      refine lv_aload_n hx hb d_Mo_hours_66 rfl (lv_at hl 0 rfl) ?_
      refine u_get hx hb hts inMo hown hK hV hn 0 rfl rfl 9 (by decide) w_fl_Mo_29 rfl rfl d_Mo_hours_67 ?_
      refine lv_iload_n hx hb d_Mo_hours_70 rfl (lv_at hl 2 rfl) ?_
      refine lv_bipush (v := 7) hx hb d_Mo_hours_71 (by decide) ?_
      refine e_iadd (v := nI (p + 7)) hx hb d_Mo_hours_73 (nI_add p 7) ?_
      refine lv_dup2_11 hx hb d_Mo_hours_74 rfl rfl ?_
      refine u_ialdN hx hb hK hV hn 2 rfl (by omega) (by decide) d_Mo_hours_75 ?_
      refine lv_iconst (v := 1) hx hb d_Mo_hours_76 (by decide) ?_
      refine e_iadd (v := ((upd (upd (upd F i (nI v_1)) (i + 1) ((upd F i (nI v_1)) i)) (i + 2) 1) (p + 7)) + 1) hx hb d_Mo_hours_77 (rfl) ?_
      refine u_iastN hx hb hK hV hn 2 rfl (by omega) (by decide) d_Mo_hours_78 (fun H locs hV hz9 => ?_)
      have hV : vS G.1 cls lo s H locs (vU V [(m, eO 8 [u0, .int (nI n), .ref mt, u3, u4, u5, u6, u7, u8, .ref np, u10, u11, u12, .int (nI e_2), .int (nI e_2), u15, u16, u17, u18, u19, u20]), (mt, eI (gI G) 400 g), (np, eI (gI G) 1769 (upd (upd (upd (upd F i (nI v_1)) (i + 1) ((upd F i (nI v_1)) i)) (i + 2) 1) (p + 7) (((upd (upd (upd F i (nI v_1)) (i + 1) ((upd F i (nI v_1)) i)) (i + 2) 1) (p + 7)) + 1)))]) := hV
      replace hz := hz9.trans hz
      have hX : hourR t n q = .inl e_2 := by simp only [semi, hourR, hx_1, hx_2, sbd_l, sbd_r]
      exact W.vret hx hb hr (v_end hV ⟨rfl, ⟨_, _, by rw [hX]; rfl, fun z hz9 => by rw [hX] at hz9; cases hz9⟩, hz⟩) hV.2.1.2.2 d_Mo_hours_79
    · obtain ⟨gq_2, bq_2⟩ := tk_ok hx_2
      have hV : vS G.1 cls lo s H locs (vU V [(m, eO 8 [u0, .int (nI n), .ref mt, u3, u4, u5, u6, u7, u8, .ref np, u10, u11, u12, .int (nI q_2), .int ((-1)), u15, u16, u17, u18, u19, u20]), (mt, eI (gI G) 400 g), (np, eI (gI G) 1769 (upd F i (nI v_1)))]) := hV
      refine W.eq (g2 := F0 mi 19 ls []) rfl ?_
      refine lv_aload_n hx hb d_Mo_hours_19 rfl (lv_at hl 0 rfl) ?_
      refine u_get hx hb hts inMo hown hK hV hn 0 rfl rfl 9 (by decide) w_fl_Mo_29 rfl rfl d_Mo_hours_20 ?_
      refine lv_iload_n hx hb d_Mo_hours_23 rfl (lv_at hl 1 rfl) ?_
      refine lv_iconst (v := 1) hx hb d_Mo_hours_24 (by decide) ?_
      refine e_iadd (v := nI (i + 1)) hx hb d_Mo_hours_25 (nI_add i 1) ?_
      refine lv_aload_n hx hb d_Mo_hours_26 rfl (lv_at hl 0 rfl) ?_
      refine lv_aload_n hx hb d_Mo_hours_27 rfl (lv_at hl 0 rfl) ?_
      refine u_get hx hb hts inMo hown hK hV hn 0 rfl rfl 9 (by decide) w_fl_Mo_29 rfl rfl d_Mo_hours_28 ?_
      refine lv_iload_n hx hb d_Mo_hours_31 rfl (lv_at hl 1 rfl) ?_
      refine u_ialdN hx hb hK hV hn 2 rfl (by omega) (by decide) d_Mo_hours_32 ?_
      rw [upd_same]
      refine lv_bipush (v := 23) hx hb d_Mo_hours_33 (by decide) ?_
      refine v_call (va_runV (As := [.int (nI v_1), .int 23]) (rest := [.int (nI (i + 1)), .ref np]) ⟨hx, hb, hml, hown, hts⟩ (c_Mo_number l G lo _ _ m mt u0 u3 u4 u5 u6 u7 u8 (.ref np) u10 u11 u12 u15 u16 u17 u18 u19 u20 g t n q_2 (nd_sub hn [0, 1] (by decide) rfl) hT h4 (by omega) v_1 23 (by omega) (by omega)) (kwV 2 hts w_co_Mo_number rfl rfl w_it_Mo w_ml_Mo_82 w_im_Mo_number w_se_Mo__Mo_number (by decide +kernel) ⟨(Nat.le_of_ble_eq_true rfl), (Nat.le_of_ble_eq_true rfl)⟩) (u_preV hK hV hn [0, 1] rfl hz 0 rfl rfl) rfl rfl hl.1 rfl (lv_room (Nat.le_of_ble_eq_true rfl)) d_Mo_hours_35 ⟨(Nat.le_of_ble_eq_true rfl), (Nat.le_of_ble_eq_true rfl)⟩) hV (fun r9 V9 H locs hp hV hle => ?_)
      obtain ⟨rfl, rfl, hz⟩ := hp
      replace hV := u_back hV hn [0, 1] rfl
      have hV : vS G.1 cls lo s H locs (vU V [(m, eO 8 [u0, .int (nI n), .ref mt, u3, u4, u5, u6, u7, u8, .ref np, u10, u11, u12, .int (nI ((dgs t n 4 0 0 (sk t n q_2)).2.2)), .int (wI (num t n v_1 23 q_2)), u15, u16, u17, u18, u19, u20]), (mt, eI (gI G) 400 g), (np, eI (gI G) 1769 (upd F i (nI v_1)))]) := hV
      obtain ⟨x_3, hx_3⟩ : ∃ z, num t n v_1 23 q_2 = z := ⟨_, rfl⟩
      rw [hx_3] at hV
      rcases x_3 with e_3 | ⟨v_3, q_3⟩
      · obtain ⟨ax_3, hax_3⟩ : ∃ z, (dgs t n 4 0 0 (sk t n q_2)).2.2 = z := ⟨_, rfl⟩
        rw [hax_3] at hV
        have be_3 := num_er2 hx_3
        have bax_3 := dgs_le2 hax_3
        have hV : vS G.1 cls lo s H locs (vU V [(m, eO 8 [u0, .int (nI n), .ref mt, u3, u4, u5, u6, u7, u8, .ref np, u10, u11, u12, .int (nI ax_3), .int (nI e_3), u15, u16, u17, u18, u19, u20]), (mt, eI (gI G) 400 g), (np, eI (gI G) 1769 (upd F i (nI v_1)))]) := hV
        refine W.eq (g2 := F0 mi 38 ls [.int (nI v_1), .int (nI (i + 1)), .ref np]) (by rw [hx_3]; rfl) ?_
        refine u_iastN hx hb hK hV hn 2 rfl (by omega) (by decide) d_Mo_hours_38 (fun H locs hV hz9 => ?_)
        have hV : vS G.1 cls lo s H locs (vU V [(m, eO 8 [u0, .int (nI n), .ref mt, u3, u4, u5, u6, u7, u8, .ref np, u10, u11, u12, .int (nI ax_3), .int (nI e_3), u15, u16, u17, u18, u19, u20]), (mt, eI (gI G) 400 g), (np, eI (gI G) 1769 (upd (upd F i (nI v_1)) (i + 1) (nI v_1)))]) := hV
        replace hz := hz9.trans hz
        refine lv_aload_n hx hb d_Mo_hours_39 rfl (lv_at hl 0 rfl) ?_
        refine lv_bipush (v := 58) hx hb d_Mo_hours_40 (by decide) ?_
        refine v_call (va_runV (As := [.int 58]) (rest := []) ⟨hx, hb, hml, hown, hts⟩ (c_Mo_takeB l G lo _ _ m u0 (.int (nI n)) (.ref mt) u3 u4 u5 u6 u7 u8 (.ref np) u10 u11 u12 (.int (nI ax_3)) u15 u16 u17 u18 u19 u20 (by simp) e_3 (by omega) 58) (kwV 1 hts w_co_Mo_take rfl rfl w_it_Mo w_ml_Mo_86 w_im_Mo_take w_se_Mo__Mo_take (by decide +kernel) ⟨(Nat.le_of_ble_eq_true rfl), (Nat.le_of_ble_eq_true rfl)⟩) (u_preV hK hV hn [0] rfl hz 0 rfl rfl) rfl rfl hl.1 rfl (lv_room (Nat.le_of_ble_eq_true rfl)) d_Mo_hours_42 ⟨(Nat.le_of_ble_eq_true rfl), (Nat.le_of_ble_eq_true rfl)⟩) hV (fun r9 V9 H locs hp hV hle => ?_)
        obtain ⟨rfl, rfl, hz⟩ := hp
        replace hV := uu_same hV hn [0] rfl
        have hV : vS G.1 cls lo s H locs (vU V [(m, eO 8 [u0, .int (nI n), .ref mt, u3, u4, u5, u6, u7, u8, .ref np, u10, u11, u12, .int (nI ax_3), .int (nI e_3), u15, u16, u17, u18, u19, u20]), (mt, eI (gI G) 400 g), (np, eI (gI G) 1769 (upd (upd F i (nI v_1)) (i + 1) (nI v_1)))]) := hV
        refine lv_aload_n hx hb d_Mo_hours_45 rfl (lv_at hl 0 rfl) ?_
        refine u_get hx hb hts inMo hown hK hV hn 0 rfl rfl 9 (by decide) w_fl_Mo_29 rfl rfl d_Mo_hours_46 ?_
        refine lv_iload_n hx hb d_Mo_hours_49 rfl (lv_at hl 1 rfl) ?_
        refine lv_iconst (v := 2) hx hb d_Mo_hours_50 (by decide) ?_
        refine e_iadd (v := nI (i + 2)) hx hb d_Mo_hours_51 (nI_add i 2) ?_
        refine lv_aload_n hx hb d_Mo_hours_52 rfl (lv_at hl 0 rfl) ?_
        refine lv_iconst (v := 1) hx hb d_Mo_hours_53 (by decide) ?_
        refine lv_bipush (v := 99) hx hb d_Mo_hours_54 (by decide) ?_
        refine v_call (va_runV (As := [.int 1, .int 99]) (rest := [.int (nI (i + 2)), .ref np]) ⟨hx, hb, hml, hown, hts⟩ (c_Mo_numberB l G lo _ _ m u0 (.int (nI n)) (.ref mt) u3 u4 u5 u6 u7 u8 (.ref np) u10 u11 u12 (.int (nI ax_3)) u15 u16 u17 u18 u19 u20 (by simp) e_3 (by omega) 1 99) (kwV 2 hts w_co_Mo_number rfl rfl w_it_Mo w_ml_Mo_82 w_im_Mo_number w_se_Mo__Mo_number (by decide +kernel) ⟨(Nat.le_of_ble_eq_true rfl), (Nat.le_of_ble_eq_true rfl)⟩) (u_preV hK hV hn [0] rfl hz 0 rfl rfl) rfl rfl hl.1 rfl (lv_room (Nat.le_of_ble_eq_true rfl)) d_Mo_hours_56 ⟨(Nat.le_of_ble_eq_true rfl), (Nat.le_of_ble_eq_true rfl)⟩) hV (fun r9 V9 H locs hp hV hle => ?_)
        obtain ⟨rfl, rfl, hz⟩ := hp
        replace hV := uu_same hV hn [0] rfl
        have hV : vS G.1 cls lo s H locs (vU V [(m, eO 8 [u0, .int (nI n), .ref mt, u3, u4, u5, u6, u7, u8, .ref np, u10, u11, u12, .int (nI ax_3), .int (nI e_3), u15, u16, u17, u18, u19, u20]), (mt, eI (gI G) 400 g), (np, eI (gI G) 1769 (upd (upd F i (nI v_1)) (i + 1) (nI v_1)))]) := hV
        refine W.eq (g2 := F0 mi 59 ls [.int 1, .int (nI (i + 2)), .ref np]) rfl ?_
        refine u_iastN hx hb hK hV hn 2 rfl (by omega) (by decide) d_Mo_hours_59 (fun H locs hV hz9 => ?_)
        have hV : vS G.1 cls lo s H locs (vU V [(m, eO 8 [u0, .int (nI n), .ref mt, u3, u4, u5, u6, u7, u8, .ref np, u10, u11, u12, .int (nI ax_3), .int (nI e_3), u15, u16, u17, u18, u19, u20]), (mt, eI (gI G) 400 g), (np, eI (gI G) 1769 (upd (upd (upd F i (nI v_1)) (i + 1) (nI v_1)) (i + 2) 1))]) := hV
        replace hz := hz9.trans hz
        refine lv_aload_n hx hb d_Mo_hours_60 rfl (lv_at hl 0 rfl) ?_
        refine lv_bipush (v := 93) hx hb d_Mo_hours_61 (by decide) ?_
        refine v_call (va_runV (As := [.int 93]) (rest := []) ⟨hx, hb, hml, hown, hts⟩ (c_Mo_takeB l G lo _ _ m u0 (.int (nI n)) (.ref mt) u3 u4 u5 u6 u7 u8 (.ref np) u10 u11 u12 (.int (nI ax_3)) u15 u16 u17 u18 u19 u20 (by simp) e_3 (by omega) 93) (kwV 1 hts w_co_Mo_take rfl rfl w_it_Mo w_ml_Mo_86 w_im_Mo_take w_se_Mo__Mo_take (by decide +kernel) ⟨(Nat.le_of_ble_eq_true rfl), (Nat.le_of_ble_eq_true rfl)⟩) (u_preV hK hV hn [0] rfl hz 0 rfl rfl) rfl rfl hl.1 rfl (lv_room (Nat.le_of_ble_eq_true rfl)) d_Mo_hours_63 ⟨(Nat.le_of_ble_eq_true rfl), (Nat.le_of_ble_eq_true rfl)⟩) hV (fun r9 V9 H locs hp hV hle => ?_)
        obtain ⟨rfl, rfl, hz⟩ := hp
        replace hV := uu_same hV hn [0] rfl
        have hV : vS G.1 cls lo s H locs (vU V [(m, eO 8 [u0, .int (nI n), .ref mt, u3, u4, u5, u6, u7, u8, .ref np, u10, u11, u12, .int (nI ax_3), .int (nI e_3), u15, u16, u17, u18, u19, u20]), (mt, eI (gI G) 400 g), (np, eI (gI G) 1769 (upd (upd (upd F i (nI v_1)) (i + 1) (nI v_1)) (i + 2) 1))]) := hV
        refine lv_aload_n hx hb d_Mo_hours_66 rfl (lv_at hl 0 rfl) ?_
        refine u_get hx hb hts inMo hown hK hV hn 0 rfl rfl 9 (by decide) w_fl_Mo_29 rfl rfl d_Mo_hours_67 ?_
        refine lv_iload_n hx hb d_Mo_hours_70 rfl (lv_at hl 2 rfl) ?_
        refine lv_bipush (v := 7) hx hb d_Mo_hours_71 (by decide) ?_
        refine e_iadd (v := nI (p + 7)) hx hb d_Mo_hours_73 (nI_add p 7) ?_
        refine lv_dup2_11 hx hb d_Mo_hours_74 rfl rfl ?_
        refine u_ialdN hx hb hK hV hn 2 rfl (by omega) (by decide) d_Mo_hours_75 ?_
        refine lv_iconst (v := 1) hx hb d_Mo_hours_76 (by decide) ?_
        refine e_iadd (v := ((upd (upd (upd F i (nI v_1)) (i + 1) (nI v_1)) (i + 2) 1) (p + 7)) + 1) hx hb d_Mo_hours_77 (rfl) ?_
        refine u_iastN hx hb hK hV hn 2 rfl (by omega) (by decide) d_Mo_hours_78 (fun H locs hV hz9 => ?_)
        have hV : vS G.1 cls lo s H locs (vU V [(m, eO 8 [u0, .int (nI n), .ref mt, u3, u4, u5, u6, u7, u8, .ref np, u10, u11, u12, .int (nI ax_3), .int (nI e_3), u15, u16, u17, u18, u19, u20]), (mt, eI (gI G) 400 g), (np, eI (gI G) 1769 (upd (upd (upd (upd F i (nI v_1)) (i + 1) (nI v_1)) (i + 2) 1) (p + 7) (((upd (upd (upd F i (nI v_1)) (i + 1) (nI v_1)) (i + 2) 1) (p + 7)) + 1)))]) := hV
        replace hz := hz9.trans hz
        have hX : hourR t n q = .inl e_3 := by simp only [semi, hourR, hx_1, hx_2, hx_3, sbd_l, sbd_r]
        exact W.vret hx hb hr (v_end hV ⟨rfl, ⟨_, _, by rw [hX]; rfl, fun z hz9 => by rw [hX] at hz9; cases hz9⟩, hz⟩) hV.2.1.2.2 d_Mo_hours_79
      · rw [num_at hx_3] at hV
        obtain ⟨lv_3, uv_3, gq_3, bq_3⟩ := num_ok2 hx_3
        have hV : vS G.1 cls lo s H locs (vU V [(m, eO 8 [u0, .int (nI n), .ref mt, u3, u4, u5, u6, u7, u8, .ref np, u10, u11, u12, .int (nI q_3), .int ((-1)), u15, u16, u17, u18, u19, u20]), (mt, eI (gI G) 400 g), (np, eI (gI G) 1769 (upd F i (nI v_1)))]) := hV
        refine W.eq (g2 := F0 mi 38 ls [.int (nI v_3), .int (nI (i + 1)), .ref np]) (by rw [hx_3]; rfl) ?_
        refine u_iastN hx hb hK hV hn 2 rfl (by omega) (by decide) d_Mo_hours_38 (fun H locs hV hz9 => ?_)
        have hV : vS G.1 cls lo s H locs (vU V [(m, eO 8 [u0, .int (nI n), .ref mt, u3, u4, u5, u6, u7, u8, .ref np, u10, u11, u12, .int (nI q_3), .int ((-1)), u15, u16, u17, u18, u19, u20]), (mt, eI (gI G) 400 g), (np, eI (gI G) 1769 (upd (upd F i (nI v_1)) (i + 1) (nI v_3)))]) := hV
        replace hz := hz9.trans hz
        refine lv_aload_n hx hb d_Mo_hours_39 rfl (lv_at hl 0 rfl) ?_
        refine lv_bipush (v := 58) hx hb d_Mo_hours_40 (by decide) ?_
        refine v_call (va_runV (As := [.int 58]) (rest := []) ⟨hx, hb, hml, hown, hts⟩ (c_Mo_take l G lo _ _ m mt u0 u3 u4 u5 u6 u7 u8 (.ref np) u10 u11 u12 u15 u16 u17 u18 u19 u20 g t n q_3 (nd_sub hn [0, 1] (by decide) rfl) hT h4 (by omega) 58 (by decide)) (kwV 1 hts w_co_Mo_take rfl rfl w_it_Mo w_ml_Mo_86 w_im_Mo_take w_se_Mo__Mo_take (by decide +kernel) ⟨(Nat.le_of_ble_eq_true rfl), (Nat.le_of_ble_eq_true rfl)⟩) (u_preV hK hV hn [0, 1] rfl hz 0 rfl rfl) rfl rfl hl.1 rfl (lv_room (Nat.le_of_ble_eq_true rfl)) d_Mo_hours_42 ⟨(Nat.le_of_ble_eq_true rfl), (Nat.le_of_ble_eq_true rfl)⟩) hV (fun r9 V9 H locs hp hV hle => ?_)
        obtain ⟨rfl, rfl, hz⟩ := hp
        replace hV := u_back hV hn [0, 1] rfl
        have hV : vS G.1 cls lo s H locs (vU V [(m, eO 8 [u0, .int (nI n), .ref mt, u3, u4, u5, u6, u7, u8, .ref np, u10, u11, u12, .int (nI (rQ (tk t n 58 q_3))), .int (wI (tk t n 58 q_3)), u15, u16, u17, u18, u19, u20]), (mt, eI (gI G) 400 g), (np, eI (gI G) 1769 (upd (upd F i (nI v_1)) (i + 1) (nI v_3)))]) := hV
        obtain ⟨x_4, hx_4⟩ : ∃ z, tk t n 58 q_3 = z := ⟨_, rfl⟩
        rw [hx_4] at hV
        rcases x_4 with e_4 | q_4
        · have be_4 := tk_er2 hx_4
          have hV : vS G.1 cls lo s H locs (vU V [(m, eO 8 [u0, .int (nI n), .ref mt, u3, u4, u5, u6, u7, u8, .ref np, u10, u11, u12, .int (nI e_4), .int (nI e_4), u15, u16, u17, u18, u19, u20]), (mt, eI (gI G) 400 g), (np, eI (gI G) 1769 (upd (upd F i (nI v_1)) (i + 1) (nI v_3)))]) := hV
          refine W.eq (g2 := F0 mi 45 ls []) rfl ?_
          refine lv_aload_n hx hb d_Mo_hours_45 rfl (lv_at hl 0 rfl) ?_
          refine u_get hx hb hts inMo hown hK hV hn 0 rfl rfl 9 (by decide) w_fl_Mo_29 rfl rfl d_Mo_hours_46 ?_
          refine lv_iload_n hx hb d_Mo_hours_49 rfl (lv_at hl 1 rfl) ?_
          refine lv_iconst (v := 2) hx hb d_Mo_hours_50 (by decide) ?_
          refine e_iadd (v := nI (i + 2)) hx hb d_Mo_hours_51 (nI_add i 2) ?_
          refine lv_aload_n hx hb d_Mo_hours_52 rfl (lv_at hl 0 rfl) ?_
          refine lv_iconst (v := 1) hx hb d_Mo_hours_53 (by decide) ?_
          refine lv_bipush (v := 99) hx hb d_Mo_hours_54 (by decide) ?_
          refine v_call (va_runV (As := [.int 1, .int 99]) (rest := [.int (nI (i + 2)), .ref np]) ⟨hx, hb, hml, hown, hts⟩ (c_Mo_numberB l G lo _ _ m u0 (.int (nI n)) (.ref mt) u3 u4 u5 u6 u7 u8 (.ref np) u10 u11 u12 (.int (nI e_4)) u15 u16 u17 u18 u19 u20 (by simp) e_4 (by omega) 1 99) (kwV 2 hts w_co_Mo_number rfl rfl w_it_Mo w_ml_Mo_82 w_im_Mo_number w_se_Mo__Mo_number (by decide +kernel) ⟨(Nat.le_of_ble_eq_true rfl), (Nat.le_of_ble_eq_true rfl)⟩) (u_preV hK hV hn [0] rfl hz 0 rfl rfl) rfl rfl hl.1 rfl (lv_room (Nat.le_of_ble_eq_true rfl)) d_Mo_hours_56 ⟨(Nat.le_of_ble_eq_true rfl), (Nat.le_of_ble_eq_true rfl)⟩) hV (fun r9 V9 H locs hp hV hle => ?_)
          obtain ⟨rfl, rfl, hz⟩ := hp
          replace hV := uu_same hV hn [0] rfl
          have hV : vS G.1 cls lo s H locs (vU V [(m, eO 8 [u0, .int (nI n), .ref mt, u3, u4, u5, u6, u7, u8, .ref np, u10, u11, u12, .int (nI e_4), .int (nI e_4), u15, u16, u17, u18, u19, u20]), (mt, eI (gI G) 400 g), (np, eI (gI G) 1769 (upd (upd F i (nI v_1)) (i + 1) (nI v_3)))]) := hV
          refine W.eq (g2 := F0 mi 59 ls [.int 1, .int (nI (i + 2)), .ref np]) rfl ?_
          refine u_iastN hx hb hK hV hn 2 rfl (by omega) (by decide) d_Mo_hours_59 (fun H locs hV hz9 => ?_)
          have hV : vS G.1 cls lo s H locs (vU V [(m, eO 8 [u0, .int (nI n), .ref mt, u3, u4, u5, u6, u7, u8, .ref np, u10, u11, u12, .int (nI e_4), .int (nI e_4), u15, u16, u17, u18, u19, u20]), (mt, eI (gI G) 400 g), (np, eI (gI G) 1769 (upd (upd (upd F i (nI v_1)) (i + 1) (nI v_3)) (i + 2) 1))]) := hV
          replace hz := hz9.trans hz
          refine lv_aload_n hx hb d_Mo_hours_60 rfl (lv_at hl 0 rfl) ?_
          refine lv_bipush (v := 93) hx hb d_Mo_hours_61 (by decide) ?_
          refine v_call (va_runV (As := [.int 93]) (rest := []) ⟨hx, hb, hml, hown, hts⟩ (c_Mo_takeB l G lo _ _ m u0 (.int (nI n)) (.ref mt) u3 u4 u5 u6 u7 u8 (.ref np) u10 u11 u12 (.int (nI e_4)) u15 u16 u17 u18 u19 u20 (by simp) e_4 (by omega) 93) (kwV 1 hts w_co_Mo_take rfl rfl w_it_Mo w_ml_Mo_86 w_im_Mo_take w_se_Mo__Mo_take (by decide +kernel) ⟨(Nat.le_of_ble_eq_true rfl), (Nat.le_of_ble_eq_true rfl)⟩) (u_preV hK hV hn [0] rfl hz 0 rfl rfl) rfl rfl hl.1 rfl (lv_room (Nat.le_of_ble_eq_true rfl)) d_Mo_hours_63 ⟨(Nat.le_of_ble_eq_true rfl), (Nat.le_of_ble_eq_true rfl)⟩) hV (fun r9 V9 H locs hp hV hle => ?_)
          obtain ⟨rfl, rfl, hz⟩ := hp
          replace hV := uu_same hV hn [0] rfl
          have hV : vS G.1 cls lo s H locs (vU V [(m, eO 8 [u0, .int (nI n), .ref mt, u3, u4, u5, u6, u7, u8, .ref np, u10, u11, u12, .int (nI e_4), .int (nI e_4), u15, u16, u17, u18, u19, u20]), (mt, eI (gI G) 400 g), (np, eI (gI G) 1769 (upd (upd (upd F i (nI v_1)) (i + 1) (nI v_3)) (i + 2) 1))]) := hV
          refine lv_aload_n hx hb d_Mo_hours_66 rfl (lv_at hl 0 rfl) ?_
          refine u_get hx hb hts inMo hown hK hV hn 0 rfl rfl 9 (by decide) w_fl_Mo_29 rfl rfl d_Mo_hours_67 ?_
          refine lv_iload_n hx hb d_Mo_hours_70 rfl (lv_at hl 2 rfl) ?_
          refine lv_bipush (v := 7) hx hb d_Mo_hours_71 (by decide) ?_
          refine e_iadd (v := nI (p + 7)) hx hb d_Mo_hours_73 (nI_add p 7) ?_
          refine lv_dup2_11 hx hb d_Mo_hours_74 rfl rfl ?_
          refine u_ialdN hx hb hK hV hn 2 rfl (by omega) (by decide) d_Mo_hours_75 ?_
          refine lv_iconst (v := 1) hx hb d_Mo_hours_76 (by decide) ?_
          refine e_iadd (v := ((upd (upd (upd F i (nI v_1)) (i + 1) (nI v_3)) (i + 2) 1) (p + 7)) + 1) hx hb d_Mo_hours_77 (rfl) ?_
          refine u_iastN hx hb hK hV hn 2 rfl (by omega) (by decide) d_Mo_hours_78 (fun H locs hV hz9 => ?_)
          have hV : vS G.1 cls lo s H locs (vU V [(m, eO 8 [u0, .int (nI n), .ref mt, u3, u4, u5, u6, u7, u8, .ref np, u10, u11, u12, .int (nI e_4), .int (nI e_4), u15, u16, u17, u18, u19, u20]), (mt, eI (gI G) 400 g), (np, eI (gI G) 1769 (upd (upd (upd (upd F i (nI v_1)) (i + 1) (nI v_3)) (i + 2) 1) (p + 7) (((upd (upd (upd F i (nI v_1)) (i + 1) (nI v_3)) (i + 2) 1) (p + 7)) + 1)))]) := hV
          replace hz := hz9.trans hz
          have hX : hourR t n q = .inl e_4 := by simp only [semi, hourR, hx_1, hx_2, hx_3, hx_4, sbd_l, sbd_r]
          exact W.vret hx hb hr (v_end hV ⟨rfl, ⟨_, _, by rw [hX]; rfl, fun z hz9 => by rw [hX] at hz9; cases hz9⟩, hz⟩) hV.2.1.2.2 d_Mo_hours_79
        · obtain ⟨gq_4, bq_4⟩ := tk_ok hx_4
          have hV : vS G.1 cls lo s H locs (vU V [(m, eO 8 [u0, .int (nI n), .ref mt, u3, u4, u5, u6, u7, u8, .ref np, u10, u11, u12, .int (nI q_4), .int ((-1)), u15, u16, u17, u18, u19, u20]), (mt, eI (gI G) 400 g), (np, eI (gI G) 1769 (upd (upd F i (nI v_1)) (i + 1) (nI v_3)))]) := hV
          refine W.eq (g2 := F0 mi 45 ls []) rfl ?_
          refine lv_aload_n hx hb d_Mo_hours_45 rfl (lv_at hl 0 rfl) ?_
          refine u_get hx hb hts inMo hown hK hV hn 0 rfl rfl 9 (by decide) w_fl_Mo_29 rfl rfl d_Mo_hours_46 ?_
          refine lv_iload_n hx hb d_Mo_hours_49 rfl (lv_at hl 1 rfl) ?_
          refine lv_iconst (v := 2) hx hb d_Mo_hours_50 (by decide) ?_
          refine e_iadd (v := nI (i + 2)) hx hb d_Mo_hours_51 (nI_add i 2) ?_
          refine lv_aload_n hx hb d_Mo_hours_52 rfl (lv_at hl 0 rfl) ?_
          refine lv_iconst (v := 1) hx hb d_Mo_hours_53 (by decide) ?_
          refine lv_bipush (v := 99) hx hb d_Mo_hours_54 (by decide) ?_
          refine v_call (va_runV (As := [.int 1, .int 99]) (rest := [.int (nI (i + 2)), .ref np]) ⟨hx, hb, hml, hown, hts⟩ (c_Mo_number l G lo _ _ m mt u0 u3 u4 u5 u6 u7 u8 (.ref np) u10 u11 u12 u15 u16 u17 u18 u19 u20 g t n q_4 (nd_sub hn [0, 1] (by decide) rfl) hT h4 (by omega) 1 99 (by omega) (by omega)) (kwV 2 hts w_co_Mo_number rfl rfl w_it_Mo w_ml_Mo_82 w_im_Mo_number w_se_Mo__Mo_number (by decide +kernel) ⟨(Nat.le_of_ble_eq_true rfl), (Nat.le_of_ble_eq_true rfl)⟩) (u_preV hK hV hn [0, 1] rfl hz 0 rfl rfl) rfl rfl hl.1 rfl (lv_room (Nat.le_of_ble_eq_true rfl)) d_Mo_hours_56 ⟨(Nat.le_of_ble_eq_true rfl), (Nat.le_of_ble_eq_true rfl)⟩) hV (fun r9 V9 H locs hp hV hle => ?_)
          obtain ⟨rfl, rfl, hz⟩ := hp
          replace hV := u_back hV hn [0, 1] rfl
          have hV : vS G.1 cls lo s H locs (vU V [(m, eO 8 [u0, .int (nI n), .ref mt, u3, u4, u5, u6, u7, u8, .ref np, u10, u11, u12, .int (nI ((dgs t n 4 0 0 (sk t n q_4)).2.2)), .int (wI (num t n 1 99 q_4)), u15, u16, u17, u18, u19, u20]), (mt, eI (gI G) 400 g), (np, eI (gI G) 1769 (upd (upd F i (nI v_1)) (i + 1) (nI v_3)))]) := hV
          obtain ⟨x_5, hx_5⟩ : ∃ z, num t n 1 99 q_4 = z := ⟨_, rfl⟩
          rw [hx_5] at hV
          rcases x_5 with e_5 | ⟨v_5, q_5⟩
          · obtain ⟨ax_5, hax_5⟩ : ∃ z, (dgs t n 4 0 0 (sk t n q_4)).2.2 = z := ⟨_, rfl⟩
            rw [hax_5] at hV
            have be_5 := num_er2 hx_5
            have bax_5 := dgs_le2 hax_5
            have hV : vS G.1 cls lo s H locs (vU V [(m, eO 8 [u0, .int (nI n), .ref mt, u3, u4, u5, u6, u7, u8, .ref np, u10, u11, u12, .int (nI ax_5), .int (nI e_5), u15, u16, u17, u18, u19, u20]), (mt, eI (gI G) 400 g), (np, eI (gI G) 1769 (upd (upd F i (nI v_1)) (i + 1) (nI v_3)))]) := hV
            refine W.eq (g2 := F0 mi 59 ls [.int 1, .int (nI (i + 2)), .ref np]) (by rw [hx_5]; rfl) ?_
            refine u_iastN hx hb hK hV hn 2 rfl (by omega) (by decide) d_Mo_hours_59 (fun H locs hV hz9 => ?_)
            have hV : vS G.1 cls lo s H locs (vU V [(m, eO 8 [u0, .int (nI n), .ref mt, u3, u4, u5, u6, u7, u8, .ref np, u10, u11, u12, .int (nI ax_5), .int (nI e_5), u15, u16, u17, u18, u19, u20]), (mt, eI (gI G) 400 g), (np, eI (gI G) 1769 (upd (upd (upd F i (nI v_1)) (i + 1) (nI v_3)) (i + 2) 1))]) := hV
            replace hz := hz9.trans hz
            refine lv_aload_n hx hb d_Mo_hours_60 rfl (lv_at hl 0 rfl) ?_
            refine lv_bipush (v := 93) hx hb d_Mo_hours_61 (by decide) ?_
            refine v_call (va_runV (As := [.int 93]) (rest := []) ⟨hx, hb, hml, hown, hts⟩ (c_Mo_takeB l G lo _ _ m u0 (.int (nI n)) (.ref mt) u3 u4 u5 u6 u7 u8 (.ref np) u10 u11 u12 (.int (nI ax_5)) u15 u16 u17 u18 u19 u20 (by simp) e_5 (by omega) 93) (kwV 1 hts w_co_Mo_take rfl rfl w_it_Mo w_ml_Mo_86 w_im_Mo_take w_se_Mo__Mo_take (by decide +kernel) ⟨(Nat.le_of_ble_eq_true rfl), (Nat.le_of_ble_eq_true rfl)⟩) (u_preV hK hV hn [0] rfl hz 0 rfl rfl) rfl rfl hl.1 rfl (lv_room (Nat.le_of_ble_eq_true rfl)) d_Mo_hours_63 ⟨(Nat.le_of_ble_eq_true rfl), (Nat.le_of_ble_eq_true rfl)⟩) hV (fun r9 V9 H locs hp hV hle => ?_)
            obtain ⟨rfl, rfl, hz⟩ := hp
            replace hV := uu_same hV hn [0] rfl
            have hV : vS G.1 cls lo s H locs (vU V [(m, eO 8 [u0, .int (nI n), .ref mt, u3, u4, u5, u6, u7, u8, .ref np, u10, u11, u12, .int (nI ax_5), .int (nI e_5), u15, u16, u17, u18, u19, u20]), (mt, eI (gI G) 400 g), (np, eI (gI G) 1769 (upd (upd (upd F i (nI v_1)) (i + 1) (nI v_3)) (i + 2) 1))]) := hV
            refine lv_aload_n hx hb d_Mo_hours_66 rfl (lv_at hl 0 rfl) ?_
            refine u_get hx hb hts inMo hown hK hV hn 0 rfl rfl 9 (by decide) w_fl_Mo_29 rfl rfl d_Mo_hours_67 ?_
            refine lv_iload_n hx hb d_Mo_hours_70 rfl (lv_at hl 2 rfl) ?_
            refine lv_bipush (v := 7) hx hb d_Mo_hours_71 (by decide) ?_
            refine e_iadd (v := nI (p + 7)) hx hb d_Mo_hours_73 (nI_add p 7) ?_
            refine lv_dup2_11 hx hb d_Mo_hours_74 rfl rfl ?_
            refine u_ialdN hx hb hK hV hn 2 rfl (by omega) (by decide) d_Mo_hours_75 ?_
            refine lv_iconst (v := 1) hx hb d_Mo_hours_76 (by decide) ?_
            refine e_iadd (v := ((upd (upd (upd F i (nI v_1)) (i + 1) (nI v_3)) (i + 2) 1) (p + 7)) + 1) hx hb d_Mo_hours_77 (rfl) ?_
            refine u_iastN hx hb hK hV hn 2 rfl (by omega) (by decide) d_Mo_hours_78 (fun H locs hV hz9 => ?_)
            have hV : vS G.1 cls lo s H locs (vU V [(m, eO 8 [u0, .int (nI n), .ref mt, u3, u4, u5, u6, u7, u8, .ref np, u10, u11, u12, .int (nI ax_5), .int (nI e_5), u15, u16, u17, u18, u19, u20]), (mt, eI (gI G) 400 g), (np, eI (gI G) 1769 (upd (upd (upd (upd F i (nI v_1)) (i + 1) (nI v_3)) (i + 2) 1) (p + 7) (((upd (upd (upd F i (nI v_1)) (i + 1) (nI v_3)) (i + 2) 1) (p + 7)) + 1)))]) := hV
            replace hz := hz9.trans hz
            have hX : hourR t n q = .inl e_5 := by simp only [semi, hourR, hx_1, hx_2, hx_3, hx_4, hx_5, sbd_l, sbd_r]
            exact W.vret hx hb hr (v_end hV ⟨rfl, ⟨_, _, by rw [hX]; rfl, fun z hz9 => by rw [hX] at hz9; cases hz9⟩, hz⟩) hV.2.1.2.2 d_Mo_hours_79
          · rw [num_at hx_5] at hV
            obtain ⟨lv_5, uv_5, gq_5, bq_5⟩ := num_ok2 hx_5
            have hV : vS G.1 cls lo s H locs (vU V [(m, eO 8 [u0, .int (nI n), .ref mt, u3, u4, u5, u6, u7, u8, .ref np, u10, u11, u12, .int (nI q_5), .int ((-1)), u15, u16, u17, u18, u19, u20]), (mt, eI (gI G) 400 g), (np, eI (gI G) 1769 (upd (upd F i (nI v_1)) (i + 1) (nI v_3)))]) := hV
            refine W.eq (g2 := F0 mi 59 ls [.int (nI v_5), .int (nI (i + 2)), .ref np]) (by rw [hx_5]; rfl) ?_
            refine u_iastN hx hb hK hV hn 2 rfl (by omega) (by decide) d_Mo_hours_59 (fun H locs hV hz9 => ?_)
            have hV : vS G.1 cls lo s H locs (vU V [(m, eO 8 [u0, .int (nI n), .ref mt, u3, u4, u5, u6, u7, u8, .ref np, u10, u11, u12, .int (nI q_5), .int ((-1)), u15, u16, u17, u18, u19, u20]), (mt, eI (gI G) 400 g), (np, eI (gI G) 1769 (upd (upd (upd F i (nI v_1)) (i + 1) (nI v_3)) (i + 2) (nI v_5)))]) := hV
            replace hz := hz9.trans hz
            refine lv_aload_n hx hb d_Mo_hours_60 rfl (lv_at hl 0 rfl) ?_
            refine lv_bipush (v := 93) hx hb d_Mo_hours_61 (by decide) ?_
            refine v_call (va_runV (As := [.int 93]) (rest := []) ⟨hx, hb, hml, hown, hts⟩ (c_Mo_take l G lo _ _ m mt u0 u3 u4 u5 u6 u7 u8 (.ref np) u10 u11 u12 u15 u16 u17 u18 u19 u20 g t n q_5 (nd_sub hn [0, 1] (by decide) rfl) hT h4 (by omega) 93 (by decide)) (kwV 1 hts w_co_Mo_take rfl rfl w_it_Mo w_ml_Mo_86 w_im_Mo_take w_se_Mo__Mo_take (by decide +kernel) ⟨(Nat.le_of_ble_eq_true rfl), (Nat.le_of_ble_eq_true rfl)⟩) (u_preV hK hV hn [0, 1] rfl hz 0 rfl rfl) rfl rfl hl.1 rfl (lv_room (Nat.le_of_ble_eq_true rfl)) d_Mo_hours_63 ⟨(Nat.le_of_ble_eq_true rfl), (Nat.le_of_ble_eq_true rfl)⟩) hV (fun r9 V9 H locs hp hV hle => ?_)
            obtain ⟨rfl, rfl, hz⟩ := hp
            replace hV := u_back hV hn [0, 1] rfl
            have hV : vS G.1 cls lo s H locs (vU V [(m, eO 8 [u0, .int (nI n), .ref mt, u3, u4, u5, u6, u7, u8, .ref np, u10, u11, u12, .int (nI (rQ (tk t n 93 q_5))), .int (wI (tk t n 93 q_5)), u15, u16, u17, u18, u19, u20]), (mt, eI (gI G) 400 g), (np, eI (gI G) 1769 (upd (upd (upd F i (nI v_1)) (i + 1) (nI v_3)) (i + 2) (nI v_5)))]) := hV
            obtain ⟨x_6, hx_6⟩ : ∃ z, tk t n 93 q_5 = z := ⟨_, rfl⟩
            rw [hx_6] at hV
            rcases x_6 with e_6 | q_6
            · have be_6 := tk_er2 hx_6
              have hV : vS G.1 cls lo s H locs (vU V [(m, eO 8 [u0, .int (nI n), .ref mt, u3, u4, u5, u6, u7, u8, .ref np, u10, u11, u12, .int (nI e_6), .int (nI e_6), u15, u16, u17, u18, u19, u20]), (mt, eI (gI G) 400 g), (np, eI (gI G) 1769 (upd (upd (upd F i (nI v_1)) (i + 1) (nI v_3)) (i + 2) (nI v_5)))]) := hV
              refine W.eq (g2 := F0 mi 66 ls []) rfl ?_
              refine lv_aload_n hx hb d_Mo_hours_66 rfl (lv_at hl 0 rfl) ?_
              refine u_get hx hb hts inMo hown hK hV hn 0 rfl rfl 9 (by decide) w_fl_Mo_29 rfl rfl d_Mo_hours_67 ?_
              refine lv_iload_n hx hb d_Mo_hours_70 rfl (lv_at hl 2 rfl) ?_
              refine lv_bipush (v := 7) hx hb d_Mo_hours_71 (by decide) ?_
              refine e_iadd (v := nI (p + 7)) hx hb d_Mo_hours_73 (nI_add p 7) ?_
              refine lv_dup2_11 hx hb d_Mo_hours_74 rfl rfl ?_
              refine u_ialdN hx hb hK hV hn 2 rfl (by omega) (by decide) d_Mo_hours_75 ?_
              refine lv_iconst (v := 1) hx hb d_Mo_hours_76 (by decide) ?_
              refine e_iadd (v := ((upd (upd (upd F i (nI v_1)) (i + 1) (nI v_3)) (i + 2) (nI v_5)) (p + 7)) + 1) hx hb d_Mo_hours_77 (rfl) ?_
              refine u_iastN hx hb hK hV hn 2 rfl (by omega) (by decide) d_Mo_hours_78 (fun H locs hV hz9 => ?_)
              have hV : vS G.1 cls lo s H locs (vU V [(m, eO 8 [u0, .int (nI n), .ref mt, u3, u4, u5, u6, u7, u8, .ref np, u10, u11, u12, .int (nI e_6), .int (nI e_6), u15, u16, u17, u18, u19, u20]), (mt, eI (gI G) 400 g), (np, eI (gI G) 1769 (upd (upd (upd (upd F i (nI v_1)) (i + 1) (nI v_3)) (i + 2) (nI v_5)) (p + 7) (((upd (upd (upd F i (nI v_1)) (i + 1) (nI v_3)) (i + 2) (nI v_5)) (p + 7)) + 1)))]) := hV
              replace hz := hz9.trans hz
              have hX : hourR t n q = .inl e_6 := by simp only [semi, hourR, hx_1, hx_2, hx_3, hx_4, hx_5, hx_6, sbd_l, sbd_r]
              exact W.vret hx hb hr (v_end hV ⟨rfl, ⟨_, _, by rw [hX]; rfl, fun z hz9 => by rw [hX] at hz9; cases hz9⟩, hz⟩) hV.2.1.2.2 d_Mo_hours_79
            · obtain ⟨gq_6, bq_6⟩ := tk_ok hx_6
              have hV : vS G.1 cls lo s H locs (vU V [(m, eO 8 [u0, .int (nI n), .ref mt, u3, u4, u5, u6, u7, u8, .ref np, u10, u11, u12, .int (nI q_6), .int ((-1)), u15, u16, u17, u18, u19, u20]), (mt, eI (gI G) 400 g), (np, eI (gI G) 1769 (upd (upd (upd F i (nI v_1)) (i + 1) (nI v_3)) (i + 2) (nI v_5)))]) := hV
              refine W.eq (g2 := F0 mi 66 ls []) rfl ?_
              refine lv_aload_n hx hb d_Mo_hours_66 rfl (lv_at hl 0 rfl) ?_
              refine u_get hx hb hts inMo hown hK hV hn 0 rfl rfl 9 (by decide) w_fl_Mo_29 rfl rfl d_Mo_hours_67 ?_
              refine lv_iload_n hx hb d_Mo_hours_70 rfl (lv_at hl 2 rfl) ?_
              refine lv_bipush (v := 7) hx hb d_Mo_hours_71 (by decide) ?_
              refine e_iadd (v := nI (p + 7)) hx hb d_Mo_hours_73 (nI_add p 7) ?_
              refine lv_dup2_11 hx hb d_Mo_hours_74 rfl rfl ?_
              refine u_ialdN hx hb hK hV hn 2 rfl (by omega) (by decide) d_Mo_hours_75 ?_
              rw [upd_ne _ _ (by omega), upd_ne _ _ (by omega), upd_ne _ _ (by omega), hc]
              refine lv_iconst (v := 1) hx hb d_Mo_hours_76 (by decide) ?_
              refine e_iadd (v := nI (c + 1)) hx hb d_Mo_hours_77 (nI_add c 1) ?_
              refine u_iastN hx hb hK hV hn 2 rfl (by omega) (by decide) d_Mo_hours_78 (fun H locs hV hz9 => ?_)
              have hV : vS G.1 cls lo s H locs (vU V [(m, eO 8 [u0, .int (nI n), .ref mt, u3, u4, u5, u6, u7, u8, .ref np, u10, u11, u12, .int (nI q_6), .int ((-1)), u15, u16, u17, u18, u19, u20]), (mt, eI (gI G) 400 g), (np, eI (gI G) 1769 (upd (upd (upd (upd F i (nI v_1)) (i + 1) (nI v_3)) (i + 2) (nI v_5)) (p + 7) (nI (c + 1))))]) := hV
              replace hz := hz9.trans hz
              have hX : hourR t n q = .inr ((v_1, v_3, v_5), q_6) := by simp only [semi, hourR, hx_1, hx_2, hx_3, hx_4, hx_5, hx_6, sbd_l, sbd_r]
              exact W.vret hx hb hr (v_end hV ⟨rfl, ⟨_, _, by rw [hX]; rfl, fun z hz9 => by rw [hX] at hz9; cases hz9; exact ⟨rfl, rfl⟩⟩, hz⟩) hV.2.1.2.2 d_Mo_hours_79

set_option maxHeartbeats 4000000 in
set_option maxRecDepth 100000 in
/-- nameRow -/
theorem c_Mo_nameRow (l : Launch) (G : Gx) (lo : Nat) (V : Vw) (sz : Nat) (m mt np : Nat) (u0 u3 u4 u5 u6 u7 u8 u10 u11 u12 u15 u16 u17 u18 u19 u20 : Value) (g F : Nat → Int32) (t : Nat → Nat) (n q p : Nat) (hn : [m, mt, np].Nodup) (hT : mtOk g t n) (h4 : n ≤ 400) (hq4 : q ≤ 500) (hp : p ≤ 1740) : Met l y_Mo_nameRow ws_Mo_nameRow ({ frames := 3, cells := 0, slots := 0, locals := 80 } : Room) (vPre G lo [.ref m, .int (nI p)] (vU V [(m, eO 8 [u0, .int (nI n), .ref mt, u3, u4, u5, u6, u7, u8, .ref np, u10, u11, u12, .int (nI q), .int ((-1)), u15, u16, u17, u18, u19, u20]), (mt, eI (gI G) 400 g), (np, eI (gI G) 1769 F)]) sz) (vPost G lo (fun r V' k => r = none ∧ (∃ (a9 : Nat) (F2 : Nat → Int32), V' = vU V [(m, eO 8 [u0, .int (nI n), .ref mt, u3, u4, u5, u6, u7, u8, .ref np, u10, u11, u12, .int (nI a9), .int (wI (namX t n (letR t n 8 [] q))), u15, u16, u17, u18, u19, u20]), (mt, eI (gI G) 400 g), (np, eI (gI G) 1769 F2)] ∧ ∀ wd a r9, namX t n (letR t n 8 [] q) = .inr (some (wd, a), r9) → a9 = r9 ∧ F2 = upd (upd (letW F p wd) (p + 20) (nI wd.length)) (p + 19) (nI a)) ∧ k = sz)) 0 0 (vL lo) := by
  refine vMet (R := RMo) (by decide) rfl (Nat.le_of_ble_eq_true rfl) ?_
  intro pg ev s mi args below meth cd hx hb hr hml hlk hnm hts hown hK hz hV ls hl
  have hl : lv_has ls 3 [(0, .ref m), (1, .int (nI p))] := hl
  have hV0 := hV
  obtain ⟨H, hH⟩ : ∃ H, H = s.heap := ⟨_, rfl⟩
  obtain ⟨locs, hlocs⟩ : ∃ locs : List Loc, locs = [] := ⟨_, rfl⟩
  rw [← hH, ← hlocs]
  rw [← hH] at hz
  replace hV : vS G.1 cls lo s H locs (vU V [(m, eO 8 [u0, .int (nI n), .ref mt, u3, u4, u5, u6, u7, u8, .ref np, u10, u11, u12, .int (nI q), .int ((-1)), u15, u16, u17, u18, u19, u20]), (mt, eI (gI G) 400 g), (np, eI (gI G) 1769 F)]) := by rw [hH, hlocs]; exact hV
  clear hH hlocs hV0
  refine lv_iconst (v := 0) hx hb d_Mo_nameRow_0 (by decide) ?_
  refine lv_istore_n (lv' := [(2, .int 0), (0, .ref m), (1, .int (nI p))]) hx hb d_Mo_nameRow_1 rfl hl (by decide) rfl (fun ls hl => ?_)
  have loop : ∀ (k : Nat) (wd : List Nat) (r : Nat), 8 - wd.length < k → (wd.length ≤ 8) → (r ≤ 510) → (letR t n 8 [] q = letR t n (8 - wd.length) wd r) → ∀ (H : Heap) (locs : List Loc) (ls : Array Slot), H.size = sz → vS G.1 cls lo s H locs (vU V [(m, eO 8 [u0, .int (nI n), .ref mt, u3, u4, u5, u6, u7, u8, .ref np, u10, u11, u12, .int (nI r), .int ((-1)), u15, u16, u17, u18, u19, u20]), (mt, eI (gI G) 400 g), (np, eI (gI G) 1769 (letW F p wd))]) → lv_has ls 3 [(0, .ref m), (1, .int (nI p)), (2, .int (nI wd.length))] → W pg l ev ({ frames := 3, cells := 0, slots := 0, locals := 80 } : Room) s mi args below meth cd H locs 0 0 (MQ below (vPost G lo (fun r V' k => r = none ∧ (∃ (a9 : Nat) (F2 : Nat → Int32), V' = vU V [(m, eO 8 [u0, .int (nI n), .ref mt, u3, u4, u5, u6, u7, u8, .ref np, u10, u11, u12, .int (nI a9), .int (wI (namX t n (letR t n 8 [] q))), u15, u16, u17, u18, u19, u20]), (mt, eI (gI G) 400 g), (np, eI (gI G) 1769 F2)] ∧ ∀ wd a r9, namX t n (letR t n 8 [] q) = .inr (some (wd, a), r9) → a9 = r9 ∧ F2 = upd (upd (letW F p wd) (p + 20) (nI wd.length)) (p + 19) (nI a)) ∧ k = sz)) args s 0 0 (vL lo)) (F0 mi 2 ls []) := by
    intro k
    induction k with
    | zero => intro wd r hk; exact absurd hk (by omega)
    | succ k ih =>
      intro wd r hk hl8 hr5 hls H locs ls hz hV hl
      refine lv_aload_n hx hb d_Mo_nameRow_2 rfl (lv_at hl 0 rfl) ?_
      refine u_get hx hb hts inMo hown hK hV hn 0 rfl rfl 14 (by decide) w_fl_Mo_68 rfl rfl d_Mo_nameRow_3 ?_
      refine lv_if_ge (tgt := 85) hx hb d_Mo_nameRow_6 (by decide) (fun c_1 => absurd c_1 (by decide)) (fun _ => ?_)
      refine lv_aload_n hx hb d_Mo_nameRow_9 rfl (lv_at hl 0 rfl) ?_
      refine v_call (va_runV (As := []) (rest := []) ⟨hx, hb, hml, hown, hts⟩ (c_Mo_here l G lo _ _ m mt u0 u3 u4 u5 u6 u7 u8 (.ref np) u10 u11 u12 (.int ((-1))) u15 u16 u17 u18 u19 u20 g t n r (nd_sub hn [0, 1] (by decide) rfl) hT h4 (by omega)) (kwV 0 hts w_co_Mo_here rfl rfl w_it_Mo w_ml_Mo_64 w_im_Mo_here w_se_Mo__Mo_here (by decide +kernel) ⟨(Nat.le_of_ble_eq_true rfl), (Nat.le_of_ble_eq_true rfl)⟩) (u_preV hK hV hn [0, 1] rfl hz 0 rfl rfl) rfl rfl hl.1 rfl (lv_room (Nat.le_of_ble_eq_true rfl)) d_Mo_nameRow_10 ⟨(Nat.le_of_ble_eq_true rfl), (Nat.le_of_ble_eq_true rfl)⟩) hV (fun r9 V9 H locs hp hV hle => ?_)
      obtain ⟨rfl, rfl, hz⟩ := hp
      replace hV := uu_same hV hn [0, 1] rfl
      rcases Nat.lt_or_ge r n with l_2 | l_2
      · have kl_2 := (hT r l_2).1
        have hV : vS G.1 cls lo s H locs (vU V [(m, eO 8 [u0, .int (nI n), .ref mt, u3, u4, u5, u6, u7, u8, .ref np, u10, u11, u12, .int (nI r), .int ((-1)), u15, u16, u17, u18, u19, u20]), (mt, eI (gI G) 400 g), (np, eI (gI G) 1769 (letW F p wd))]) := hV
        refine W.eq (g2 := F0 mi 13 ls [.int (nI (t r))]) (by rw [rK_in l_2]; rfl) ?_
        refine lv_bipush (v := 34) hx hb d_Mo_nameRow_13 (by decide) ?_
        refine lv_icmp_eq (tgt := 85) hx hb d_Mo_nameRow_15 (by decide) (fun c_3 => ?_) (fun c_3 => ?_)
        · replace c_3 : t r = 34 := (nI_eq (a := t r) (b := 34) (by omega) (by omega)).mp c_3
          have hL : isL t n r = false := by simp [isL]; omega
          have hS : letR t n 8 [] q = (wd, r) := by rw [hls]; exact letR_stop (Or.inr hL)
          refine lv_iload_n hx hb d_Mo_nameRow_85 rfl (lv_at hl 2 rfl) ?_
          refine lv_if_ne (tgt := 97) hx hb d_Mo_nameRow_86 (by decide) (fun c_4 => ?_) (fun c_4 => ?_)
          · replace c_4 : ¬ wd.length = 0 := fun z9 => c_4 ((nI_eq (a := wd.length) (b := 0) (by omega) (by omega)).mpr z9)
            have hN := namX_ok (t := t) (n := n) (r := r) (ls := wd) (by rintro (z | z); rw [z] at c_4; exact c_4 rfl; omega)
            refine lv_aload_n hx hb d_Mo_nameRow_97 rfl (lv_at hl 0 rfl) ?_
            refine lv_dup hx hb d_Mo_nameRow_98 rfl ?_
            refine u_get hx hb hts inMo hown hK hV hn 0 rfl rfl 13 (by decide) w_fl_Mo_61 rfl rfl d_Mo_nameRow_99 ?_
            refine lv_iconst (v := 1) hx hb d_Mo_nameRow_102 (by decide) ?_
            refine e_iadd (v := nI (r + 1)) hx hb d_Mo_nameRow_103 (nI_add r 1) ?_
            refine u_put hx hb hts inMo tyMo tyMo_ok nmMo hown hK hV hn 0 rfl rfl 13 (by decide) w_fl_Mo_61 rfl rfl rfl rfl (Nat.le_of_ble_eq_true rfl) d_Mo_nameRow_104 (fun H locs hV hz9 => ?_)
            have hV : vS G.1 cls lo s H locs (vU V [(m, eO 8 [u0, .int (nI n), .ref mt, u3, u4, u5, u6, u7, u8, .ref np, u10, u11, u12, .int (nI (r + 1)), .int ((-1)), u15, u16, u17, u18, u19, u20]), (mt, eI (gI G) 400 g), (np, eI (gI G) 1769 (letW F p wd))]) := hV
            replace hz := hz9.trans hz
            refine lv_aload_n hx hb d_Mo_nameRow_107 rfl (lv_at hl 0 rfl) ?_
            refine u_get hx hb hts inMo hown hK hV hn 0 rfl rfl 9 (by decide) w_fl_Mo_29 rfl rfl d_Mo_nameRow_108 ?_
            refine lv_iload_n hx hb d_Mo_nameRow_111 rfl (lv_at hl 1 rfl) ?_
            refine lv_bipush (v := 20) hx hb d_Mo_nameRow_112 (by decide) ?_
            refine e_iadd (v := nI (p + 20)) hx hb d_Mo_nameRow_114 (nI_add p 20) ?_
            refine lv_iload_n hx hb d_Mo_nameRow_115 rfl (lv_at hl 2 rfl) ?_
            refine u_iastN hx hb hK hV hn 2 rfl (by omega) (by decide) d_Mo_nameRow_116 (fun H locs hV hz9 => ?_)
            have hV : vS G.1 cls lo s H locs (vU V [(m, eO 8 [u0, .int (nI n), .ref mt, u3, u4, u5, u6, u7, u8, .ref np, u10, u11, u12, .int (nI (r + 1)), .int ((-1)), u15, u16, u17, u18, u19, u20]), (mt, eI (gI G) 400 g), (np, eI (gI G) 1769 (upd (letW F p wd) (p + 20) (nI wd.length)))]) := hV
            replace hz := hz9.trans hz
            refine lv_aload_n hx hb d_Mo_nameRow_117 rfl (lv_at hl 0 rfl) ?_
            refine lv_bipush (v := 35) hx hb d_Mo_nameRow_118 (by decide) ?_
            refine v_call (va_runV (As := [.int 35]) (rest := []) ⟨hx, hb, hml, hown, hts⟩ (c_Mo_take l G lo _ _ m mt u0 u3 u4 u5 u6 u7 u8 (.ref np) u10 u11 u12 u15 u16 u17 u18 u19 u20 g t n (r + 1) (nd_sub hn [0, 1] (by decide) rfl) hT h4 (by omega) 35 (by decide)) (kwV 1 hts w_co_Mo_take rfl rfl w_it_Mo w_ml_Mo_86 w_im_Mo_take w_se_Mo__Mo_take (by decide +kernel) ⟨(Nat.le_of_ble_eq_true rfl), (Nat.le_of_ble_eq_true rfl)⟩) (u_preV hK hV hn [0, 1] rfl hz 0 rfl rfl) rfl rfl hl.1 rfl (lv_room (Nat.le_of_ble_eq_true rfl)) d_Mo_nameRow_120 ⟨(Nat.le_of_ble_eq_true rfl), (Nat.le_of_ble_eq_true rfl)⟩) hV (fun r9 V9 H locs hp hV hle => ?_)
            obtain ⟨rfl, rfl, hz⟩ := hp
            replace hV := u_back hV hn [0, 1] rfl
            have hV : vS G.1 cls lo s H locs (vU V [(m, eO 8 [u0, .int (nI n), .ref mt, u3, u4, u5, u6, u7, u8, .ref np, u10, u11, u12, .int (nI (rQ (tk t n 35 (r + 1)))), .int (wI (tk t n 35 (r + 1))), u15, u16, u17, u18, u19, u20]), (mt, eI (gI G) 400 g), (np, eI (gI G) 1769 (upd (letW F p wd) (p + 20) (nI wd.length)))]) := hV
            obtain ⟨x_5, hx_5⟩ : ∃ z, tk t n 35 (r + 1) = z := ⟨_, rfl⟩
            rw [hx_5] at hV
            rcases x_5 with e_5 | q_5
            · have be_5 := tk_er2 hx_5
              have hV : vS G.1 cls lo s H locs (vU V [(m, eO 8 [u0, .int (nI n), .ref mt, u3, u4, u5, u6, u7, u8, .ref np, u10, u11, u12, .int (nI e_5), .int (nI e_5), u15, u16, u17, u18, u19, u20]), (mt, eI (gI G) 400 g), (np, eI (gI G) 1769 (upd (letW F p wd) (p + 20) (nI wd.length)))]) := hV
              refine W.eq (g2 := F0 mi 123 ls []) rfl ?_
              refine lv_aload_n hx hb d_Mo_nameRow_123 rfl (lv_at hl 0 rfl) ?_
              refine u_get hx hb hts inMo hown hK hV hn 0 rfl rfl 9 (by decide) w_fl_Mo_29 rfl rfl d_Mo_nameRow_124 ?_
              refine lv_iload_n hx hb d_Mo_nameRow_127 rfl (lv_at hl 1 rfl) ?_
              refine lv_bipush (v := 19) hx hb d_Mo_nameRow_128 (by decide) ?_
              refine e_iadd (v := nI (p + 19)) hx hb d_Mo_nameRow_130 (nI_add p 19) ?_
              refine lv_aload_n hx hb d_Mo_nameRow_131 rfl (lv_at hl 0 rfl) ?_
              refine lv_iconst (v := 0) hx hb d_Mo_nameRow_132 (by decide) ?_
              refine lv_bipush (v := 9) hx hb d_Mo_nameRow_133 (by decide) ?_
              refine v_call (va_runV (As := [.int 0, .int 9]) (rest := [.int (nI (p + 19)), .ref np]) ⟨hx, hb, hml, hown, hts⟩ (c_Mo_numberB l G lo _ _ m u0 (.int (nI n)) (.ref mt) u3 u4 u5 u6 u7 u8 (.ref np) u10 u11 u12 (.int (nI e_5)) u15 u16 u17 u18 u19 u20 (by simp) e_5 (by omega) 0 9) (kwV 2 hts w_co_Mo_number rfl rfl w_it_Mo w_ml_Mo_82 w_im_Mo_number w_se_Mo__Mo_number (by decide +kernel) ⟨(Nat.le_of_ble_eq_true rfl), (Nat.le_of_ble_eq_true rfl)⟩) (u_preV hK hV hn [0] rfl hz 0 rfl rfl) rfl rfl hl.1 rfl (lv_room (Nat.le_of_ble_eq_true rfl)) d_Mo_nameRow_135 ⟨(Nat.le_of_ble_eq_true rfl), (Nat.le_of_ble_eq_true rfl)⟩) hV (fun r9 V9 H locs hp hV hle => ?_)
              obtain ⟨rfl, rfl, hz⟩ := hp
              replace hV := uu_same hV hn [0] rfl
              have hV : vS G.1 cls lo s H locs (vU V [(m, eO 8 [u0, .int (nI n), .ref mt, u3, u4, u5, u6, u7, u8, .ref np, u10, u11, u12, .int (nI e_5), .int (nI e_5), u15, u16, u17, u18, u19, u20]), (mt, eI (gI G) 400 g), (np, eI (gI G) 1769 (upd (letW F p wd) (p + 20) (nI wd.length)))]) := hV
              refine W.eq (g2 := F0 mi 138 ls [.int 0, .int (nI (p + 19)), .ref np]) rfl ?_
              refine u_iastN hx hb hK hV hn 2 rfl (by omega) (by decide) d_Mo_nameRow_138 (fun H locs hV hz9 => ?_)
              have hV : vS G.1 cls lo s H locs (vU V [(m, eO 8 [u0, .int (nI n), .ref mt, u3, u4, u5, u6, u7, u8, .ref np, u10, u11, u12, .int (nI e_5), .int (nI e_5), u15, u16, u17, u18, u19, u20]), (mt, eI (gI G) 400 g), (np, eI (gI G) 1769 (upd (upd (letW F p wd) (p + 20) (nI wd.length)) (p + 19) 0))]) := hV
              replace hz := hz9.trans hz
              have hX : namX t n (letR t n 8 [] q) = .inl e_5 := by rw [hS, hN]; simp only [hx_5, sbd_l, sbd_r]
              exact W.vret hx hb hr (v_end hV ⟨rfl, ⟨_, _, by rw [hX]; rfl, fun wd9 a9 r9 hz9 => by rw [hX] at hz9; cases hz9⟩, hz⟩) hV.2.1.2.2 d_Mo_nameRow_139
            · obtain ⟨gq_5, bq_5⟩ := tk_ok hx_5
              have hV : vS G.1 cls lo s H locs (vU V [(m, eO 8 [u0, .int (nI n), .ref mt, u3, u4, u5, u6, u7, u8, .ref np, u10, u11, u12, .int (nI q_5), .int ((-1)), u15, u16, u17, u18, u19, u20]), (mt, eI (gI G) 400 g), (np, eI (gI G) 1769 (upd (letW F p wd) (p + 20) (nI wd.length)))]) := hV
              refine W.eq (g2 := F0 mi 123 ls []) rfl ?_
              refine lv_aload_n hx hb d_Mo_nameRow_123 rfl (lv_at hl 0 rfl) ?_
              refine u_get hx hb hts inMo hown hK hV hn 0 rfl rfl 9 (by decide) w_fl_Mo_29 rfl rfl d_Mo_nameRow_124 ?_
              refine lv_iload_n hx hb d_Mo_nameRow_127 rfl (lv_at hl 1 rfl) ?_
              refine lv_bipush (v := 19) hx hb d_Mo_nameRow_128 (by decide) ?_
              refine e_iadd (v := nI (p + 19)) hx hb d_Mo_nameRow_130 (nI_add p 19) ?_
              refine lv_aload_n hx hb d_Mo_nameRow_131 rfl (lv_at hl 0 rfl) ?_
              refine lv_iconst (v := 0) hx hb d_Mo_nameRow_132 (by decide) ?_
              refine lv_bipush (v := 9) hx hb d_Mo_nameRow_133 (by decide) ?_
              refine v_call (va_runV (As := [.int 0, .int 9]) (rest := [.int (nI (p + 19)), .ref np]) ⟨hx, hb, hml, hown, hts⟩ (c_Mo_number l G lo _ _ m mt u0 u3 u4 u5 u6 u7 u8 (.ref np) u10 u11 u12 u15 u16 u17 u18 u19 u20 g t n q_5 (nd_sub hn [0, 1] (by decide) rfl) hT h4 (by omega) 0 9 (by omega) (by omega)) (kwV 2 hts w_co_Mo_number rfl rfl w_it_Mo w_ml_Mo_82 w_im_Mo_number w_se_Mo__Mo_number (by decide +kernel) ⟨(Nat.le_of_ble_eq_true rfl), (Nat.le_of_ble_eq_true rfl)⟩) (u_preV hK hV hn [0, 1] rfl hz 0 rfl rfl) rfl rfl hl.1 rfl (lv_room (Nat.le_of_ble_eq_true rfl)) d_Mo_nameRow_135 ⟨(Nat.le_of_ble_eq_true rfl), (Nat.le_of_ble_eq_true rfl)⟩) hV (fun r9 V9 H locs hp hV hle => ?_)
              obtain ⟨rfl, rfl, hz⟩ := hp
              replace hV := u_back hV hn [0, 1] rfl
              have hV : vS G.1 cls lo s H locs (vU V [(m, eO 8 [u0, .int (nI n), .ref mt, u3, u4, u5, u6, u7, u8, .ref np, u10, u11, u12, .int (nI ((dgs t n 4 0 0 (sk t n q_5)).2.2)), .int (wI (num t n 0 9 q_5)), u15, u16, u17, u18, u19, u20]), (mt, eI (gI G) 400 g), (np, eI (gI G) 1769 (upd (letW F p wd) (p + 20) (nI wd.length)))]) := hV
              obtain ⟨x_6, hx_6⟩ : ∃ z, num t n 0 9 q_5 = z := ⟨_, rfl⟩
              rw [hx_6] at hV
              rcases x_6 with e_6 | ⟨v_6, q_6⟩
              · obtain ⟨ax_6, hax_6⟩ : ∃ z, (dgs t n 4 0 0 (sk t n q_5)).2.2 = z := ⟨_, rfl⟩
                rw [hax_6] at hV
                have be_6 := num_er2 hx_6
                have bax_6 := dgs_le2 hax_6
                have hV : vS G.1 cls lo s H locs (vU V [(m, eO 8 [u0, .int (nI n), .ref mt, u3, u4, u5, u6, u7, u8, .ref np, u10, u11, u12, .int (nI ax_6), .int (nI e_6), u15, u16, u17, u18, u19, u20]), (mt, eI (gI G) 400 g), (np, eI (gI G) 1769 (upd (letW F p wd) (p + 20) (nI wd.length)))]) := hV
                refine W.eq (g2 := F0 mi 138 ls [.int 0, .int (nI (p + 19)), .ref np]) (by rw [hx_6]; rfl) ?_
                refine u_iastN hx hb hK hV hn 2 rfl (by omega) (by decide) d_Mo_nameRow_138 (fun H locs hV hz9 => ?_)
                have hV : vS G.1 cls lo s H locs (vU V [(m, eO 8 [u0, .int (nI n), .ref mt, u3, u4, u5, u6, u7, u8, .ref np, u10, u11, u12, .int (nI ax_6), .int (nI e_6), u15, u16, u17, u18, u19, u20]), (mt, eI (gI G) 400 g), (np, eI (gI G) 1769 (upd (upd (letW F p wd) (p + 20) (nI wd.length)) (p + 19) 0))]) := hV
                replace hz := hz9.trans hz
                have hX : namX t n (letR t n 8 [] q) = .inl e_6 := by rw [hS, hN]; simp only [hx_5, hx_6, sbd_l, sbd_r]
                exact W.vret hx hb hr (v_end hV ⟨rfl, ⟨_, _, by rw [hX]; rfl, fun wd9 a9 r9 hz9 => by rw [hX] at hz9; cases hz9⟩, hz⟩) hV.2.1.2.2 d_Mo_nameRow_139
              · rw [num_at hx_6] at hV
                obtain ⟨lv_6, uv_6, gq_6, bq_6⟩ := num_ok2 hx_6
                have hV : vS G.1 cls lo s H locs (vU V [(m, eO 8 [u0, .int (nI n), .ref mt, u3, u4, u5, u6, u7, u8, .ref np, u10, u11, u12, .int (nI q_6), .int ((-1)), u15, u16, u17, u18, u19, u20]), (mt, eI (gI G) 400 g), (np, eI (gI G) 1769 (upd (letW F p wd) (p + 20) (nI wd.length)))]) := hV
                refine W.eq (g2 := F0 mi 138 ls [.int (nI v_6), .int (nI (p + 19)), .ref np]) (by rw [hx_6]; rfl) ?_
                refine u_iastN hx hb hK hV hn 2 rfl (by omega) (by decide) d_Mo_nameRow_138 (fun H locs hV hz9 => ?_)
                have hV : vS G.1 cls lo s H locs (vU V [(m, eO 8 [u0, .int (nI n), .ref mt, u3, u4, u5, u6, u7, u8, .ref np, u10, u11, u12, .int (nI q_6), .int ((-1)), u15, u16, u17, u18, u19, u20]), (mt, eI (gI G) 400 g), (np, eI (gI G) 1769 (upd (upd (letW F p wd) (p + 20) (nI wd.length)) (p + 19) (nI v_6)))]) := hV
                replace hz := hz9.trans hz
                have hX : namX t n (letR t n 8 [] q) = .inr (some (wd, v_6), q_6) := by rw [hS, hN]; simp only [hx_5, hx_6, sbd_l, sbd_r]
                exact W.vret hx hb hr (v_end hV ⟨rfl, ⟨_, _, by rw [hX]; rfl, fun wd9 a9 r9 hz9 => by rw [hX] at hz9; cases hz9; exact ⟨rfl, rfl⟩⟩, hz⟩) hV.2.1.2.2 d_Mo_nameRow_139
          · replace c_4 : wd.length = 0 := (nI_eq (a := wd.length) (b := 0) (by omega) (by omega)).mp c_4
            have hX : namX t n (letR t n 8 [] q) = .inl r := by rw [hS]; exact namX_bad (Or.inl (List.eq_nil_of_length_eq_zero c_4))
            refine lv_aload_n hx hb d_Mo_nameRow_89 rfl (lv_at hl 0 rfl) ?_
            refine lv_aload_n hx hb d_Mo_nameRow_90 rfl (lv_at hl 0 rfl) ?_
            refine u_get hx hb hts inMo hown hK hV hn 0 rfl rfl 13 (by decide) w_fl_Mo_61 rfl rfl d_Mo_nameRow_91 ?_
            refine v_call (va_runV (As := [.int (nI r)]) (rest := []) ⟨hx, hb, hml, hown, hts⟩ (c_Mo_fail l G lo _ _ m u0 (.int (nI n)) (.ref mt) u3 u4 u5 u6 u7 u8 (.ref np) u10 u11 u12 (.int (nI r)) u15 u16 u17 u18 u19 u20 (by simp) (nI r)) (kwV 1 hts w_co_Mo_fail rfl rfl w_it_Mo w_ml_Mo_74 w_im_Mo_fail w_se_Mo__Mo_fail (by decide +kernel) ⟨(Nat.le_of_ble_eq_true rfl), (Nat.le_of_ble_eq_true rfl)⟩) (u_preV hK hV hn [0] rfl hz 0 rfl rfl) rfl rfl hl.1 rfl (lv_room (Nat.le_of_ble_eq_true rfl)) d_Mo_nameRow_94 ⟨(Nat.le_of_ble_eq_true rfl), (Nat.le_of_ble_eq_true rfl)⟩) hV (fun r9 V9 H locs hp hV hle => ?_)
            obtain ⟨rfl, rfl, hz⟩ := hp
            replace hV := u_back hV hn [0] rfl
            have hV : vS G.1 cls lo s H locs (vU V [(m, eO 8 [u0, .int (nI n), .ref mt, u3, u4, u5, u6, u7, u8, .ref np, u10, u11, u12, .int (nI r), .int (nI r), u15, u16, u17, u18, u19, u20]), (mt, eI (gI G) 400 g), (np, eI (gI G) 1769 (letW F p wd))]) := hV
            refine lv_aload_n hx hb d_Mo_nameRow_97 rfl (lv_at hl 0 rfl) ?_
            refine lv_dup hx hb d_Mo_nameRow_98 rfl ?_
            refine u_get hx hb hts inMo hown hK hV hn 0 rfl rfl 13 (by decide) w_fl_Mo_61 rfl rfl d_Mo_nameRow_99 ?_
            refine lv_iconst (v := 1) hx hb d_Mo_nameRow_102 (by decide) ?_
            refine e_iadd (v := nI (r + 1)) hx hb d_Mo_nameRow_103 (nI_add r 1) ?_
            refine u_put hx hb hts inMo tyMo tyMo_ok nmMo hown hK hV hn 0 rfl rfl 13 (by decide) w_fl_Mo_61 rfl rfl rfl rfl (Nat.le_of_ble_eq_true rfl) d_Mo_nameRow_104 (fun H locs hV hz9 => ?_)
            have hV : vS G.1 cls lo s H locs (vU V [(m, eO 8 [u0, .int (nI n), .ref mt, u3, u4, u5, u6, u7, u8, .ref np, u10, u11, u12, .int (nI (r + 1)), .int (nI r), u15, u16, u17, u18, u19, u20]), (mt, eI (gI G) 400 g), (np, eI (gI G) 1769 (letW F p wd))]) := hV
            replace hz := hz9.trans hz
            refine lv_aload_n hx hb d_Mo_nameRow_107 rfl (lv_at hl 0 rfl) ?_
            refine u_get hx hb hts inMo hown hK hV hn 0 rfl rfl 9 (by decide) w_fl_Mo_29 rfl rfl d_Mo_nameRow_108 ?_
            refine lv_iload_n hx hb d_Mo_nameRow_111 rfl (lv_at hl 1 rfl) ?_
            refine lv_bipush (v := 20) hx hb d_Mo_nameRow_112 (by decide) ?_
            refine e_iadd (v := nI (p + 20)) hx hb d_Mo_nameRow_114 (nI_add p 20) ?_
            refine lv_iload_n hx hb d_Mo_nameRow_115 rfl (lv_at hl 2 rfl) ?_
            refine u_iastN hx hb hK hV hn 2 rfl (by omega) (by decide) d_Mo_nameRow_116 (fun H locs hV hz9 => ?_)
            have hV : vS G.1 cls lo s H locs (vU V [(m, eO 8 [u0, .int (nI n), .ref mt, u3, u4, u5, u6, u7, u8, .ref np, u10, u11, u12, .int (nI (r + 1)), .int (nI r), u15, u16, u17, u18, u19, u20]), (mt, eI (gI G) 400 g), (np, eI (gI G) 1769 (upd (letW F p wd) (p + 20) (nI wd.length)))]) := hV
            replace hz := hz9.trans hz
            refine lv_aload_n hx hb d_Mo_nameRow_117 rfl (lv_at hl 0 rfl) ?_
            refine lv_bipush (v := 35) hx hb d_Mo_nameRow_118 (by decide) ?_
            refine v_call (va_runV (As := [.int 35]) (rest := []) ⟨hx, hb, hml, hown, hts⟩ (c_Mo_takeB l G lo _ _ m u0 (.int (nI n)) (.ref mt) u3 u4 u5 u6 u7 u8 (.ref np) u10 u11 u12 (.int (nI (r + 1))) u15 u16 u17 u18 u19 u20 (by simp) r (by omega) 35) (kwV 1 hts w_co_Mo_take rfl rfl w_it_Mo w_ml_Mo_86 w_im_Mo_take w_se_Mo__Mo_take (by decide +kernel) ⟨(Nat.le_of_ble_eq_true rfl), (Nat.le_of_ble_eq_true rfl)⟩) (u_preV hK hV hn [0] rfl hz 0 rfl rfl) rfl rfl hl.1 rfl (lv_room (Nat.le_of_ble_eq_true rfl)) d_Mo_nameRow_120 ⟨(Nat.le_of_ble_eq_true rfl), (Nat.le_of_ble_eq_true rfl)⟩) hV (fun r9 V9 H locs hp hV hle => ?_)
            obtain ⟨rfl, rfl, hz⟩ := hp
            replace hV := uu_same hV hn [0] rfl
            have hV : vS G.1 cls lo s H locs (vU V [(m, eO 8 [u0, .int (nI n), .ref mt, u3, u4, u5, u6, u7, u8, .ref np, u10, u11, u12, .int (nI (r + 1)), .int (nI r), u15, u16, u17, u18, u19, u20]), (mt, eI (gI G) 400 g), (np, eI (gI G) 1769 (upd (letW F p wd) (p + 20) (nI wd.length)))]) := hV
            refine lv_aload_n hx hb d_Mo_nameRow_123 rfl (lv_at hl 0 rfl) ?_
            refine u_get hx hb hts inMo hown hK hV hn 0 rfl rfl 9 (by decide) w_fl_Mo_29 rfl rfl d_Mo_nameRow_124 ?_
            refine lv_iload_n hx hb d_Mo_nameRow_127 rfl (lv_at hl 1 rfl) ?_
            refine lv_bipush (v := 19) hx hb d_Mo_nameRow_128 (by decide) ?_
            refine e_iadd (v := nI (p + 19)) hx hb d_Mo_nameRow_130 (nI_add p 19) ?_
            refine lv_aload_n hx hb d_Mo_nameRow_131 rfl (lv_at hl 0 rfl) ?_
            refine lv_iconst (v := 0) hx hb d_Mo_nameRow_132 (by decide) ?_
            refine lv_bipush (v := 9) hx hb d_Mo_nameRow_133 (by decide) ?_
            refine v_call (va_runV (As := [.int 0, .int 9]) (rest := [.int (nI (p + 19)), .ref np]) ⟨hx, hb, hml, hown, hts⟩ (c_Mo_numberB l G lo _ _ m u0 (.int (nI n)) (.ref mt) u3 u4 u5 u6 u7 u8 (.ref np) u10 u11 u12 (.int (nI (r + 1))) u15 u16 u17 u18 u19 u20 (by simp) r (by omega) 0 9) (kwV 2 hts w_co_Mo_number rfl rfl w_it_Mo w_ml_Mo_82 w_im_Mo_number w_se_Mo__Mo_number (by decide +kernel) ⟨(Nat.le_of_ble_eq_true rfl), (Nat.le_of_ble_eq_true rfl)⟩) (u_preV hK hV hn [0] rfl hz 0 rfl rfl) rfl rfl hl.1 rfl (lv_room (Nat.le_of_ble_eq_true rfl)) d_Mo_nameRow_135 ⟨(Nat.le_of_ble_eq_true rfl), (Nat.le_of_ble_eq_true rfl)⟩) hV (fun r9 V9 H locs hp hV hle => ?_)
            obtain ⟨rfl, rfl, hz⟩ := hp
            replace hV := uu_same hV hn [0] rfl
            have hV : vS G.1 cls lo s H locs (vU V [(m, eO 8 [u0, .int (nI n), .ref mt, u3, u4, u5, u6, u7, u8, .ref np, u10, u11, u12, .int (nI (r + 1)), .int (nI r), u15, u16, u17, u18, u19, u20]), (mt, eI (gI G) 400 g), (np, eI (gI G) 1769 (upd (letW F p wd) (p + 20) (nI wd.length)))]) := hV
            refine W.eq (g2 := F0 mi 138 ls [.int 0, .int (nI (p + 19)), .ref np]) rfl ?_
            refine u_iastN hx hb hK hV hn 2 rfl (by omega) (by decide) d_Mo_nameRow_138 (fun H locs hV hz9 => ?_)
            have hV : vS G.1 cls lo s H locs (vU V [(m, eO 8 [u0, .int (nI n), .ref mt, u3, u4, u5, u6, u7, u8, .ref np, u10, u11, u12, .int (nI (r + 1)), .int (nI r), u15, u16, u17, u18, u19, u20]), (mt, eI (gI G) 400 g), (np, eI (gI G) 1769 (upd (upd (letW F p wd) (p + 20) (nI wd.length)) (p + 19) 0))]) := hV
            replace hz := hz9.trans hz
            exact W.vret hx hb hr (v_end hV ⟨rfl, ⟨_, _, by rw [hX]; rfl, fun wd9 a9 r9 hz9 => by rw [hX] at hz9; cases hz9⟩, hz⟩) hV.2.1.2.2 d_Mo_nameRow_139
        · replace c_3 : ¬ t r = 34 := fun z9 => c_3 ((nI_eq (a := t r) (b := 34) (by omega) (by omega)).mpr z9)
          refine lv_aload_n hx hb d_Mo_nameRow_18 rfl (lv_at hl 0 rfl) ?_
          refine v_call (va_runV (As := []) (rest := []) ⟨hx, hb, hml, hown, hts⟩ (c_Mo_here l G lo _ _ m mt u0 u3 u4 u5 u6 u7 u8 (.ref np) u10 u11 u12 (.int ((-1))) u15 u16 u17 u18 u19 u20 g t n r (nd_sub hn [0, 1] (by decide) rfl) hT h4 (by omega)) (kwV 0 hts w_co_Mo_here rfl rfl w_it_Mo w_ml_Mo_64 w_im_Mo_here w_se_Mo__Mo_here (by decide +kernel) ⟨(Nat.le_of_ble_eq_true rfl), (Nat.le_of_ble_eq_true rfl)⟩) (u_preV hK hV hn [0, 1] rfl hz 0 rfl rfl) rfl rfl hl.1 rfl (lv_room (Nat.le_of_ble_eq_true rfl)) d_Mo_nameRow_19 ⟨(Nat.le_of_ble_eq_true rfl), (Nat.le_of_ble_eq_true rfl)⟩) hV (fun r9 V9 H locs hp hV hle => ?_)
          obtain ⟨rfl, rfl, hz⟩ := hp
          replace hV := uu_same hV hn [0, 1] rfl
          have hV : vS G.1 cls lo s H locs (vU V [(m, eO 8 [u0, .int (nI n), .ref mt, u3, u4, u5, u6, u7, u8, .ref np, u10, u11, u12, .int (nI r), .int ((-1)), u15, u16, u17, u18, u19, u20]), (mt, eI (gI G) 400 g), (np, eI (gI G) 1769 (letW F p wd))]) := hV
          refine W.eq (g2 := F0 mi 22 ls [.int (rK t n r)]) rfl ?_
          refine W.eq (g2 := F0 mi 22 ls [.int (nI (t r))]) (by rw [rK_in l_2] <;> rfl) ?_
          refine lv_bipush (v := 97) hx hb d_Mo_nameRow_22 (by decide) ?_
          refine lv_bipush (v := 122) hx hb d_Mo_nameRow_24 (by decide) ?_
          refine v_call (va_runS (As := [.int (nI (t r)), .int 97, .int 122]) (rest := []) ⟨hx, hb, hml, hown, hts⟩ (c_Mo_in l G lo _ _ (nI (t r)) ((97 : Int32)) ((122 : Int32))) (kwS 3 hts w_co_Mo_in rfl rfl w_it_Mo w_ml_Mo_54 w_st_Mo_in (by decide +kernel) ⟨(Nat.le_of_ble_eq_true rfl), (Nat.le_of_ble_eq_true rfl)⟩) (u_preS hK hV hn [] rfl hz) rfl rfl hl.1 rfl (lv_room (Nat.le_of_ble_eq_true rfl)) d_Mo_nameRow_26 ⟨(Nat.le_of_ble_eq_true rfl), (Nat.le_of_ble_eq_true rfl)⟩) hV (fun r9 V9 H locs hp hV hle => ?_)
          obtain ⟨rfl, rfl, hz⟩ := hp
          replace hV := uu_same hV hn [] rfl
          rcases tf (inI (nI (t r)) ((97 : Int32)) ((122 : Int32))) with d_7 | d_7
          · have hL : isL t n r = true := (inI_L (by omega) (by omega)).symm.trans d_7
            have hV : vS G.1 cls lo s H locs (vU V [(m, eO 8 [u0, .int (nI n), .ref mt, u3, u4, u5, u6, u7, u8, .ref np, u10, u11, u12, .int (nI r), .int ((-1)), u15, u16, u17, u18, u19, u20]), (mt, eI (gI G) 400 g), (np, eI (gI G) 1769 (letW F p wd))]) := hV
            refine W.eq (g2 := F0 mi 29 ls [.int 1]) (by rw [d_7]; rfl) ?_
            refine lv_if_eq (tgt := 38) hx hb d_Mo_nameRow_29 (by decide) (fun c_8 => absurd c_8 (by decide)) (fun _ => ?_)
            refine lv_iload_n hx hb d_Mo_nameRow_32 rfl (lv_at hl 2 rfl) ?_
            refine lv_bipush (v := 8) hx hb d_Mo_nameRow_33 (by decide) ?_
            refine lv_icmp_ne (tgt := 46) hx hb d_Mo_nameRow_35 (by decide) (fun c_9 => ?_) (fun c_9 => ?_)
            · replace c_9 : ¬ wd.length = 8 := fun z9 => c_9 ((nI_eq (a := wd.length) (b := 8) (by omega) (by omega)).mpr z9)
              refine lv_aload_n hx hb d_Mo_nameRow_46 rfl (lv_at hl 0 rfl) ?_
              refine u_get hx hb hts inMo hown hK hV hn 0 rfl rfl 14 (by decide) w_fl_Mo_68 rfl rfl d_Mo_nameRow_47 ?_
              refine lv_if_lt (tgt := 54) hx hb d_Mo_nameRow_50 (by decide) (fun _ => ?_) (fun c_10 => absurd c_10 (by decide))
              refine lv_aload_n hx hb d_Mo_nameRow_54 rfl (lv_at hl 0 rfl) ?_
              refine u_get hx hb hts inMo hown hK hV hn 0 rfl rfl 9 (by decide) w_fl_Mo_29 rfl rfl d_Mo_nameRow_55 ?_
              refine lv_iload_n hx hb d_Mo_nameRow_58 rfl (lv_at hl 1 rfl) ?_
              refine lv_bipush (v := 21) hx hb d_Mo_nameRow_59 (by decide) ?_
              refine e_iadd (v := nI (p + 21)) hx hb d_Mo_nameRow_61 (nI_add p 21) ?_
              refine lv_iload_n hx hb d_Mo_nameRow_62 rfl (lv_at hl 2 rfl) ?_
              refine e_iadd (v := nI (p + 21 + wd.length)) hx hb d_Mo_nameRow_63 (nI_add (p + 21) wd.length) ?_
              refine lv_aload_n hx hb d_Mo_nameRow_64 rfl (lv_at hl 0 rfl) ?_
              refine v_call (va_runV (As := []) (rest := [.int (nI (p + 21 + wd.length)), .ref np]) ⟨hx, hb, hml, hown, hts⟩ (c_Mo_here l G lo _ _ m mt u0 u3 u4 u5 u6 u7 u8 (.ref np) u10 u11 u12 (.int ((-1))) u15 u16 u17 u18 u19 u20 g t n r (nd_sub hn [0, 1] (by decide) rfl) hT h4 (by omega)) (kwV 0 hts w_co_Mo_here rfl rfl w_it_Mo w_ml_Mo_64 w_im_Mo_here w_se_Mo__Mo_here (by decide +kernel) ⟨(Nat.le_of_ble_eq_true rfl), (Nat.le_of_ble_eq_true rfl)⟩) (u_preV hK hV hn [0, 1] rfl hz 0 rfl rfl) rfl rfl hl.1 rfl (lv_room (Nat.le_of_ble_eq_true rfl)) d_Mo_nameRow_65 ⟨(Nat.le_of_ble_eq_true rfl), (Nat.le_of_ble_eq_true rfl)⟩) hV (fun r9 V9 H locs hp hV hle => ?_)
              obtain ⟨rfl, rfl, hz⟩ := hp
              replace hV := uu_same hV hn [0, 1] rfl
              have hV : vS G.1 cls lo s H locs (vU V [(m, eO 8 [u0, .int (nI n), .ref mt, u3, u4, u5, u6, u7, u8, .ref np, u10, u11, u12, .int (nI r), .int ((-1)), u15, u16, u17, u18, u19, u20]), (mt, eI (gI G) 400 g), (np, eI (gI G) 1769 (letW F p wd))]) := hV
              refine W.eq (g2 := F0 mi 68 ls [.int (rK t n r), .int (nI (p + 21 + wd.length)), .ref np]) rfl ?_
              refine W.eq (g2 := F0 mi 68 ls [.int (nI (t r)), .int (nI (p + 21 + wd.length)), .ref np]) (by rw [rK_in l_2] <;> rfl) ?_
              refine u_iastN hx hb hK hV hn 2 rfl (by omega) (by decide) d_Mo_nameRow_68 (fun H locs hV hz9 => ?_)
              have hV : vS G.1 cls lo s H locs (vU V [(m, eO 8 [u0, .int (nI n), .ref mt, u3, u4, u5, u6, u7, u8, .ref np, u10, u11, u12, .int (nI r), .int ((-1)), u15, u16, u17, u18, u19, u20]), (mt, eI (gI G) 400 g), (np, eI (gI G) 1769 (upd (letW F p wd) (p + 21 + wd.length) (nI (t r))))]) := hV
              replace hz := hz9.trans hz
              rw [letW_step] at hV
              refine lv_iinc (v := nI ((wd ++ [t r]).length)) (lv' := [(2, .int (nI ((wd ++ [t r]).length))), (0, .ref m), (1, .int (nI p))]) hx hb d_Mo_nameRow_69 hl (k := 2) rfl (by rw [List.length_append]; exact nI_add wd.length 1) (by decide) rfl (fun ls hl => ?_)
              refine lv_aload_n hx hb d_Mo_nameRow_72 rfl (lv_at hl 1 rfl) ?_
              refine lv_dup hx hb d_Mo_nameRow_73 rfl ?_
              refine u_get hx hb hts inMo hown hK hV hn 0 rfl rfl 13 (by decide) w_fl_Mo_61 rfl rfl d_Mo_nameRow_74 ?_
              refine lv_iconst (v := 1) hx hb d_Mo_nameRow_77 (by decide) ?_
              refine e_iadd (v := nI (r + 1)) hx hb d_Mo_nameRow_78 (nI_add r 1) ?_
              refine u_put hx hb hts inMo tyMo tyMo_ok nmMo hown hK hV hn 0 rfl rfl 13 (by decide) w_fl_Mo_61 rfl rfl rfl rfl (Nat.le_of_ble_eq_true rfl) d_Mo_nameRow_79 (fun H locs hV hz9 => ?_)
              have hV : vS G.1 cls lo s H locs (vU V [(m, eO 8 [u0, .int (nI n), .ref mt, u3, u4, u5, u6, u7, u8, .ref np, u10, u11, u12, .int (nI (r + 1)), .int ((-1)), u15, u16, u17, u18, u19, u20]), (mt, eI (gI G) 400 g), (np, eI (gI G) 1769 (letW F p (wd ++ [t r])))]) := hV
              replace hz := hz9.trans hz
              refine lv_goto (tgt := 2) hx hb d_Mo_nameRow_82 (by decide) ?_
              exact ih (wd ++ [t r]) (r + 1) (by rw [List.length_append, List.length_singleton]; omega) (by rw [List.length_append, List.length_singleton]; omega) (by omega) (by rw [hls, letR_go hL (by omega), List.length_append, List.length_singleton, Nat.sub_sub]) H locs ls hz hV (lv_sub hl [1, 2, 0] rfl)
            · replace c_9 : wd.length = 8 := (nI_eq (a := wd.length) (b := 8) (by omega) (by omega)).mp c_9
              refine lv_aload_n hx hb d_Mo_nameRow_38 rfl (lv_at hl 0 rfl) ?_
              refine lv_aload_n hx hb d_Mo_nameRow_39 rfl (lv_at hl 0 rfl) ?_
              refine u_get hx hb hts inMo hown hK hV hn 0 rfl rfl 13 (by decide) w_fl_Mo_61 rfl rfl d_Mo_nameRow_40 ?_
              refine v_call (va_runV (As := [.int (nI r)]) (rest := []) ⟨hx, hb, hml, hown, hts⟩ (c_Mo_fail l G lo _ _ m u0 (.int (nI n)) (.ref mt) u3 u4 u5 u6 u7 u8 (.ref np) u10 u11 u12 (.int (nI r)) u15 u16 u17 u18 u19 u20 (by simp) (nI r)) (kwV 1 hts w_co_Mo_fail rfl rfl w_it_Mo w_ml_Mo_74 w_im_Mo_fail w_se_Mo__Mo_fail (by decide +kernel) ⟨(Nat.le_of_ble_eq_true rfl), (Nat.le_of_ble_eq_true rfl)⟩) (u_preV hK hV hn [0] rfl hz 0 rfl rfl) rfl rfl hl.1 rfl (lv_room (Nat.le_of_ble_eq_true rfl)) d_Mo_nameRow_43 ⟨(Nat.le_of_ble_eq_true rfl), (Nat.le_of_ble_eq_true rfl)⟩) hV (fun r9 V9 H locs hp hV hle => ?_)
              obtain ⟨rfl, rfl, hz⟩ := hp
              replace hV := u_back hV hn [0] rfl
              have hV : vS G.1 cls lo s H locs (vU V [(m, eO 8 [u0, .int (nI n), .ref mt, u3, u4, u5, u6, u7, u8, .ref np, u10, u11, u12, .int (nI r), .int (nI r), u15, u16, u17, u18, u19, u20]), (mt, eI (gI G) 400 g), (np, eI (gI G) 1769 (letW F p wd))]) := hV
              refine lv_aload_n hx hb d_Mo_nameRow_46 rfl (lv_at hl 0 rfl) ?_
              refine u_get hx hb hts inMo hown hK hV hn 0 rfl rfl 14 (by decide) w_fl_Mo_68 rfl rfl d_Mo_nameRow_47 ?_
              refine lv_if_lt (tgt := 54) hx hb d_Mo_nameRow_50 (by decide) (fun c_11 => absurd c_11 (nI_nlt0 (by omega))) (fun c_11 => ?_)
              replace c_11 : ¬ r < 0 := fun z9 => c_11 ((nI_ltI (a := r) (b := 0) (by omega) (by omega)).mpr z9)
              have hS : letR t n 8 [] q = (wd, r) := by rw [hls]; exact letR_stop (Or.inl (by omega))
              have hX : namX t n (letR t n 8 [] q) = .inl r := by rw [hS]; exact namX_bad (Or.inr (by omega))
              exact W.vret hx hb hr (v_end hV ⟨rfl, ⟨_, _, by rw [hX]; rfl, fun wd9 a9 r9 hz9 => by rw [hX] at hz9; cases hz9⟩, hz⟩) hV.2.1.2.2 d_Mo_nameRow_53
          · have hL : isL t n r = false := (inI_L (by omega) (by omega)).symm.trans d_7
            have hV : vS G.1 cls lo s H locs (vU V [(m, eO 8 [u0, .int (nI n), .ref mt, u3, u4, u5, u6, u7, u8, .ref np, u10, u11, u12, .int (nI r), .int ((-1)), u15, u16, u17, u18, u19, u20]), (mt, eI (gI G) 400 g), (np, eI (gI G) 1769 (letW F p wd))]) := hV
            refine W.eq (g2 := F0 mi 29 ls [.int 0]) (by rw [d_7]; rfl) ?_
            refine lv_if_eq (tgt := 38) hx hb d_Mo_nameRow_29 (by decide) (fun _ => ?_) (fun c_12 => absurd c_12 (by decide))
            refine lv_aload_n hx hb d_Mo_nameRow_38 rfl (lv_at hl 0 rfl) ?_
            refine lv_aload_n hx hb d_Mo_nameRow_39 rfl (lv_at hl 0 rfl) ?_
            refine u_get hx hb hts inMo hown hK hV hn 0 rfl rfl 13 (by decide) w_fl_Mo_61 rfl rfl d_Mo_nameRow_40 ?_
            refine v_call (va_runV (As := [.int (nI r)]) (rest := []) ⟨hx, hb, hml, hown, hts⟩ (c_Mo_fail l G lo _ _ m u0 (.int (nI n)) (.ref mt) u3 u4 u5 u6 u7 u8 (.ref np) u10 u11 u12 (.int (nI r)) u15 u16 u17 u18 u19 u20 (by simp) (nI r)) (kwV 1 hts w_co_Mo_fail rfl rfl w_it_Mo w_ml_Mo_74 w_im_Mo_fail w_se_Mo__Mo_fail (by decide +kernel) ⟨(Nat.le_of_ble_eq_true rfl), (Nat.le_of_ble_eq_true rfl)⟩) (u_preV hK hV hn [0] rfl hz 0 rfl rfl) rfl rfl hl.1 rfl (lv_room (Nat.le_of_ble_eq_true rfl)) d_Mo_nameRow_43 ⟨(Nat.le_of_ble_eq_true rfl), (Nat.le_of_ble_eq_true rfl)⟩) hV (fun r9 V9 H locs hp hV hle => ?_)
            obtain ⟨rfl, rfl, hz⟩ := hp
            replace hV := u_back hV hn [0] rfl
            have hV : vS G.1 cls lo s H locs (vU V [(m, eO 8 [u0, .int (nI n), .ref mt, u3, u4, u5, u6, u7, u8, .ref np, u10, u11, u12, .int (nI r), .int (nI r), u15, u16, u17, u18, u19, u20]), (mt, eI (gI G) 400 g), (np, eI (gI G) 1769 (letW F p wd))]) := hV
            refine lv_aload_n hx hb d_Mo_nameRow_46 rfl (lv_at hl 0 rfl) ?_
            refine u_get hx hb hts inMo hown hK hV hn 0 rfl rfl 14 (by decide) w_fl_Mo_68 rfl rfl d_Mo_nameRow_47 ?_
            refine lv_if_lt (tgt := 54) hx hb d_Mo_nameRow_50 (by decide) (fun c_13 => absurd c_13 (nI_nlt0 (by omega))) (fun c_13 => ?_)
            replace c_13 : ¬ r < 0 := fun z9 => c_13 ((nI_ltI (a := r) (b := 0) (by omega) (by omega)).mpr z9)
            have hS : letR t n 8 [] q = (wd, r) := by rw [hls]; exact letR_stop (Or.inr hL)
            have hX : namX t n (letR t n 8 [] q) = .inl r := by rw [hS]; exact namX_bad (Or.inr (by omega))
            exact W.vret hx hb hr (v_end hV ⟨rfl, ⟨_, _, by rw [hX]; rfl, fun wd9 a9 r9 hz9 => by rw [hX] at hz9; cases hz9⟩, hz⟩) hV.2.1.2.2 d_Mo_nameRow_53
      · have hV : vS G.1 cls lo s H locs (vU V [(m, eO 8 [u0, .int (nI n), .ref mt, u3, u4, u5, u6, u7, u8, .ref np, u10, u11, u12, .int (nI r), .int ((-1)), u15, u16, u17, u18, u19, u20]), (mt, eI (gI G) 400 g), (np, eI (gI G) 1769 (letW F p wd))]) := hV
        refine W.eq (g2 := F0 mi 13 ls [.int ((-1))]) (by rw [rK_out (by omega)]; rfl) ?_
        refine lv_bipush (v := 34) hx hb d_Mo_nameRow_13 (by decide) ?_
        refine lv_icmp_eq (tgt := 85) hx hb d_Mo_nameRow_15 (by decide) (fun c_14 => absurd c_14 (by decide)) (fun _ => ?_)
        refine lv_aload_n hx hb d_Mo_nameRow_18 rfl (lv_at hl 0 rfl) ?_
        refine v_call (va_runV (As := []) (rest := []) ⟨hx, hb, hml, hown, hts⟩ (c_Mo_here l G lo _ _ m mt u0 u3 u4 u5 u6 u7 u8 (.ref np) u10 u11 u12 (.int ((-1))) u15 u16 u17 u18 u19 u20 g t n r (nd_sub hn [0, 1] (by decide) rfl) hT h4 (by omega)) (kwV 0 hts w_co_Mo_here rfl rfl w_it_Mo w_ml_Mo_64 w_im_Mo_here w_se_Mo__Mo_here (by decide +kernel) ⟨(Nat.le_of_ble_eq_true rfl), (Nat.le_of_ble_eq_true rfl)⟩) (u_preV hK hV hn [0, 1] rfl hz 0 rfl rfl) rfl rfl hl.1 rfl (lv_room (Nat.le_of_ble_eq_true rfl)) d_Mo_nameRow_19 ⟨(Nat.le_of_ble_eq_true rfl), (Nat.le_of_ble_eq_true rfl)⟩) hV (fun r9 V9 H locs hp hV hle => ?_)
        obtain ⟨rfl, rfl, hz⟩ := hp
        replace hV := uu_same hV hn [0, 1] rfl
        have hV : vS G.1 cls lo s H locs (vU V [(m, eO 8 [u0, .int (nI n), .ref mt, u3, u4, u5, u6, u7, u8, .ref np, u10, u11, u12, .int (nI r), .int ((-1)), u15, u16, u17, u18, u19, u20]), (mt, eI (gI G) 400 g), (np, eI (gI G) 1769 (letW F p wd))]) := hV
        refine W.eq (g2 := F0 mi 22 ls [.int (rK t n r)]) rfl ?_
        refine W.eq (g2 := F0 mi 22 ls [.int ((-1))]) (by rw [rK_out (by omega)] <;> rfl) ?_
        refine lv_bipush (v := 97) hx hb d_Mo_nameRow_22 (by decide) ?_
        refine lv_bipush (v := 122) hx hb d_Mo_nameRow_24 (by decide) ?_
        refine v_call (va_runS (As := [.int ((-1)), .int 97, .int 122]) (rest := []) ⟨hx, hb, hml, hown, hts⟩ (c_Mo_in l G lo _ _ (-1) 97 122) (kwS 3 hts w_co_Mo_in rfl rfl w_it_Mo w_ml_Mo_54 w_st_Mo_in (by decide +kernel) ⟨(Nat.le_of_ble_eq_true rfl), (Nat.le_of_ble_eq_true rfl)⟩) (u_preS hK hV hn [] rfl hz) rfl rfl hl.1 rfl (lv_room (Nat.le_of_ble_eq_true rfl)) d_Mo_nameRow_26 ⟨(Nat.le_of_ble_eq_true rfl), (Nat.le_of_ble_eq_true rfl)⟩) hV (fun r9 V9 H locs hp hV hle => ?_)
        obtain ⟨hr9, rfl, hz⟩ := hp
        rw [show inI (-1) 97 122 = false from by decide] at hr9
        subst hr9
        have hL : isL t n r = false := isL_out (by omega)
        replace hV := uu_same hV hn [] rfl
        have hV : vS G.1 cls lo s H locs (vU V [(m, eO 8 [u0, .int (nI n), .ref mt, u3, u4, u5, u6, u7, u8, .ref np, u10, u11, u12, .int (nI r), .int ((-1)), u15, u16, u17, u18, u19, u20]), (mt, eI (gI G) 400 g), (np, eI (gI G) 1769 (letW F p wd))]) := hV
        refine W.eq (g2 := F0 mi 29 ls [.int 0]) rfl ?_
        refine lv_if_eq (tgt := 38) hx hb d_Mo_nameRow_29 (by decide) (fun _ => ?_) (fun c_15 => absurd c_15 (by decide))
        refine lv_aload_n hx hb d_Mo_nameRow_38 rfl (lv_at hl 0 rfl) ?_
        refine lv_aload_n hx hb d_Mo_nameRow_39 rfl (lv_at hl 0 rfl) ?_
        refine u_get hx hb hts inMo hown hK hV hn 0 rfl rfl 13 (by decide) w_fl_Mo_61 rfl rfl d_Mo_nameRow_40 ?_
        refine v_call (va_runV (As := [.int (nI r)]) (rest := []) ⟨hx, hb, hml, hown, hts⟩ (c_Mo_fail l G lo _ _ m u0 (.int (nI n)) (.ref mt) u3 u4 u5 u6 u7 u8 (.ref np) u10 u11 u12 (.int (nI r)) u15 u16 u17 u18 u19 u20 (by simp) (nI r)) (kwV 1 hts w_co_Mo_fail rfl rfl w_it_Mo w_ml_Mo_74 w_im_Mo_fail w_se_Mo__Mo_fail (by decide +kernel) ⟨(Nat.le_of_ble_eq_true rfl), (Nat.le_of_ble_eq_true rfl)⟩) (u_preV hK hV hn [0] rfl hz 0 rfl rfl) rfl rfl hl.1 rfl (lv_room (Nat.le_of_ble_eq_true rfl)) d_Mo_nameRow_43 ⟨(Nat.le_of_ble_eq_true rfl), (Nat.le_of_ble_eq_true rfl)⟩) hV (fun r9 V9 H locs hp hV hle => ?_)
        obtain ⟨rfl, rfl, hz⟩ := hp
        replace hV := u_back hV hn [0] rfl
        have hV : vS G.1 cls lo s H locs (vU V [(m, eO 8 [u0, .int (nI n), .ref mt, u3, u4, u5, u6, u7, u8, .ref np, u10, u11, u12, .int (nI r), .int (nI r), u15, u16, u17, u18, u19, u20]), (mt, eI (gI G) 400 g), (np, eI (gI G) 1769 (letW F p wd))]) := hV
        refine lv_aload_n hx hb d_Mo_nameRow_46 rfl (lv_at hl 0 rfl) ?_
        refine u_get hx hb hts inMo hown hK hV hn 0 rfl rfl 14 (by decide) w_fl_Mo_68 rfl rfl d_Mo_nameRow_47 ?_
        refine lv_if_lt (tgt := 54) hx hb d_Mo_nameRow_50 (by decide) (fun c_16 => absurd c_16 (nI_nlt0 (by omega))) (fun c_16 => ?_)
        replace c_16 : ¬ r < 0 := fun z9 => c_16 ((nI_ltI (a := r) (b := 0) (by omega) (by omega)).mpr z9)
        have hS : letR t n 8 [] q = (wd, r) := by rw [hls]; exact letR_stop (Or.inr hL)
        have hX : namX t n (letR t n 8 [] q) = .inl r := by rw [hS]; exact namX_bad (Or.inr (by omega))
        exact W.vret hx hb hr (v_end hV ⟨rfl, ⟨_, _, by rw [hX]; rfl, fun wd9 a9 r9 hz9 => by rw [hX] at hz9; cases hz9⟩, hz⟩) hV.2.1.2.2 d_Mo_nameRow_53
  have hV : vS G.1 cls lo s H locs (vU V [(m, eO 8 [u0, .int (nI n), .ref mt, u3, u4, u5, u6, u7, u8, .ref np, u10, u11, u12, .int (nI q), .int ((-1)), u15, u16, u17, u18, u19, u20]), (mt, eI (gI G) 400 g), (np, eI (gI G) 1769 (letW F p []))]) := by rw [letW_0]; exact hV
  exact loop 9 [] q (by decide) (by decide) (by omega) rfl H locs ls hz hV (lv_sub hl [1, 2, 0] rfl)
