set_option maxHeartbeats 4000000 in
set_option maxRecDepth 100000 in
/-- check -/
theorem c_SG_check (l : Launch) (G : Gx) (lo : Nat) (V : Vw) (sz : Nat) (x rd ck pr tw dr : Nat) (wr : Int32) (kk kn : Nat) (fk fn : Nat → Int32) (F : List Two) (ps bl b1 b2 sn s1 s2 tu af ao a3 : Nat) (fb fc fs fd fr ov tt : Nat → Int32) (L : List Tri) (of : Bool) (B S : Nat → Option (Nat × Nat)) (pf : Nat → Option Nat) (Q : Nat → Option PcR) (dy : Nat) (hn : [x, ck, kk, kn, tw, ps, bl, b1, b2, sn, s1, s2, tu, af, ao, a3].Nodup) (hB : twB G V dy sz pf Q) (hdc : ∀ a ∈ [x, ck, kk, kn, tw, ps, bl, b1, b2, sn, s1, s2, tu, af, ao, a3], a < dy) (hSb : spOk fb fc B) (hSs : spOk fs fd S) (hT : tnOk fr ov tt L) (hL : L.length ≤ 20) : Met l y_SG_check ws_SG_check ({ frames := 5, cells := 0, slots := 0, locals := 140 } : Room) (vPre G lo [.ref x] (vU V [(x, eO 7 [.ref rd, .ref ck, .ref pr, .ref tw, .ref dr, .int wr]), (ck, eO 0 [.ref kk, .ref kn, .int (nI F.length)]), (kk, eI (gI G) 250 fk), (kn, eI (gI G) 250 fn), (tw, eO 5 [.ref ps, .ref bl, .ref sn, .ref tu]), (ps, eQ (gP G) 61 pf), (bl, eO 4 [.ref b1, .ref b2]), (b1, eI (gI G) 31 fb), (b2, eI (gI G) 31 fc), (sn, eO 4 [.ref s1, .ref s2]), (s1, eI (gI G) 31 fs), (s2, eI (gI G) 31 fd), (tu, eO 6 [.ref af, .ref ao, .ref a3, .int (nI L.length), .int (b2i of)]), (af, eI (gI G) 20 fr), (ao, eI (gI G) 20 ov), (a3, eI (gI G) 20 tt)]) sz) (vPost G lo (fun r V' k => r = some (.int (nI (fltA (Q, B, S, L)).length)) ∧ (∃ f1 f2 : Nat → Int32, V' = vU V [(x, eO 7 [.ref rd, .ref ck, .ref pr, .ref tw, .ref dr, .int wr]), (ck, eO 0 [.ref kk, .ref kn, .int (nI ((fltA (Q, B, S, L)).length))]), (kk, eI (gI G) 250 f1), (kn, eI (gI G) 250 f2), (tw, eO 5 [.ref ps, .ref bl, .ref sn, .ref tu]), (ps, eQ (gP G) 61 pf), (bl, eO 4 [.ref b1, .ref b2]), (b1, eI (gI G) 31 fb), (b2, eI (gI G) 31 fc), (sn, eO 4 [.ref s1, .ref s2]), (s1, eI (gI G) 31 fs), (s2, eI (gI G) 31 fd), (tu, eO 6 [.ref af, .ref ao, .ref a3, .int (nI L.length), .int (b2i of)]), (af, eI (gI G) 20 fr), (ao, eI (gI G) 20 ov), (a3, eI (gI G) 20 tt)] ∧ ckOk f1 f2 (fltA (Q, B, S, L))) ∧ k = sz)) 0 0 (vL lo) := by
  refine vMet (R := RSG) (by decide) rfl (Nat.le_of_ble_eq_true rfl) ?_
  intro pg ev s mi args below meth cd hx hb hr hml hlk hnm hts hown hK hz hV ls hl
  have hl : lv_has ls 1 [(0, .ref x)] := hl
  have hV0 := hV
  obtain ⟨H, hH⟩ : ∃ H, H = s.heap := ⟨_, rfl⟩
  obtain ⟨locs, hlocs⟩ : ∃ locs : List Loc, locs = [] := ⟨_, rfl⟩
  rw [← hH, ← hlocs]
  rw [← hH] at hz
  replace hV : vS G.1 cls lo s H locs (vU V [(x, eO 7 [.ref rd, .ref ck, .ref pr, .ref tw, .ref dr, .int wr]), (ck, eO 0 [.ref kk, .ref kn, .int (nI F.length)]), (kk, eI (gI G) 250 fk), (kn, eI (gI G) 250 fn), (tw, eO 5 [.ref ps, .ref bl, .ref sn, .ref tu]), (ps, eQ (gP G) 61 pf), (bl, eO 4 [.ref b1, .ref b2]), (b1, eI (gI G) 31 fb), (b2, eI (gI G) 31 fc), (sn, eO 4 [.ref s1, .ref s2]), (s1, eI (gI G) 31 fs), (s2, eI (gI G) 31 fd), (tu, eO 6 [.ref af, .ref ao, .ref a3, .int (nI L.length), .int (b2i of)]), (af, eI (gI G) 20 fr), (ao, eI (gI G) 20 ov), (a3, eI (gI G) 20 tt)]) := by rw [hH, hlocs]; exact hV
  clear hH hlocs hV0
  refine lv_aload_n hx hb d_SG_check_0 rfl (lv_at hl 0 rfl) ?_
  refine u_get hx hb hts inSG hown hK hV hn 0 rfl rfl 1 (by decide) w_fl_SG_19 rfl rfl d_SG_check_1 ?_
  refine lv_aload_n hx hb d_SG_check_4 rfl (lv_at hl 0 rfl) ?_
  refine u_get hx hb hts inSG hown hK hV hn 0 rfl rfl 3 (by decide) w_fl_SG_33 rfl rfl d_SG_check_5 ?_
  refine v_call (va_runV (As := [.ref tw]) (rest := []) ⟨hx, hb, hml, hown, hts⟩ (c_Ck_lookAt l G lo _ _ ck kk kn fk fn F tw ps bl b1 b2 sn s1 s2 tu af ao a3 fb fc fs fd fr ov tt L of B S pf Q dy (nd_sub hn [1, 2, 3, 4, 5, 6, 7, 8, 9, 10, 11, 12, 13, 14, 15] (by decide) rfl) (twB_mono hB (fun q h1 _ => vU_hi (cs := [(x, eO 7 [.ref rd, .ref ck, .ref pr, .ref tw, .ref dr, .int wr]), (ck, eO 0 [.ref kk, .ref kn, .int (nI F.length)]), (kk, eI (gI G) 250 fk), (kn, eI (gI G) 250 fn), (tw, eO 5 [.ref ps, .ref bl, .ref sn, .ref tu]), (ps, eQ (gP G) 61 pf), (bl, eO 4 [.ref b1, .ref b2]), (b1, eI (gI G) 31 fb), (b2, eI (gI G) 31 fc), (sn, eO 4 [.ref s1, .ref s2]), (s1, eI (gI G) 31 fs), (s2, eI (gI G) 31 fd), (tu, eO 6 [.ref af, .ref ao, .ref a3, .int (nI L.length), .int (b2i of)]), (af, eI (gI G) 20 fr), (ao, eI (gI G) 20 ov), (a3, eI (gI G) 20 tt)]) hdc h1) (Nat.le_refl _)) (cn_sub hdc [1, 2, 3, 4, 5, 6, 7, 8, 9, 10, 11, 12, 13, 14, 15] rfl) hSb hSs hT hL) (kwV 1 hts w_co_Ck_lookAt rfl rfl w_it_Ck w_ml_SG_174 w_im_Ck_lookAt w_se_Ck__Ck_lookAt (by decide +kernel) ⟨(Nat.le_of_ble_eq_true rfl), (Nat.le_of_ble_eq_true rfl)⟩) (u_preV hK hV hn [1, 2, 3, 4, 5, 6, 7, 8, 9, 10, 11, 12, 13, 14, 15] rfl hz 1 rfl rfl) rfl rfl hl.1 rfl (lv_room (Nat.le_of_ble_eq_true rfl)) d_SG_check_8 ⟨(Nat.le_of_ble_eq_true rfl), (Nat.le_of_ble_eq_true rfl)⟩) hV (fun r9 V9 H locs hp hV hle => ?_)
  obtain ⟨rfl, ⟨g1, g2, rfl, hO9⟩, hz⟩ := hp
  replace hV := u_back hV hn [1, 2, 3, 4, 5, 6, 7, 8, 9, 10, 11, 12, 13, 14, 15] rfl
  have hV : vS G.1 cls lo s H locs (vU V [(x, eO 7 [.ref rd, .ref ck, .ref pr, .ref tw, .ref dr, .int wr]), (ck, eO 0 [.ref kk, .ref kn, .int (nI ((fltA (Q, B, S, L)).length))]), (kk, eI (gI G) 250 g1), (kn, eI (gI G) 250 g2), (tw, eO 5 [.ref ps, .ref bl, .ref sn, .ref tu]), (ps, eQ (gP G) 61 pf), (bl, eO 4 [.ref b1, .ref b2]), (b1, eI (gI G) 31 fb), (b2, eI (gI G) 31 fc), (sn, eO 4 [.ref s1, .ref s2]), (s1, eI (gI G) 31 fs), (s2, eI (gI G) 31 fd), (tu, eO 6 [.ref af, .ref ao, .ref a3, .int (nI L.length), .int (b2i of)]), (af, eI (gI G) 20 fr), (ao, eI (gI G) 20 ov), (a3, eI (gI G) 20 tt)]) := hV
  refine lv_aload_n hx hb d_SG_check_11 rfl (lv_at hl 0 rfl) ?_
  refine u_get hx hb hts inSG hown hK hV hn 0 rfl rfl 1 (by decide) w_fl_SG_19 rfl rfl d_SG_check_12 ?_
  refine u_get hx hb hts inCk hown hK hV hn 1 rfl rfl 2 (by decide) w_fl_SG_177 rfl rfl d_SG_check_15 ?_
  exact W.iret (v := nI ((fltA (Q, B, S, L)).length)) hx hb hr (v_end hV ⟨rfl, ⟨g1, g2, rfl, hO9⟩, hz⟩) hV.2.1.2.2 d_SG_check_18

set_option maxHeartbeats 4000000 in
set_option maxRecDepth 100000 in
/-- print -/
theorem c_SG_print (l : Launch) (G : Gx) (lo : Nat) (V : Vw) (sz : Nat) (x rd ck pr tw dr : Nat) (wr : Int32) (bs : Nat) (fo : Nat → Int32) (PB : List Nat) (ps bl b1 b2 sn s1 s2 tu af ao a3 : Nat) (fb fc fs fd fr ov tt : Nat → Int32) (L : List Tri) (of : Bool) (B S : Nat → Option (Nat × Nat)) (pf : Nat → Option Nat) (Q : Nat → Option PcR) (dy : Nat) (hn : [x, pr, bs, tw, ps, bl, b1, b2, sn, s1, s2, tu, af, ao, a3].Nodup) (hB : twB G V dy sz pf Q) (hdc : ∀ a ∈ [x, pr, bs, tw, ps, bl, b1, b2, sn, s1, s2, tu, af, ao, a3], a < dy) (hSb : spOk fb fc B) (hSs : spOk fs fd S) (hT : tnOk fr ov tt L) (hL : L.length ≤ 20) : Met l y_SG_print ws_SG_print ({ frames := 7, cells := 0, slots := 0, locals := 180 } : Room) (vPre G lo [.ref x] (vU V [(x, eO 7 [.ref rd, .ref ck, .ref pr, .ref tw, .ref dr, .int wr]), (pr, eO 2 [.ref bs, .int (nI PB.length)]), (bs, eI (gB G) 4880 fo), (tw, eO 5 [.ref ps, .ref bl, .ref sn, .ref tu]), (ps, eQ (gP G) 61 pf), (bl, eO 4 [.ref b1, .ref b2]), (b1, eI (gI G) 31 fb), (b2, eI (gI G) 31 fc), (sn, eO 4 [.ref s1, .ref s2]), (s1, eI (gI G) 31 fs), (s2, eI (gI G) 31 fd), (tu, eO 6 [.ref af, .ref ao, .ref a3, .int (nI L.length), .int (b2i of)]), (af, eI (gI G) 20 fr), (ao, eI (gI G) 20 ov), (a3, eI (gI G) 20 tt)]) sz) (vPost G lo (fun r V' k => r = some (.int (nI (prA (Q, B, S, L)).length)) ∧ (∃ f1 : Nat → Int32, V' = vU V [(x, eO 7 [.ref rd, .ref ck, .ref pr, .ref tw, .ref dr, .int wr]), (pr, eO 2 [.ref bs, .int (nI ((prA (Q, B, S, L)).length))]), (bs, eI (gB G) 4880 f1), (tw, eO 5 [.ref ps, .ref bl, .ref sn, .ref tu]), (ps, eQ (gP G) 61 pf), (bl, eO 4 [.ref b1, .ref b2]), (b1, eI (gI G) 31 fb), (b2, eI (gI G) 31 fc), (sn, eO 4 [.ref s1, .ref s2]), (s1, eI (gI G) 31 fs), (s2, eI (gI G) 31 fd), (tu, eO 6 [.ref af, .ref ao, .ref a3, .int (nI L.length), .int (b2i of)]), (af, eI (gI G) 20 fr), (ao, eI (gI G) 20 ov), (a3, eI (gI G) 20 tt)] ∧ prOk f1 (prA (Q, B, S, L))) ∧ k = sz)) 0 0 (vL lo) := by
  refine vMet (R := RSG) (by decide) rfl (Nat.le_of_ble_eq_true rfl) ?_
  intro pg ev s mi args below meth cd hx hb hr hml hlk hnm hts hown hK hz hV ls hl
  have hl : lv_has ls 1 [(0, .ref x)] := hl
  have hV0 := hV
  obtain ⟨H, hH⟩ : ∃ H, H = s.heap := ⟨_, rfl⟩
  obtain ⟨locs, hlocs⟩ : ∃ locs : List Loc, locs = [] := ⟨_, rfl⟩
  rw [← hH, ← hlocs]
  rw [← hH] at hz
  replace hV : vS G.1 cls lo s H locs (vU V [(x, eO 7 [.ref rd, .ref ck, .ref pr, .ref tw, .ref dr, .int wr]), (pr, eO 2 [.ref bs, .int (nI PB.length)]), (bs, eI (gB G) 4880 fo), (tw, eO 5 [.ref ps, .ref bl, .ref sn, .ref tu]), (ps, eQ (gP G) 61 pf), (bl, eO 4 [.ref b1, .ref b2]), (b1, eI (gI G) 31 fb), (b2, eI (gI G) 31 fc), (sn, eO 4 [.ref s1, .ref s2]), (s1, eI (gI G) 31 fs), (s2, eI (gI G) 31 fd), (tu, eO 6 [.ref af, .ref ao, .ref a3, .int (nI L.length), .int (b2i of)]), (af, eI (gI G) 20 fr), (ao, eI (gI G) 20 ov), (a3, eI (gI G) 20 tt)]) := by rw [hH, hlocs]; exact hV
  clear hH hlocs hV0
  refine lv_aload_n hx hb d_SG_print_0 rfl (lv_at hl 0 rfl) ?_
  refine u_get hx hb hts inSG hown hK hV hn 0 rfl rfl 2 (by decide) w_fl_SG_26 rfl rfl d_SG_print_1 ?_
  refine lv_aload_n hx hb d_SG_print_4 rfl (lv_at hl 0 rfl) ?_
  refine u_get hx hb hts inSG hown hK hV hn 0 rfl rfl 3 (by decide) w_fl_SG_33 rfl rfl d_SG_print_5 ?_
  refine v_call (va_runV (As := [.ref tw]) (rest := []) ⟨hx, hb, hml, hown, hts⟩ (c_Pr_putTown l G lo _ _ pr bs fo PB tw ps bl b1 b2 sn s1 s2 tu af ao a3 fb fc fs fd fr ov tt L of B S pf Q dy (nd_sub hn [1, 2, 3, 4, 5, 6, 7, 8, 9, 10, 11, 12, 13, 14] (by decide) rfl) (twB_mono hB (fun q h1 _ => vU_hi (cs := [(x, eO 7 [.ref rd, .ref ck, .ref pr, .ref tw, .ref dr, .int wr]), (pr, eO 2 [.ref bs, .int (nI PB.length)]), (bs, eI (gB G) 4880 fo), (tw, eO 5 [.ref ps, .ref bl, .ref sn, .ref tu]), (ps, eQ (gP G) 61 pf), (bl, eO 4 [.ref b1, .ref b2]), (b1, eI (gI G) 31 fb), (b2, eI (gI G) 31 fc), (sn, eO 4 [.ref s1, .ref s2]), (s1, eI (gI G) 31 fs), (s2, eI (gI G) 31 fd), (tu, eO 6 [.ref af, .ref ao, .ref a3, .int (nI L.length), .int (b2i of)]), (af, eI (gI G) 20 fr), (ao, eI (gI G) 20 ov), (a3, eI (gI G) 20 tt)]) hdc h1) (Nat.le_refl _)) (cn_sub hdc [1, 2, 3, 4, 5, 6, 7, 8, 9, 10, 11, 12, 13, 14] rfl) hSb hSs hT hL) (kwV 1 hts w_co_Pr_putTown rfl rfl w_it_Pr w_ml_SG_186 w_im_Pr_putTown w_se_Pr__Pr_putTown (by decide +kernel) ⟨(Nat.le_of_ble_eq_true rfl), (Nat.le_of_ble_eq_true rfl)⟩) (u_preV hK hV hn [1, 2, 3, 4, 5, 6, 7, 8, 9, 10, 11, 12, 13, 14] rfl hz 1 rfl rfl) rfl rfl hl.1 rfl (lv_room (Nat.le_of_ble_eq_true rfl)) d_SG_print_8 ⟨(Nat.le_of_ble_eq_true rfl), (Nat.le_of_ble_eq_true rfl)⟩) hV (fun r9 V9 H locs hp hV hle => ?_)
  obtain ⟨rfl, ⟨g1, rfl, hO9⟩, hz⟩ := hp
  replace hV := u_back hV hn [1, 2, 3, 4, 5, 6, 7, 8, 9, 10, 11, 12, 13, 14] rfl
  have hV : vS G.1 cls lo s H locs (vU V [(x, eO 7 [.ref rd, .ref ck, .ref pr, .ref tw, .ref dr, .int wr]), (pr, eO 2 [.ref bs, .int (nI ((prA (Q, B, S, L)).length))]), (bs, eI (gB G) 4880 g1), (tw, eO 5 [.ref ps, .ref bl, .ref sn, .ref tu]), (ps, eQ (gP G) 61 pf), (bl, eO 4 [.ref b1, .ref b2]), (b1, eI (gI G) 31 fb), (b2, eI (gI G) 31 fc), (sn, eO 4 [.ref s1, .ref s2]), (s1, eI (gI G) 31 fs), (s2, eI (gI G) 31 fd), (tu, eO 6 [.ref af, .ref ao, .ref a3, .int (nI L.length), .int (b2i of)]), (af, eI (gI G) 20 fr), (ao, eI (gI G) 20 ov), (a3, eI (gI G) 20 tt)]) := hV
  refine lv_aload_n hx hb d_SG_print_11 rfl (lv_at hl 0 rfl) ?_
  refine u_get hx hb hts inSG hown hK hV hn 0 rfl rfl 2 (by decide) w_fl_SG_26 rfl rfl d_SG_print_12 ?_
  refine u_get hx hb hts inPr hown hK hV hn 1 rfl rfl 1 (by decide) w_fl_SG_189 rfl rfl d_SG_print_15 ?_
  exact W.iret (v := nI ((prA (Q, B, S, L)).length)) hx hb hr (v_end hV ⟨rfl, ⟨g1, rfl, hO9⟩, hz⟩) hV.2.1.2.2 d_SG_print_18

set_option maxHeartbeats 4000000 in
set_option maxRecDepth 100000 in
/-- sign -/
theorem c_SG_sign (l : Launch) (hlT : l.stackTraces = false) (G : Gx) (lo : Nat) (V : Vw) (sz : Nat) (x rd ck pr tw dr : Nat) (wr : Int32) (tp : Nat) (f : Nat → Int32) (n p : Nat) (hn : [x, rd, tp].Nodup) (h4 : n ≤ 400) (b : Int64) (kk : Int32) : xMet l y_SG_sign ws_SG_sign ({ frames := 6, cells := 1, slots := 6, locals := 130 } : Room) (vPre G lo [.ref x, .long b, .int kk] (vU V [(x, eO 7 [.ref rd, .ref ck, .ref pr, .ref tw, .ref dr, .int wr]), (rd, eO 3 [.ref tp, .int (nI n), .int (nI p)]), (tp, eI (gB G) 400 f)]) sz) (xEnd G lo (fun r V' k => ∃ j, r = some (.int (nI (n + j))) ∧ sgnR n kk = .inr (n + j) ∧ 1 ≤ j ∧ j ≤ 8 ∧ n + j ≤ 400 ∧ V' = vU V [(x, eO 7 [.ref rd, .ref ck, .ref pr, .ref tw, .ref dr, .int wr]), (rd, eO 3 [.ref tp, .int (nI (n + j)), .int (nI p)]), (tp, eI (gB G) 400 (apG b f n j j))] ∧ k = sz) (fun E V' k => xK E eIO eUO (sgnR n kk) ∧ V' = vU V [(x, eO 7 [.ref rd, .ref ck, .ref pr, .ref tw, .ref dr, .int wr]), (rd, eO 3 [.ref tp, .int (nI n), .int (nI p)]), (tp, eI (gB G) 400 f)] ∧ k = sz + 1) 1 6) := by
  refine xMet_of (Rn := RSG) (by decide) rfl (Nat.le_of_ble_eq_true rfl) ?_
  intro pg ev s mi args below meth cd hx hb hr hml hlk hno hts hown hK hz hV ls hl
  have hl : lv_has ls 5 [(0, .ref x), (1, .long b), (3, .int kk)] := hl
  have hV0 := hV
  obtain ⟨H, hH⟩ : ∃ H, H = s.heap := ⟨_, rfl⟩
  obtain ⟨locs, hlocs⟩ : ∃ locs : List Loc, locs = [] := ⟨_, rfl⟩
  rw [← hH, ← hlocs]
  rw [← hH] at hz
  replace hV : vS G.1 cls lo s H locs (vU V [(x, eO 7 [.ref rd, .ref ck, .ref pr, .ref tw, .ref dr, .int wr]), (rd, eO 3 [.ref tp, .int (nI n), .int (nI p)]), (tp, eI (gB G) 400 f)]) := by rw [hH, hlocs]; exact hV
  clear hH hlocs hV0
  refine lv_iload_n hx hb d_SG_sign_0 rfl (lv_at hl 2 rfl) ?_
  refine lv_iconst (v := 1) hx hb d_SG_sign_1 (by decide) ?_
  refine lv_icmp_lt (tgt := 11) hx hb d_SG_sign_2 (by decide) (fun c_1 => ?_) (fun c_1 => ?_)
  · have hR9 : sgnR n kk = .inl 1 := sgnR_1 (Or.inl c_1)
    exact x_throw (E := "java/lang/IndexOutOfBoundsException") hx hb hlT hown (by decide +kernel) hts xa_44 (List.mem_of_getElem? (i := 0) rfl) hK hV (by rw [hml]; exact hl.1) d_SG_sign_11 d_SG_sign_14 d_SG_sign_15 d_SG_sign_17 d_SG_sign_20 hno (Nat.le_of_ble_eq_true rfl) (Nat.le_of_ble_eq_true rfl) (Nat.le_of_ble_eq_true rfl) (Nat.le_of_ble_eq_true rfl) hlk (Nat.le_of_ble_eq_true rfl) (Nat.le_of_ble_eq_true rfl) ⟨Or.inl ⟨rfl, hR9⟩, rfl, by rw [hz]⟩
  · refine lv_iload_n hx hb d_SG_sign_5 rfl (lv_at hl 2 rfl) ?_
    refine lv_bipush (v := 8) hx hb d_SG_sign_6 (by decide) ?_
    refine lv_icmp_le (tgt := 21) hx hb d_SG_sign_8 (by decide) (fun c_2 => ?_) (fun c_2 => ?_)
    · obtain ⟨j, hj1, hj2, e9⟩ := nI_bd (x := kk) (a := 1) (b := 8) (by decide) c_1 (Int32.not_lt.mpr c_2) (by decide)
      subst e9
      refine lv_iload_n hx hb d_SG_sign_21 rfl (lv_at hl 2 rfl) ?_
      refine lv_aload_n hx hb d_SG_sign_22 rfl (lv_at hl 0 rfl) ?_
      refine u_get hx hb hts inSG hown hK hV hn 0 rfl rfl 0 (by decide) w_fl_SG_10 rfl rfl d_SG_sign_23 ?_
      refine v_call (va_runV (As := []) (rest := [.int (nI j)]) ⟨hx, hb, hml, hown, hts⟩ (c_Rd_room l G lo _ _ rd tp f n p (nd_sub hn [1, 2] (by decide) rfl) h4) (kwV 0 hts w_co_Rd_room rfl rfl w_it_Rd w_ml_SG_51 w_im_Rd_room w_se_Rd__Rd_room (by decide +kernel) ⟨(Nat.le_of_ble_eq_true rfl), (Nat.le_of_ble_eq_true rfl)⟩) (u_preV hK hV hn [1, 2] rfl hz 1 rfl rfl) rfl rfl hl.1 rfl (lv_room (Nat.le_of_ble_eq_true rfl)) d_SG_sign_26 ⟨(Nat.le_of_ble_eq_true rfl), (Nat.le_of_ble_eq_true rfl)⟩) hV (fun r9 V9 H locs hp hV hle => ?_)
      obtain ⟨rfl, rfl, hz⟩ := hp
      replace hV := uu_same hV hn [1, 2] rfl
      have hV : vS G.1 cls lo s H locs (vU V [(x, eO 7 [.ref rd, .ref ck, .ref pr, .ref tw, .ref dr, .int wr]), (rd, eO 3 [.ref tp, .int (nI n), .int (nI p)]), (tp, eI (gB G) 400 f)]) := hV
      refine W.eq (g2 := F0 mi 29 ls [.int (nI (400 - n)), .int (nI j)]) rfl ?_
      refine lv_icmp_le (tgt := 42) hx hb d_SG_sign_29 (by decide) (fun c_3 => ?_) (fun c_3 => ?_)
      · replace c_3 : j ≤ 400 - n := (nI_leI (a := j) (b := 400 - n) (by omega) (by omega)).mp c_3
        have hR8 : sgnR n (nI j) = .inr (n + j) := sgnR_3 hj1 hj2 (by omega)
        refine lv_iload_n hx hb d_SG_sign_42 rfl (lv_at hl 2 rfl) ?_
        refine lv_iconst (v := 1) hx hb d_SG_sign_43 (by decide) ?_
        refine e_isub (v := (nI j) - 1) hx hb d_SG_sign_44 (rfl) ?_
        refine lv_istore (lv' := [(4, .int ((nI j) - 1)), (0, .ref x), (1, .long b), (3, .int (nI j))]) hx hb d_SG_sign_45 hl (by decide) rfl (fun ls hl => ?_)
        have loop : ∀ (k : Nat) (c r : Nat), r < k → (c + r = j) → ∀ (H : Heap) (locs : List Loc) (ls : Array Slot), H.size = sz → vS G.1 cls lo s H locs (vU V [(x, eO 7 [.ref rd, .ref ck, .ref pr, .ref tw, .ref dr, .int wr]), (rd, eO 3 [.ref tp, .int (nI (n + c)), .int (nI p)]), (tp, eI (gB G) 400 (apG b f n j c))]) → lv_has ls 5 [(0, .ref x), (1, .long b), (3, .int (nI j)), (4, .int (nI r - 1))] → W pg l ev ({ frames := 6, cells := 1, slots := 6, locals := 130 } : Room) s mi args below meth cd H locs 0 0 (xQ below (xEnd G lo (fun r V' k => ∃ j1, r = some (.int (nI (n + j1))) ∧ sgnR n (nI j) = .inr (n + j1) ∧ 1 ≤ j1 ∧ j1 ≤ 8 ∧ n + j1 ≤ 400 ∧ V' = vU V [(x, eO 7 [.ref rd, .ref ck, .ref pr, .ref tw, .ref dr, .int wr]), (rd, eO 3 [.ref tp, .int (nI (n + j1)), .int (nI p)]), (tp, eI (gB G) 400 (apG b f n j1 j1))] ∧ k = sz) (fun E V' k => xK E eIO eUO (sgnR n (nI j)) ∧ V' = vU V [(x, eO 7 [.ref rd, .ref ck, .ref pr, .ref tw, .ref dr, .int wr]), (rd, eO 3 [.ref tp, .int (nI n), .int (nI p)]), (tp, eI (gB G) 400 f)] ∧ k = sz + 1) 1 6) args s) (F0 mi 47 ls []) := by
          intro k
          induction k with
          | zero => intro c r hk; exact absurd hk (by omega)
          | succ k ih =>
            intro c r hk hcr H locs ls hz hV hl
            refine lv_iload hx hb d_SG_sign_47 (lv_at hl 3 rfl) ?_
            refine lv_if_lt (tgt := 74) hx hb d_SG_sign_49 (by decide) (fun c_4 => ?_) (fun c_4 => ?_)
            · have r0 : r = 0 := (i_pred (by omega)).mp c_4
              have ec : c = j := by omega
              subst ec
              refine lv_aload_n hx hb d_SG_sign_74 rfl (lv_at hl 0 rfl) ?_
              refine u_get hx hb hts inSG hown hK hV hn 0 rfl rfl 0 (by decide) w_fl_SG_10 rfl rfl d_SG_sign_75 ?_
              refine u_get hx hb hts inRd hown hK hV hn 1 rfl rfl 1 (by decide) w_fl_SG_64 rfl rfl d_SG_sign_78 ?_
              refine x_ret ?_
              refine W.widen (k := 1) (n := 6) (by omega) (by omega) ?_
              exact W.iret (v := nI (n + c)) hx hb hr (v_end hV ⟨_, rfl, hR8, hj1, hj2, by omega, rfl, hz⟩) hV.2.1.2.2 d_SG_sign_81
            · have r0 : ¬ r = 0 := fun z => c_4 ((i_pred (by omega)).mpr z)
              obtain ⟨q, rfl⟩ : ∃ q, r = q + 1 := ⟨r - 1, by omega⟩
              rw [show nI (q + 1) - 1 = nI q from nI_sub (a := q + 1) (b := 1) (by omega)] at hl
              refine lv_aload_n hx hb d_SG_sign_52 rfl (lv_at hl 0 rfl) ?_
              refine u_get hx hb hts inSG hown hK hV hn 0 rfl rfl 0 (by decide) w_fl_SG_10 rfl rfl d_SG_sign_53 ?_
              refine lv_lload_n hx hb d_SG_sign_56 rfl (lv_at hl 1 rfl) ?_
              refine lv_bipush (v := 8) hx hb d_SG_sign_57 (by decide) ?_
              refine lv_iload hx hb d_SG_sign_59 (lv_at hl 3 rfl) ?_
              refine e_imul (v := nI (8 * q)) hx hb d_SG_sign_61 (nI_mul 8 q) ?_
              refine lv_lshr (v := b >>> ((nI (8 * q)).toInt64 &&& 63)) hx hb d_SG_sign_62 (rfl) ?_
              refine lv_l2i (v := (b >>> ((nI (8 * q)).toInt64 &&& 63)).toInt32) hx hb d_SG_sign_63 (rfl) ?_
              refine lv_i2b (v := sgB b q) hx hb d_SG_sign_64 (rfl) ?_
              refine v_call (va_runV (As := [.int (sgB b q)]) (rest := []) ⟨hx, hb, hml, hown, hts⟩ (c_Rd_append l G lo _ _ rd tp (apG b f n j c) (n + c) p (sgB b q) (nd_sub hn [1, 2] (by decide) rfl) (by omega)) (kwV 1 hts w_co_Rd_append rfl rfl w_it_Rd w_ml_SG_60 w_im_Rd_append w_se_Rd__Rd_append (by decide +kernel) ⟨(Nat.le_of_ble_eq_true rfl), (Nat.le_of_ble_eq_true rfl)⟩) (u_preV hK hV hn [1, 2] rfl hz 1 rfl rfl) rfl rfl hl.1 rfl (lv_room (Nat.le_of_ble_eq_true rfl)) d_SG_sign_65 ⟨(Nat.le_of_ble_eq_true rfl), (Nat.le_of_ble_eq_true rfl)⟩) hV (fun r9 V9 H locs hp hV hle => ?_)
              obtain ⟨rfl, rfl, hz⟩ := hp
              replace hV := u_back hV hn [1, 2] rfl
              have hV : vS G.1 cls lo s H locs (vU V [(x, eO 7 [.ref rd, .ref ck, .ref pr, .ref tw, .ref dr, .int wr]), (rd, eO 3 [.ref tp, .int (nI (n + c + 1)), .int (nI p)]), (tp, eI (gB G) 400 (upd (apG b f n j c) (n + c) (vp_nar .byte (sgB b q))))]) := hV
              rw [apG_step b f (show c + q + 1 = j by omega)] at hV
              refine lv_iinc (v := nI q - 1) (lv' := [(4, .int (nI q - 1)), (0, .ref x), (1, .long b), (3, .int (nI j))]) hx hb d_SG_sign_68 hl (k := 3) rfl (i_dec q) (by decide) rfl (fun ls hl => ?_)
              refine lv_goto (tgt := 47) hx hb d_SG_sign_71 (by decide) ?_
              exact ih (c + 1) q (by omega) (by omega) H locs ls hz hV (lv_sub hl [1, 2, 3, 0] rfl)
        have hV : vS G.1 cls lo s H locs (vU V [(x, eO 7 [.ref rd, .ref ck, .ref pr, .ref tw, .ref dr, .int wr]), (rd, eO 3 [.ref tp, .int (nI (n + 0)), .int (nI p)]), (tp, eI (gB G) 400 (apG b f n j 0))]) := by rw [apG_0]; exact hV
        exact loop (j + 1) 0 j (by omega) (by omega) H locs ls hz hV (lv_sub hl [1, 2, 3, 0] rfl)
      · replace c_3 : ¬ j ≤ 400 - n := fun z9 => c_3 ((nI_leI (a := j) (b := 400 - n) (by omega) (by omega)).mpr z9)
        have hR9 : sgnR n (nI j) = .inl 2 := sgnR_2 hj1 hj2 (by omega)
        exact x_throw (E := "java/lang/UnsupportedOperationException") hx hb hlT hown (by decide +kernel) hts xa_55 (List.mem_of_getElem? (i := 1) rfl) hK hV (by rw [hml]; exact hl.1) d_SG_sign_32 d_SG_sign_35 d_SG_sign_36 d_SG_sign_38 d_SG_sign_41 hno (Nat.le_of_ble_eq_true rfl) (Nat.le_of_ble_eq_true rfl) (Nat.le_of_ble_eq_true rfl) (Nat.le_of_ble_eq_true rfl) hlk (Nat.le_of_ble_eq_true rfl) (Nat.le_of_ble_eq_true rfl) ⟨Or.inr ⟨rfl, hR9⟩, rfl, by rw [hz]⟩
    · have hR9 : sgnR n kk = .inl 1 := sgnR_1 (Or.inr (Int32.not_le.mp c_2))
      exact x_throw (E := "java/lang/IndexOutOfBoundsException") hx hb hlT hown (by decide +kernel) hts xa_44 (List.mem_of_getElem? (i := 0) rfl) hK hV (by rw [hml]; exact hl.1) d_SG_sign_11 d_SG_sign_14 d_SG_sign_15 d_SG_sign_17 d_SG_sign_20 hno (Nat.le_of_ble_eq_true rfl) (Nat.le_of_ble_eq_true rfl) (Nat.le_of_ble_eq_true rfl) (Nat.le_of_ble_eq_true rfl) hlk (Nat.le_of_ble_eq_true rfl) (Nat.le_of_ble_eq_true rfl) ⟨Or.inl ⟨rfl, hR9⟩, rfl, by rw [hz]⟩
