set_option maxHeartbeats 4000000 in
set_option maxRecDepth 100000 in
/-- read -/
theorem c_SG_read (l : Launch) (hlT : l.stackTraces = false) (G : Gx) (lo : Nat) (V : Vw) (sz : Nat) (x rd tp ck pr tw ps bl b1 b2 sn s1 s2 tu af ao a3 w0 w1 w2 w3 w4 w5 w6 w7 w8 w9 wa wb : Nat) (wr : Int32) (f : Nat → Int32) (t : Nat → Nat) (n p : Nat) (pf gp : Nat → Option Nat) (fb fc fs fd gb gc gs gd fr ov tt g1 g2 g3 : Nat → Int32) (L L1 : List Tri) (of of1 : Bool) (dy : Nat) (A : TnA) (hn : [x, rd, tp, tw, ps, bl, b1, b2, sn, s1, s2, tu, af, ao, a3, w0, w1, w2, w3, w4, w5, w6, w7, w8, w9, wa, wb].Nodup) (hdc : ∀ a ∈ [x, rd, tp, tw, ps, bl, b1, b2, sn, s1, s2, tu, af, ao, a3, w0, w1, w2, w3, w4, w5, w6, w7, w8, w9, wa, wb], a < dy) (hdz : dy ≤ sz) (hB : twB G V dy sz pf A.1) (hSb : spOk fb fc A.2.1) (hSs : spOk fs fd A.2.2.1) (hLA : L = A.2.2.2) (hO : tnOk fr ov tt L) (hL : L.length ≤ 20) (hT : tpOk f t n) (h4 : n ≤ 400) (hp : p ≤ 400) : xMet l y_SG_read ws_SG_read ({ frames := 9, cells := 4 * n + 1, slots := 24 * n + 6, locals := 270 } : Room) (vPre G lo [.ref x] (vU V [(x, eO 7 [.ref rd, .ref ck, .ref pr, .ref tw, .ref w0, .int wr]), (rd, eO 3 [.ref tp, .int (nI n), .int (nI p)]), (tp, eI (gB G) 400 f), (tw, eO 5 [.ref ps, .ref bl, .ref sn, .ref tu]), (ps, eQ (gP G) 61 pf), (bl, eO 4 [.ref b1, .ref b2]), (b1, eI (gI G) 31 fb), (b2, eI (gI G) 31 fc), (sn, eO 4 [.ref s1, .ref s2]), (s1, eI (gI G) 31 fs), (s2, eI (gI G) 31 fd), (tu, eO 6 [.ref af, .ref ao, .ref a3, .int (nI L.length), .int (b2i of)]), (af, eI (gI G) 20 fr), (ao, eI (gI G) 20 ov), (a3, eI (gI G) 20 tt), (w0, eO 5 [.ref w1, .ref w2, .ref w5, .ref w8]), (w1, eQ (gP G) 61 gp), (w2, eO 4 [.ref w3, .ref w4]), (w3, eI (gI G) 31 gb), (w4, eI (gI G) 31 gc), (w5, eO 4 [.ref w6, .ref w7]), (w6, eI (gI G) 31 gs), (w7, eI (gI G) 31 gd), (w8, eO 6 [.ref w9, .ref wa, .ref wb, .int (nI L1.length), .int (b2i of1)]), (w9, eI (gI G) 20 g1), (wa, eI (gI G) 20 g2), (wb, eI (gI G) 20 g3)]) sz) (xEnd G lo (fun r V' k => ∃ A2, rdR t n A = .inr A2 ∧ r = some (.int (nI (cnt (fun j => (A2.1 j).isSome) 60))) ∧ ∃ (V9 : Vw) (pp : Nat) (pf2 : Nat → Option Nat) (fb2 fc2 fs2 fd2 fr2 ov2 tt2 : Nat → Int32) (L2 : List Tri) (of2 : Bool), V' = vU V9 [(x, eO 7 [.ref rd, .ref ck, .ref pr, .ref w0, .ref tw, .int ((-1))]), (rd, eO 3 [.ref tp, .int (nI 0), .int (nI pp)]), (tp, eI (gB G) 400 f), (tw, eO 5 [.ref ps, .ref bl, .ref sn, .ref tu]), (ps, eQ (gP G) 61 pf), (bl, eO 4 [.ref b1, .ref b2]), (b1, eI (gI G) 31 fb), (b2, eI (gI G) 31 fc), (sn, eO 4 [.ref s1, .ref s2]), (s1, eI (gI G) 31 fs), (s2, eI (gI G) 31 fd), (tu, eO 6 [.ref af, .ref ao, .ref a3, .int (nI L.length), .int (b2i of)]), (af, eI (gI G) 20 fr), (ao, eI (gI G) 20 ov), (a3, eI (gI G) 20 tt), (w0, eO 5 [.ref w1, .ref w2, .ref w5, .ref w8]), (w1, eQ (gP G) 61 pf2), (w2, eO 4 [.ref w3, .ref w4]), (w3, eI (gI G) 31 fb2), (w4, eI (gI G) 31 fc2), (w5, eO 4 [.ref w6, .ref w7]), (w6, eI (gI G) 31 fs2), (w7, eI (gI G) 31 fd2), (w8, eO 6 [.ref w9, .ref wa, .ref wb, .int (nI L2.length), .int (b2i of2)]), (w9, eI (gI G) 20 fr2), (wa, eI (gI G) 20 ov2), (wb, eI (gI G) 20 tt2)] ∧ (∀ q, q < sz → V9 q = V q) ∧ sz ≤ k ∧ pp ≤ 400 ∧ L2.length ≤ 20 ∧ tnOk fr2 ov2 tt2 L2 ∧ L2 = A2.2.2.2 ∧ twB G V9 dy k pf2 A2.1 ∧ spOk fb2 fc2 A2.2.1 ∧ spOk fs2 fd2 A2.2.2.1) (fun E V' k => xK E eIS eUO (rdR t n A) ∧ ∃ (V9 : Vw) (pp : Nat) (pf2 : Nat → Option Nat) (fb2 fc2 fs2 fd2 fr2 ov2 tt2 : Nat → Int32) (L2 : List Tri) (of2 : Bool), V' = vU V9 [(x, eO 7 [.ref rd, .ref ck, .ref pr, .ref tw, .ref w0, .int (txI (txtR t n A))]), (rd, eO 3 [.ref tp, .int (nI 0), .int (nI pp)]), (tp, eI (gB G) 400 f), (tw, eO 5 [.ref ps, .ref bl, .ref sn, .ref tu]), (ps, eQ (gP G) 61 pf), (bl, eO 4 [.ref b1, .ref b2]), (b1, eI (gI G) 31 fb), (b2, eI (gI G) 31 fc), (sn, eO 4 [.ref s1, .ref s2]), (s1, eI (gI G) 31 fs), (s2, eI (gI G) 31 fd), (tu, eO 6 [.ref af, .ref ao, .ref a3, .int (nI L.length), .int (b2i of)]), (af, eI (gI G) 20 fr), (ao, eI (gI G) 20 ov), (a3, eI (gI G) 20 tt), (w0, eO 5 [.ref w1, .ref w2, .ref w5, .ref w8]), (w1, eQ (gP G) 61 pf2), (w2, eO 4 [.ref w3, .ref w4]), (w3, eI (gI G) 31 fb2), (w4, eI (gI G) 31 fc2), (w5, eO 4 [.ref w6, .ref w7]), (w6, eI (gI G) 31 fs2), (w7, eI (gI G) 31 fd2), (w8, eO 6 [.ref w9, .ref wa, .ref wb, .int (nI L2.length), .int (b2i of2)]), (w9, eI (gI G) 20 fr2), (wa, eI (gI G) 20 ov2), (wb, eI (gI G) 20 tt2)] ∧ (∀ q, q < sz → V9 q = V q) ∧ sz ≤ k ∧ pp ≤ 400 ∧ L2.length ≤ 20) (4 * n + 1) (24 * n + 6)) := by
  refine xMet_of (Rn := RSG) (by decide) rfl (Nat.le_of_ble_eq_true rfl) ?_
  intro pg ev s mi args below meth cd hx hb hr hml hlk hno hts hown hK hz hV ls hl
  have hl : lv_has ls 2 [(0, .ref x)] := hl
  have hV0 := hV
  obtain ⟨H, hH⟩ : ∃ H, H = s.heap := ⟨_, rfl⟩
  obtain ⟨locs, hlocs⟩ : ∃ locs : List Loc, locs = [] := ⟨_, rfl⟩
  rw [← hH, ← hlocs]
  rw [← hH] at hz
  replace hV : vS G.1 cls lo s H locs (vU V [(x, eO 7 [.ref rd, .ref ck, .ref pr, .ref tw, .ref w0, .int wr]), (rd, eO 3 [.ref tp, .int (nI n), .int (nI p)]), (tp, eI (gB G) 400 f), (tw, eO 5 [.ref ps, .ref bl, .ref sn, .ref tu]), (ps, eQ (gP G) 61 pf), (bl, eO 4 [.ref b1, .ref b2]), (b1, eI (gI G) 31 fb), (b2, eI (gI G) 31 fc), (sn, eO 4 [.ref s1, .ref s2]), (s1, eI (gI G) 31 fs), (s2, eI (gI G) 31 fd), (tu, eO 6 [.ref af, .ref ao, .ref a3, .int (nI L.length), .int (b2i of)]), (af, eI (gI G) 20 fr), (ao, eI (gI G) 20 ov), (a3, eI (gI G) 20 tt), (w0, eO 5 [.ref w1, .ref w2, .ref w5, .ref w8]), (w1, eQ (gP G) 61 gp), (w2, eO 4 [.ref w3, .ref w4]), (w3, eI (gI G) 31 gb), (w4, eI (gI G) 31 gc), (w5, eO 4 [.ref w6, .ref w7]), (w6, eI (gI G) 31 gs), (w7, eI (gI G) 31 gd), (w8, eO 6 [.ref w9, .ref wa, .ref wb, .int (nI L1.length), .int (b2i of1)]), (w9, eI (gI G) 20 g1), (wa, eI (gI G) 20 g2), (wb, eI (gI G) 20 g3)]) := by rw [hH, hlocs]; exact hV
  clear hH hlocs hV0
  have d_0_ := hdc x (List.mem_of_getElem? (i := 0) rfl)
  have d_1_ := hdc rd (List.mem_of_getElem? (i := 1) rfl)
  have d_2_ := hdc tp (List.mem_of_getElem? (i := 2) rfl)
  have d_3_ := hdc tw (List.mem_of_getElem? (i := 3) rfl)
  have d_4_ := hdc ps (List.mem_of_getElem? (i := 4) rfl)
  have d_5_ := hdc bl (List.mem_of_getElem? (i := 5) rfl)
  have d_6_ := hdc b1 (List.mem_of_getElem? (i := 6) rfl)
  have d_7_ := hdc b2 (List.mem_of_getElem? (i := 7) rfl)
  have d_8_ := hdc sn (List.mem_of_getElem? (i := 8) rfl)
  have d_9_ := hdc s1 (List.mem_of_getElem? (i := 9) rfl)
  have d_10_ := hdc s2 (List.mem_of_getElem? (i := 10) rfl)
  have d_11_ := hdc tu (List.mem_of_getElem? (i := 11) rfl)
  have d_12_ := hdc af (List.mem_of_getElem? (i := 12) rfl)
  have d_13_ := hdc ao (List.mem_of_getElem? (i := 13) rfl)
  have d_14_ := hdc a3 (List.mem_of_getElem? (i := 14) rfl)
  have d_15_ := hdc w0 (List.mem_of_getElem? (i := 15) rfl)
  have d_16_ := hdc w1 (List.mem_of_getElem? (i := 16) rfl)
  have d_17_ := hdc w2 (List.mem_of_getElem? (i := 17) rfl)
  have d_18_ := hdc w3 (List.mem_of_getElem? (i := 18) rfl)
  have d_19_ := hdc w4 (List.mem_of_getElem? (i := 19) rfl)
  have d_20_ := hdc w5 (List.mem_of_getElem? (i := 20) rfl)
  have d_21_ := hdc w6 (List.mem_of_getElem? (i := 21) rfl)
  have d_22_ := hdc w7 (List.mem_of_getElem? (i := 22) rfl)
  have d_23_ := hdc w8 (List.mem_of_getElem? (i := 23) rfl)
  have d_24_ := hdc w9 (List.mem_of_getElem? (i := 24) rfl)
  have d_25_ := hdc wa (List.mem_of_getElem? (i := 25) rfl)
  have d_26_ := hdc wb (List.mem_of_getElem? (i := 26) rfl)
  refine lv_aload_n hx hb d_SG_read_0 rfl (lv_at hl 0 rfl) ?_
  refine u_get hx hb hts inSG hown hK hV hn 0 rfl rfl 4 (by decide) w_fl_SG_37 rfl rfl d_SG_read_1 ?_
  refine lv_aload_n hx hb d_SG_read_4 rfl (lv_at hl 0 rfl) ?_
  refine u_get hx hb hts inSG hown hK hV hn 0 rfl rfl 3 (by decide) w_fl_SG_33 rfl rfl d_SG_read_5 ?_
  refine v_call (va_runV (As := [.ref tw]) (rest := []) ⟨hx, hb, hml, hown, hts⟩ (c_Tw_copyFrom l G lo _ _ w0 w1 w2 w3 w4 w5 w6 w7 w8 w9 wa wb tw ps bl b1 b2 sn s1 s2 tu af ao a3 gp pf gb gc gs gd fb fc fs fd g1 g2 g3 fr ov tt L1 L of1 of dy (nd_sub hn [15, 16, 17, 18, 19, 20, 21, 22, 23, 24, 25, 26, 3, 4, 5, 6, 7, 8, 9, 10, 11, 12, 13, 14] (by decide) rfl) (by omega) (twB_pc hB hdc) hO hL) (kwV 1 hts w_co_Tw_copyFrom rfl rfl w_it_Tw w_ml_SG_67 w_im_Tw_copyFrom w_se_Tw__Tw_copyFrom (by decide +kernel) ⟨(Nat.le_of_ble_eq_true rfl), (Nat.le_of_ble_eq_true rfl)⟩) (u_preV hK hV hn [15, 16, 17, 18, 19, 20, 21, 22, 23, 24, 25, 26, 3, 4, 5, 6, 7, 8, 9, 10, 11, 12, 13, 14] rfl hz 15 rfl rfl) rfl rfl hl.1 rfl (lv_room (Nat.le_of_ble_eq_true rfl)) d_SG_read_8 ⟨by show _ ≤ 4 * n + 1; omega, by show _ ≤ 24 * n + 6; omega⟩) hV (fun r9 V9 H locs hp hV hle => ?_)
  obtain ⟨rfl, ⟨f1, f2, f3, rfl, hO3⟩, hz⟩ := hp
  replace hV := u_back hV hn [15, 16, 17, 18, 19, 20, 21, 22, 23, 24, 25, 26, 3, 4, 5, 6, 7, 8, 9, 10, 11, 12, 13, 14] rfl
  have hV : vS G.1 cls lo s H locs (vU V [(x, eO 7 [.ref rd, .ref ck, .ref pr, .ref tw, .ref w0, .int wr]), (rd, eO 3 [.ref tp, .int (nI n), .int (nI p)]), (tp, eI (gB G) 400 f), (tw, eO 5 [.ref ps, .ref bl, .ref sn, .ref tu]), (ps, eQ (gP G) 61 pf), (bl, eO 4 [.ref b1, .ref b2]), (b1, eI (gI G) 31 fb), (b2, eI (gI G) 31 fc), (sn, eO 4 [.ref s1, .ref s2]), (s1, eI (gI G) 31 fs), (s2, eI (gI G) 31 fd), (tu, eO 6 [.ref af, .ref ao, .ref a3, .int (nI L.length), .int (b2i of)]), (af, eI (gI G) 20 fr), (ao, eI (gI G) 20 ov), (a3, eI (gI G) 20 tt), (w0, eO 5 [.ref w1, .ref w2, .ref w5, .ref w8]), (w1, eQ (gP G) 61 (cp1 pf gp 60)), (w2, eO 4 [.ref w3, .ref w4]), (w3, eI (gI G) 31 (cp1 fb gb 30)), (w4, eI (gI G) 31 (cp1 fc gc 30)), (w5, eO 4 [.ref w6, .ref w7]), (w6, eI (gI G) 31 (cp1 fs gs 30)), (w7, eI (gI G) 31 (cp1 fd gd 30)), (w8, eO 6 [.ref w9, .ref wa, .ref wb, .int (nI L.length), .int (b2i false)]), (w9, eI (gI G) 20 f1), (wa, eI (gI G) 20 f2), (wb, eI (gI G) 20 f3)]) := hV
  refine lv_aload_n hx hb d_SG_read_11 rfl (lv_at hl 0 rfl) ?_
  refine lv_aload_n hx hb d_SG_read_12 rfl (lv_at hl 0 rfl) ?_
  refine u_get hx hb hts inSG hown hK hV hn 0 rfl rfl 0 (by decide) w_fl_SG_10 rfl rfl d_SG_read_13 ?_
  refine lv_aload_n hx hb d_SG_read_16 rfl (lv_at hl 0 rfl) ?_
  refine u_get hx hb hts inSG hown hK hV hn 0 rfl rfl 4 (by decide) w_fl_SG_37 rfl rfl d_SG_read_17 ?_
  refine v_call (va_runV (As := [.ref w0]) (rest := [.ref x]) ⟨hx, hb, hml, hown, hts⟩ (c_Rd_readInto l G lo _ _ rd tp f t n p w0 w1 w2 w3 w4 w5 w6 w7 w8 w9 wa wb (cp1 pf gp 60) (cp1 fb gb 30) (cp1 fc gc 30) (cp1 fs gs 30) (cp1 fd gd 30) f1 f2 f3 L false dy A (nd_sub hn [1, 2, 15, 16, 17, 18, 19, 20, 21, 22, 23, 24, 25, 26] (by decide) rfl) (by omega) (twA_eff (twA_cp hB hSb hSs hLA hL) hdc) hO3 hL hT h4 hp) (kwV 1 hts w_co_Rd_readInto rfl rfl w_it_Rd w_ml_SG_71 w_im_Rd_readInto w_se_Rd__Rd_readInto (by decide +kernel) ⟨(Nat.le_of_ble_eq_true rfl), (Nat.le_of_ble_eq_true rfl)⟩) (u_preV hK hV hn [1, 2, 15, 16, 17, 18, 19, 20, 21, 22, 23, 24, 25, 26] rfl hz 1 rfl rfl) rfl rfl hl.1 rfl (lv_room (Nat.le_of_ble_eq_true rfl)) d_SG_read_20 ⟨by show _ ≤ 4 * n + 1; omega, by show _ ≤ 24 * n + 6; omega⟩) hV (fun r9 V9 H locs hp hV hle => ?_)
  obtain ⟨rfl, V9, pp, pf2, fb2, fc2, fs2, fd2, fr2, ov2, tt2, L2, of2, rfl, hV9, hk1, hpp, hO2, hL2, hA2⟩ := hp
  obtain ⟨V10, h10, h11, e10⟩ := vU_reb hV9 (fun a ha => Nat.lt_of_lt_of_le (hdc a ha) hdz)
  rw [← e10] at hV
  replace hV := u_back hV hn [1, 2, 15, 16, 17, 18, 19, 20, 21, 22, 23, 24, 25, 26] rfl
  have hV : vS G.1 cls lo s H locs (vU V10 [(x, eO 7 [.ref rd, .ref ck, .ref pr, .ref tw, .ref w0, .int wr]), (rd, eO 3 [.ref tp, .int (nI 0), .int (nI pp)]), (tp, eI (gB G) 400 f), (tw, eO 5 [.ref ps, .ref bl, .ref sn, .ref tu]), (ps, eQ (gP G) 61 pf), (bl, eO 4 [.ref b1, .ref b2]), (b1, eI (gI G) 31 fb), (b2, eI (gI G) 31 fc), (sn, eO 4 [.ref s1, .ref s2]), (s1, eI (gI G) 31 fs), (s2, eI (gI G) 31 fd), (tu, eO 6 [.ref af, .ref ao, .ref a3, .int (nI L.length), .int (b2i of)]), (af, eI (gI G) 20 fr), (ao, eI (gI G) 20 ov), (a3, eI (gI G) 20 tt), (w0, eO 5 [.ref w1, .ref w2, .ref w5, .ref w8]), (w1, eQ (gP G) 61 pf2), (w2, eO 4 [.ref w3, .ref w4]), (w3, eI (gI G) 31 fb2), (w4, eI (gI G) 31 fc2), (w5, eO 4 [.ref w6, .ref w7]), (w6, eI (gI G) 31 fs2), (w7, eI (gI G) 31 fd2), (w8, eO 6 [.ref w9, .ref wa, .ref wb, .int (nI L2.length), .int (b2i of2)]), (w9, eI (gI G) 20 fr2), (wa, eI (gI G) 20 ov2), (wb, eI (gI G) 20 tt2)]) := hV
  obtain ⟨k9, hz⟩ : ∃ k9, H.size = k9 := ⟨_, rfl⟩
  rw [hz] at hk1 hA2
  have hV : vS G.1 cls lo s H locs (vU V10 [(x, eO 7 [.ref rd, .ref ck, .ref pr, .ref tw, .ref w0, .int wr]), (rd, eO 3 [.ref tp, .int (nI 0), .int (nI pp)]), (tp, eI (gB G) 400 f), (tw, eO 5 [.ref ps, .ref bl, .ref sn, .ref tu]), (ps, eQ (gP G) 61 pf), (bl, eO 4 [.ref b1, .ref b2]), (b1, eI (gI G) 31 fb), (b2, eI (gI G) 31 fc), (sn, eO 4 [.ref s1, .ref s2]), (s1, eI (gI G) 31 fs), (s2, eI (gI G) 31 fd), (tu, eO 6 [.ref af, .ref ao, .ref a3, .int (nI L.length), .int (b2i of)]), (af, eI (gI G) 20 fr), (ao, eI (gI G) 20 ov), (a3, eI (gI G) 20 tt), (w0, eO 5 [.ref w1, .ref w2, .ref w5, .ref w8]), (w1, eQ (gP G) 61 pf2), (w2, eO 4 [.ref w3, .ref w4]), (w3, eI (gI G) 31 fb2), (w4, eI (gI G) 31 fc2), (w5, eO 4 [.ref w6, .ref w7]), (w6, eI (gI G) 31 fs2), (w7, eI (gI G) 31 fd2), (w8, eO 6 [.ref w9, .ref wa, .ref wb, .int (nI L2.length), .int (b2i of2)]), (w9, eI (gI G) 20 fr2), (wa, eI (gI G) 20 ov2), (wb, eI (gI G) 20 tt2)]) := hV
  refine W.eq (g2 := F0 mi 23 ls [.int (txI (txtR t n A)), .ref x]) rfl ?_
  rcases hX : txtR t n A with e | A2
  · have he := txtR_er hX
    have hR9 := rdR_1 hX
    refine W.eq (g2 := F0 mi 23 ls [.int (nI e), .ref x]) (by rfl <;> rfl) ?_
    refine u_put hx hb hts inSG tySG tySG_ok nmSG hown hK hV hn 0 rfl rfl 5 (by decide) w_fl_SG_40 rfl rfl rfl rfl (Nat.le_of_ble_eq_true rfl) d_SG_read_23 (fun H locs hV hz9 => ?_)
    have hV : vS G.1 cls lo s H locs (vU V10 [(x, eO 7 [.ref rd, .ref ck, .ref pr, .ref tw, .ref w0, .int (nI e)]), (rd, eO 3 [.ref tp, .int (nI 0), .int (nI pp)]), (tp, eI (gB G) 400 f), (tw, eO 5 [.ref ps, .ref bl, .ref sn, .ref tu]), (ps, eQ (gP G) 61 pf), (bl, eO 4 [.ref b1, .ref b2]), (b1, eI (gI G) 31 fb), (b2, eI (gI G) 31 fc), (sn, eO 4 [.ref s1, .ref s2]), (s1, eI (gI G) 31 fs), (s2, eI (gI G) 31 fd), (tu, eO 6 [.ref af, .ref ao, .ref a3, .int (nI L.length), .int (b2i of)]), (af, eI (gI G) 20 fr), (ao, eI (gI G) 20 ov), (a3, eI (gI G) 20 tt), (w0, eO 5 [.ref w1, .ref w2, .ref w5, .ref w8]), (w1, eQ (gP G) 61 pf2), (w2, eO 4 [.ref w3, .ref w4]), (w3, eI (gI G) 31 fb2), (w4, eI (gI G) 31 fc2), (w5, eO 4 [.ref w6, .ref w7]), (w6, eI (gI G) 31 fs2), (w7, eI (gI G) 31 fd2), (w8, eO 6 [.ref w9, .ref wa, .ref wb, .int (nI L2.length), .int (b2i of2)]), (w9, eI (gI G) 20 fr2), (wa, eI (gI G) 20 ov2), (wb, eI (gI G) 20 tt2)]) := hV
    replace hz := hz9.trans hz
    refine lv_aload_n hx hb d_SG_read_26 rfl (lv_at hl 0 rfl) ?_
    refine u_get hx hb hts inSG hown hK hV hn 0 rfl rfl 5 (by decide) w_fl_SG_40 rfl rfl d_SG_read_27 ?_
    refine lv_iconst (v := (-1)) hx hb d_SG_read_30 (by decide) ?_
    refine lv_icmp_eq (tgt := 44) hx hb d_SG_read_31 (by decide) (fun c_1 => absurd c_1 (nI_nem (by omega))) (fun _ => ?_)
    exact x_throw (E := "java/lang/IllegalStateException") hx hb hlT hown (by decide +kernel) hts xa_75 (List.mem_of_getElem? (i := 2) rfl) hK hV (by rw [hml]; exact hl.1) d_SG_read_34 d_SG_read_37 d_SG_read_38 d_SG_read_40 d_SG_read_43 hno (Nat.le_of_ble_eq_true rfl) (Nat.le_of_ble_eq_true rfl) (by show 0 + 4 * n + 1 ≤ 4 * n + 1; omega) (by show 0 + 24 * n + 6 ≤ 24 * n + 6; omega) hlk (by omega) (by omega) ⟨Or.inl ⟨rfl, hR9⟩, V10, pp, pf2, fb2, fc2, fs2, fd2, fr2, ov2, tt2, L2, of2, by rw [hX]; rfl, h10, by rw [hz]; omega, hpp, hL2⟩
  · have hA3 := twA_reb (hA2 _ hX) hdc hV9 h10 h11
    obtain ⟨hB2, hS1, hS2, hl1, hl2⟩ := hA3
    refine W.eq (g2 := F0 mi 23 ls [.int ((-1)), .ref x]) (by rfl <;> rfl) ?_
    refine u_put hx hb hts inSG tySG tySG_ok nmSG hown hK hV hn 0 rfl rfl 5 (by decide) w_fl_SG_40 rfl rfl rfl rfl (Nat.le_of_ble_eq_true rfl) d_SG_read_23 (fun H locs hV hz9 => ?_)
    have hV : vS G.1 cls lo s H locs (vU V10 [(x, eO 7 [.ref rd, .ref ck, .ref pr, .ref tw, .ref w0, .int ((-1))]), (rd, eO 3 [.ref tp, .int (nI 0), .int (nI pp)]), (tp, eI (gB G) 400 f), (tw, eO 5 [.ref ps, .ref bl, .ref sn, .ref tu]), (ps, eQ (gP G) 61 pf), (bl, eO 4 [.ref b1, .ref b2]), (b1, eI (gI G) 31 fb), (b2, eI (gI G) 31 fc), (sn, eO 4 [.ref s1, .ref s2]), (s1, eI (gI G) 31 fs), (s2, eI (gI G) 31 fd), (tu, eO 6 [.ref af, .ref ao, .ref a3, .int (nI L.length), .int (b2i of)]), (af, eI (gI G) 20 fr), (ao, eI (gI G) 20 ov), (a3, eI (gI G) 20 tt), (w0, eO 5 [.ref w1, .ref w2, .ref w5, .ref w8]), (w1, eQ (gP G) 61 pf2), (w2, eO 4 [.ref w3, .ref w4]), (w3, eI (gI G) 31 fb2), (w4, eI (gI G) 31 fc2), (w5, eO 4 [.ref w6, .ref w7]), (w6, eI (gI G) 31 fs2), (w7, eI (gI G) 31 fd2), (w8, eO 6 [.ref w9, .ref wa, .ref wb, .int (nI L2.length), .int (b2i of2)]), (w9, eI (gI G) 20 fr2), (wa, eI (gI G) 20 ov2), (wb, eI (gI G) 20 tt2)]) := hV
    replace hz := hz9.trans hz
    refine lv_aload_n hx hb d_SG_read_26 rfl (lv_at hl 0 rfl) ?_
    refine u_get hx hb hts inSG hown hK hV hn 0 rfl rfl 5 (by decide) w_fl_SG_40 rfl rfl d_SG_read_27 ?_
    refine lv_iconst (v := (-1)) hx hb d_SG_read_30 (by decide) ?_
    refine lv_icmp_eq (tgt := 44) hx hb d_SG_read_31 (by decide) (fun _ => ?_) (fun c_2 => absurd c_2 (by decide))
    refine lv_aload_n hx hb d_SG_read_44 rfl (lv_at hl 0 rfl) ?_
    refine u_get hx hb hts inSG hown hK hV hn 0 rfl rfl 4 (by decide) w_fl_SG_37 rfl rfl d_SG_read_45 ?_
    refine u_get hx hb hts inTw hown hK hV hn 15 rfl rfl 3 (by decide) w_fl_SG_80 rfl rfl d_SG_read_48 ?_
    refine u_get hx hb hts inTn hown hK hV hn 23 rfl rfl 4 (by decide) w_fl_SG_84 rfl rfl d_SG_read_51 ?_
    refine lv_if_eq (tgt := 67) hx hb d_SG_read_54 (by decide) (fun c_3 => ?_) (fun c_3 => ?_)
    · have hof := b2i_0 c_3
      rw [hof] at hl2
      have hle : ¬ 20 < A2.2.2.2.length := of_decide_eq_false hl2.symm
      have hR8 := rdR_3 hX hle
      have hLL : L2 = A2.2.2.2 := by rw [hl1]; exact List.take_of_length_le (by omega)
      refine lv_aload_n hx hb d_SG_read_67 rfl (lv_at hl 0 rfl) ?_
      refine u_get hx hb hts inSG hown hK hV hn 0 rfl rfl 3 (by decide) w_fl_SG_33 rfl rfl d_SG_read_68 ?_
      refine lv_astore_n (lv' := [(1, .ref tw), (0, .ref x)]) hx hb d_SG_read_71 rfl hl (by decide) rfl (fun ls hl => ?_)
      refine lv_aload_n hx hb d_SG_read_72 rfl (lv_at hl 1 rfl) ?_
      refine lv_aload_n hx hb d_SG_read_73 rfl (lv_at hl 1 rfl) ?_
      refine u_get hx hb hts inSG hown hK hV hn 0 rfl rfl 4 (by decide) w_fl_SG_37 rfl rfl d_SG_read_74 ?_
      refine u_put hx hb hts inSG tySG tySG_ok nmSG hown hK hV hn 0 rfl rfl 3 (by decide) w_fl_SG_33 rfl rfl rfl rfl (Nat.le_of_ble_eq_true rfl) d_SG_read_77 (fun H locs hV hz9 => ?_)
      have hV : vS G.1 cls lo s H locs (vU V10 [(x, eO 7 [.ref rd, .ref ck, .ref pr, .ref w0, .ref w0, .int ((-1))]), (rd, eO 3 [.ref tp, .int (nI 0), .int (nI pp)]), (tp, eI (gB G) 400 f), (tw, eO 5 [.ref ps, .ref bl, .ref sn, .ref tu]), (ps, eQ (gP G) 61 pf), (bl, eO 4 [.ref b1, .ref b2]), (b1, eI (gI G) 31 fb), (b2, eI (gI G) 31 fc), (sn, eO 4 [.ref s1, .ref s2]), (s1, eI (gI G) 31 fs), (s2, eI (gI G) 31 fd), (tu, eO 6 [.ref af, .ref ao, .ref a3, .int (nI L.length), .int (b2i of)]), (af, eI (gI G) 20 fr), (ao, eI (gI G) 20 ov), (a3, eI (gI G) 20 tt), (w0, eO 5 [.ref w1, .ref w2, .ref w5, .ref w8]), (w1, eQ (gP G) 61 pf2), (w2, eO 4 [.ref w3, .ref w4]), (w3, eI (gI G) 31 fb2), (w4, eI (gI G) 31 fc2), (w5, eO 4 [.ref w6, .ref w7]), (w6, eI (gI G) 31 fs2), (w7, eI (gI G) 31 fd2), (w8, eO 6 [.ref w9, .ref wa, .ref wb, .int (nI L2.length), .int (b2i of2)]), (w9, eI (gI G) 20 fr2), (wa, eI (gI G) 20 ov2), (wb, eI (gI G) 20 tt2)]) := hV
      replace hz := hz9.trans hz
      refine lv_aload_n hx hb d_SG_read_80 rfl (lv_at hl 1 rfl) ?_
      refine lv_aload_n hx hb d_SG_read_81 rfl (lv_at hl 0 rfl) ?_
      refine u_put hx hb hts inSG tySG tySG_ok nmSG hown hK hV hn 0 rfl rfl 4 (by decide) w_fl_SG_37 rfl rfl rfl rfl (Nat.le_of_ble_eq_true rfl) d_SG_read_82 (fun H locs hV hz9 => ?_)
      have hV : vS G.1 cls lo s H locs (vU V10 [(x, eO 7 [.ref rd, .ref ck, .ref pr, .ref w0, .ref tw, .int ((-1))]), (rd, eO 3 [.ref tp, .int (nI 0), .int (nI pp)]), (tp, eI (gB G) 400 f), (tw, eO 5 [.ref ps, .ref bl, .ref sn, .ref tu]), (ps, eQ (gP G) 61 pf), (bl, eO 4 [.ref b1, .ref b2]), (b1, eI (gI G) 31 fb), (b2, eI (gI G) 31 fc), (sn, eO 4 [.ref s1, .ref s2]), (s1, eI (gI G) 31 fs), (s2, eI (gI G) 31 fd), (tu, eO 6 [.ref af, .ref ao, .ref a3, .int (nI L.length), .int (b2i of)]), (af, eI (gI G) 20 fr), (ao, eI (gI G) 20 ov), (a3, eI (gI G) 20 tt), (w0, eO 5 [.ref w1, .ref w2, .ref w5, .ref w8]), (w1, eQ (gP G) 61 pf2), (w2, eO 4 [.ref w3, .ref w4]), (w3, eI (gI G) 31 fb2), (w4, eI (gI G) 31 fc2), (w5, eO 4 [.ref w6, .ref w7]), (w6, eI (gI G) 31 fs2), (w7, eI (gI G) 31 fd2), (w8, eO 6 [.ref w9, .ref wa, .ref wb, .int (nI L2.length), .int (b2i of2)]), (w9, eI (gI G) 20 fr2), (wa, eI (gI G) 20 ov2), (wb, eI (gI G) 20 tt2)]) := hV
      replace hz := hz9.trans hz
      refine lv_aload_n hx hb d_SG_read_85 rfl (lv_at hl 1 rfl) ?_
      refine u_get hx hb hts inSG hown hK hV hn 0 rfl rfl 3 (by decide) w_fl_SG_33 rfl rfl d_SG_read_86 ?_
      refine v_call (va_runV (As := []) (rest := []) ⟨hx, hb, hml, hown, hts⟩ (c_Tw_pieceCount l G lo _ _ w0 w1 w2 w5 w8 pf2 (nd_sub hn [15, 16] (by decide) rfl)) (kwV 0 hts w_co_Tw_pieceCount rfl rfl w_it_Tw w_ml_SG_92 w_im_Tw_pieceCount w_se_Tw__Tw_pieceCount (by decide +kernel) ⟨(Nat.le_of_ble_eq_true rfl), (Nat.le_of_ble_eq_true rfl)⟩) (u_preV hK hV hn [15, 16] rfl hz 15 rfl rfl) rfl rfl hl.1 rfl (lv_room (Nat.le_of_ble_eq_true rfl)) d_SG_read_89 ⟨by show _ ≤ 4 * n + 1; omega, by show _ ≤ 24 * n + 6; omega⟩) hV (fun r9 V9 H locs hp hV hle => ?_)
      obtain ⟨rfl, rfl, hz⟩ := hp
      replace hV := uu_same hV hn [15, 16] rfl
      have hV : vS G.1 cls lo s H locs (vU V10 [(x, eO 7 [.ref rd, .ref ck, .ref pr, .ref w0, .ref tw, .int ((-1))]), (rd, eO 3 [.ref tp, .int (nI 0), .int (nI pp)]), (tp, eI (gB G) 400 f), (tw, eO 5 [.ref ps, .ref bl, .ref sn, .ref tu]), (ps, eQ (gP G) 61 pf), (bl, eO 4 [.ref b1, .ref b2]), (b1, eI (gI G) 31 fb), (b2, eI (gI G) 31 fc), (sn, eO 4 [.ref s1, .ref s2]), (s1, eI (gI G) 31 fs), (s2, eI (gI G) 31 fd), (tu, eO 6 [.ref af, .ref ao, .ref a3, .int (nI L.length), .int (b2i of)]), (af, eI (gI G) 20 fr), (ao, eI (gI G) 20 ov), (a3, eI (gI G) 20 tt), (w0, eO 5 [.ref w1, .ref w2, .ref w5, .ref w8]), (w1, eQ (gP G) 61 pf2), (w2, eO 4 [.ref w3, .ref w4]), (w3, eI (gI G) 31 fb2), (w4, eI (gI G) 31 fc2), (w5, eO 4 [.ref w6, .ref w7]), (w6, eI (gI G) 31 fs2), (w7, eI (gI G) 31 fd2), (w8, eO 6 [.ref w9, .ref wa, .ref wb, .int (nI L2.length), .int (b2i of2)]), (w9, eI (gI G) 20 fr2), (wa, eI (gI G) 20 ov2), (wb, eI (gI G) 20 tt2)]) := hV
      refine W.eq (g2 := F0 mi 92 ls [.int (nI (cnt (fun j => (pf2 j).isSome) 60))]) rfl ?_
      refine x_ret ?_
      refine W.widen (k := 4 * n + 1) (n := 24 * n + 6) (by omega) (by omega) ?_
      exact W.iret (v := nI (cnt (fun j => (pf2 j).isSome) 60)) hx hb hr (v_end hV ⟨A2, hR8, by rw [cnt_tw hB2], V10, pp, pf2, fb2, fc2, fs2, fd2, fr2, ov2, tt2, L2, of2, rfl, h10, by rw [hz]; exact hk1, hpp, hL2, hO2, hLL, by rw [hz]; exact hB2, hS1, hS2⟩) hV.2.1.2.2 d_SG_read_92
    · have hof := b2i_t c_3
      rw [hof] at hl2
      have hR9 := rdR_2 hX (of_decide_eq_true hl2.symm)
      exact x_throw (E := "java/lang/UnsupportedOperationException") hx hb hlT hown (by decide +kernel) hts xa_55 (List.mem_of_getElem? (i := 3) rfl) hK hV (by rw [hml]; exact hl.1) d_SG_read_57 d_SG_read_60 d_SG_read_61 d_SG_read_63 d_SG_read_66 hno (Nat.le_of_ble_eq_true rfl) (Nat.le_of_ble_eq_true rfl) (by show 0 + 4 * n + 1 ≤ 4 * n + 1; omega) (by show 0 + 24 * n + 6 ≤ 24 * n + 6; omega) hlk (by omega) (by omega) ⟨Or.inr ⟨rfl, hR9⟩, V10, pp, pf2, fb2, fc2, fs2, fd2, fr2, ov2, tt2, L2, of2, by rw [hX]; rfl, h10, by rw [hz]; omega, hpp, hL2⟩
