theorem vU_split {V : Vw} {ns ds : va_W} (h : vN (ns ++ ds)) : vU V (ns ++ ds) = vU (vU V ns) ds := by
  rw [vU_app]
  refine vU_swap (fun x hx hd => ?_)
  unfold vN at h
  rw [List.map_append] at h
  exact (List.nodup_append.mp h).2.2 x.1 (List.mem_map.mpr ⟨x, hx, rfl⟩) x.1 hd rfl
theorem vN_app_l {ns ds : va_W} (h : vN (ns ++ ds)) : vN ns := by
  unfold vN at h ⊢
  rw [List.map_append] at h
  exact (List.nodup_append.mp h).1
/-- a piece that is read is put in its place -/
def pcP (pf : Nat → Option Nat) (a : Nat) : Sum Nat ((Nat × PcR) × Nat) → Nat → Option Nat
  | .inl _ => pf
  | .inr z => va_up pf z.1.1 (some a)

set_option maxHeartbeats 4000000 in
set_option maxRecDepth 100000 in
/-- Reader.readPiece -/
theorem c_Rd_readPiece (l : Launch) (G : Gx) (lo : Nat) (V : Vw) (sz : Nat) (rd tp : Nat) (f : Nat → Int32) (t : Nat → Nat) (n p : Nat) (tw ps bl sn tu : Nat) (pf : Nat → Option Nat) (hn : [rd, tp, tw, ps].Nodup) (hb4 : rd < sz ∧ tp < sz ∧ tw < sz ∧ ps < sz) (hT : tpOk f t n) (h4 : n ≤ 400) (hp : p ≤ n) : Met l y_Rd_readPiece ws_Rd_readPiece ({ frames := 6, cells := 4, slots := 24, locals := 170 } : Room) (vPre G lo [.ref rd, .ref tw] (vU V [(rd, eO 3 [.ref tp, .int (nI n), .int (nI p)]), (tp, eI (gB G) 400 f), (tw, eO 5 [.ref ps, .ref bl, .ref sn, .ref tu]), (ps, eQ (gP G) 61 pf)]) sz) (vPost G lo (fun r V' k => r = some (.int (rB (pieceR t n p))) ∧ ∃ V9 : Vw, V' = vU V9 [(rd, eO 3 [.ref tp, .int (nI n), .int (nI (sR (pieceR t n p)))]), (tp, eI (gB G) 400 f), (tw, eO 5 [.ref ps, .ref bl, .ref sn, .ref tu]), (ps, eQ (gP G) 61 (pcP pf sz (pieceR t n p)))] ∧ (∀ q, q < sz → V9 q = V q) ∧ sz ≤ k ∧ k ≤ sz + 4 ∧ ∀ z, pieceR t n p = .inr z → pcAt G V9 sz z.1.2 ∧ k = sz + 4)) 4 24 (vL lo) := by
  refine vMet (R := RRd) (by decide) rfl (Nat.le_of_ble_eq_true rfl) ?_
  intro pg ev s mi args below meth cd hx hb hr hml hlk hnm hts hown hK hz hV ls hl
  have hl : lv_has ls 4 [(0, .ref rd), (1, .ref tw)] := hl
  have hV0 := hV
  obtain ⟨H, hH⟩ : ∃ H, H = s.heap := ⟨_, rfl⟩
  obtain ⟨locs, hlocs⟩ : ∃ locs : List Loc, locs = [] := ⟨_, rfl⟩
  rw [← hH, ← hlocs]
  rw [← hH] at hz
  replace hV : vS G.1 cls lo s H locs (vU V [(rd, eO 3 [.ref tp, .int (nI n), .int (nI p)]), (tp, eI (gB G) 400 f), (tw, eO 5 [.ref ps, .ref bl, .ref sn, .ref tu]), (ps, eQ (gP G) 61 pf)]) := by rw [hH, hlocs]; exact hV
  clear hH hlocs hV0
  refine lv_aload_n hx hb d_Rd_readPiece_0 rfl (lv_at hl 0 rfl) ?_
  refine lv_iconst (v := 1) hx hb d_Rd_readPiece_1 (by decide) ?_
  refine lv_bipush (v := 60) hx hb d_Rd_readPiece_2 (by decide) ?_
  refine v_call (va_runV (As := [.int 1, .int 60]) (rest := []) ⟨hx, hb, hml, hown, hts⟩ (c_Rd_readNumber l G lo _ _ rd tp f t n p (nd_sub hn [0, 1] (by decide) rfl) hT h4 (by omega) 1 60 (by omega) (by omega)) (kwV 2 hts w_co_Rd_readNumber rfl rfl w_it_Rd w_ml_Rd_61 w_im_Rd_readNumber w_se_Rd__Rd_readNumber (by decide +kernel) ⟨by decide, by decide⟩) (u_preV hK hV hn [0, 1] rfl hz 0 rfl rfl) rfl rfl hl.1 rfl (lv_room (Nat.le_of_ble_eq_true rfl)) d_Rd_readPiece_4 ⟨(Nat.le_of_ble_eq_true rfl), (Nat.le_of_ble_eq_true rfl)⟩) hV (fun r9 V9 H locs hp hV hle => ?_)
  obtain ⟨rfl, rfl, hz⟩ := hp
  replace hV := u_back hV hn [0, 1] rfl
  have hV : vS G.1 cls lo s H locs (vU V [(rd, eO 3 [.ref tp, .int (nI n), .int (nI (rP (num t n 1 60 p)))]), (tp, eI (gB G) 400 f), (tw, eO 5 [.ref ps, .ref bl, .ref sn, .ref tu]), (ps, eQ (gP G) 61 pf)]) := hV
  obtain ⟨x_1, hx_1⟩ : ∃ z, num t n 1 60 p = z := ⟨_, rfl⟩
  rw [hx_1] at hV
  rcases x_1 with e_1 | ⟨v_1, q_1⟩
  · have be_1 : e_1 ≤ n := num_er hx_1 (by omega)
    have hV : vS G.1 cls lo s H locs (vU V [(rd, eO 3 [.ref tp, .int (nI n), .int (nI e_1)]), (tp, eI (gB G) 400 f), (tw, eO 5 [.ref ps, .ref bl, .ref sn, .ref tu]), (ps, eQ (gP G) 61 pf)]) := hV
    refine W.eq (g2 := F0 mi 7 ls [.int ((-1))]) (by rw [hx_1]; rfl) ?_
    refine lv_istore_n (lv' := [(2, .int ((-1))), (0, .ref rd), (1, .ref tw)]) hx hb d_Rd_readPiece_7 rfl hl (by decide) rfl (fun ls hl => ?_)
    refine lv_iload_n hx hb d_Rd_readPiece_8 rfl (lv_at hl 0 rfl) ?_
    refine lv_iconst (v := (-1)) hx hb d_Rd_readPiece_9 (by decide) ?_
    refine lv_icmp_eq (tgt := 22) hx hb d_Rd_readPiece_10 (by decide) (fun _ => ?_) (fun c_2 => absurd c_2 (by decide))
    refine lv_iconst (v := 0) hx hb d_Rd_readPiece_22 (by decide) ?_
    have hE : pieceR t n p = .inl e_1 := by simp only [pieceR, sbd_l, sbd_r, hx_1]
    refine W.widen (k := 4) (n := 24) (by omega) (by omega) ?_
    exact W.zret (v := 0) hx hb hr (by decide) (v_end hV ⟨by rw [hE]; rfl, V, by rw [hE]; rfl, fun q hq => rfl, by omega, by omega, fun z hz9 => by rw [hE] at hz9; cases hz9⟩) hV.2.1.2.2 d_Rd_readPiece_23
  · obtain ⟨lv_1, uv_1, gq_1, bq_1⟩ := num_ok hx_1 (by omega)
    have hV : vS G.1 cls lo s H locs (vU V [(rd, eO 3 [.ref tp, .int (nI n), .int (nI q_1)]), (tp, eI (gB G) 400 f), (tw, eO 5 [.ref ps, .ref bl, .ref sn, .ref tu]), (ps, eQ (gP G) 61 pf)]) := hV
    refine W.eq (g2 := F0 mi 7 ls [.int (nI v_1)]) (by rw [hx_1]; rfl) ?_
    refine lv_istore_n (lv' := [(2, .int (nI v_1)), (0, .ref rd), (1, .ref tw)]) hx hb d_Rd_readPiece_7 rfl hl (by decide) rfl (fun ls hl => ?_)
    refine lv_iload_n hx hb d_Rd_readPiece_8 rfl (lv_at hl 0 rfl) ?_
    refine lv_iconst (v := (-1)) hx hb d_Rd_readPiece_9 (by decide) ?_
    refine lv_icmp_eq (tgt := 22) hx hb d_Rd_readPiece_10 (by decide) (fun c_3 => absurd c_3 (nI_nem (by omega))) (fun _ => ?_)
    refine lv_aload_n hx hb d_Rd_readPiece_13 rfl (lv_at hl 1 rfl) ?_
    refine lv_bipush (v := 61) hx hb d_Rd_readPiece_14 (by decide) ?_
    refine v_call (va_runV (As := [.int 61]) (rest := []) ⟨hx, hb, hml, hown, hts⟩ (c_Rd_take l G lo _ _ rd tp f t n q_1 (nd_sub hn [0, 1] (by decide) rfl) hT h4 (by omega) 61 (by decide)) (kwV 1 hts w_co_Rd_take rfl rfl w_it_Rd w_ml_Rd_30 w_im_Rd_take w_se_Rd__Rd_take (by decide +kernel) ⟨by decide, by decide⟩) (u_preV hK hV hn [0, 1] rfl hz 0 rfl rfl) rfl rfl hl.1 rfl (lv_room (Nat.le_of_ble_eq_true rfl)) d_Rd_readPiece_16 ⟨(Nat.le_of_ble_eq_true rfl), (Nat.le_of_ble_eq_true rfl)⟩) hV (fun r9 V9 H locs hp hV hle => ?_)
    obtain ⟨rfl, rfl, hz⟩ := hp
    replace hV := u_back hV hn [0, 1] rfl
    have hV : vS G.1 cls lo s H locs (vU V [(rd, eO 3 [.ref tp, .int (nI n), .int (nI (rQ (tk t n 61 q_1)))]), (tp, eI (gB G) 400 f), (tw, eO 5 [.ref ps, .ref bl, .ref sn, .ref tu]), (ps, eQ (gP G) 61 pf)]) := hV
    obtain ⟨x_4, hx_4⟩ : ∃ z, tk t n 61 q_1 = z := ⟨_, rfl⟩
    rw [hx_4] at hV
    rcases x_4 with e_4 | q_4
    · have be_4 : e_4 ≤ n := tk_er hx_4 (by omega)
      have hV : vS G.1 cls lo s H locs (vU V [(rd, eO 3 [.ref tp, .int (nI n), .int (nI e_4)]), (tp, eI (gB G) 400 f), (tw, eO 5 [.ref ps, .ref bl, .ref sn, .ref tu]), (ps, eQ (gP G) 61 pf)]) := hV
      refine W.eq (g2 := F0 mi 19 ls [.int 0]) (by rw [hx_4]; rfl) ?_
      refine lv_if_ne (tgt := 24) hx hb d_Rd_readPiece_19 (by decide) (fun c_5 => absurd c_5 (by decide)) (fun _ => ?_)
      refine lv_iconst (v := 0) hx hb d_Rd_readPiece_22 (by decide) ?_
      have hE : pieceR t n p = .inl e_4 := by simp only [pieceR, sbd_l, sbd_r, hx_1, hx_4]
      refine W.widen (k := 4) (n := 24) (by omega) (by omega) ?_
      exact W.zret (v := 0) hx hb hr (by decide) (v_end hV ⟨by rw [hE]; rfl, V, by rw [hE]; rfl, fun q hq => rfl, by omega, by omega, fun z hz9 => by rw [hE] at hz9; cases hz9⟩) hV.2.1.2.2 d_Rd_readPiece_23
    · obtain ⟨gq_4, bq_4⟩ := tk_ok hx_4
      have hV : vS G.1 cls lo s H locs (vU V [(rd, eO 3 [.ref tp, .int (nI n), .int (nI q_4)]), (tp, eI (gB G) 400 f), (tw, eO 5 [.ref ps, .ref bl, .ref sn, .ref tu]), (ps, eQ (gP G) 61 pf)]) := hV
      refine W.eq (g2 := F0 mi 19 ls [.int 1]) (by rw [hx_4]; rfl) ?_
      refine lv_if_ne (tgt := 24) hx hb d_Rd_readPiece_19 (by decide) (fun _ => ?_) (fun c_6 => absurd c_6 (by decide))
      refine u_new (ci := 1) hx hb hts inPc tyPc tyPc_ok hown w_cl_Rd_65 w_in_Pc w_it_Pc hK hV rfl (fs := [.int 0, .int 0, .int 0, .int 0, .int 0, .int 0, .int 0, .null, .null, .null, .int 0, .int 0, .long ((0 : Int64)), .int 0, .int 0]) (fun j hj => by rcases (show j = 0 ∨ j = 1 ∨ j = 2 ∨ j = 3 ∨ j = 4 ∨ j = 5 ∨ j = 6 ∨ j = 7 ∨ j = 8 ∨ j = 9 ∨ j = 10 ∨ j = 11 ∨ j = 12 ∨ j = 13 ∨ j = 14 by omega) with rfl | rfl | rfl | rfl | rfl | rfl | rfl | rfl | rfl | rfl | rfl | rfl | rfl | rfl | rfl <;> rfl) (Nat.le_of_ble_eq_true rfl) (Nat.le_of_ble_eq_true rfl) d_Rd_readPiece_24 hz (fun H hV hz => ?_)
      have hV : vS G.1 cls lo s H locs (vU V [(sz, eO 1 [.int 0, .int 0, .int 0, .int 0, .int 0, .int 0, .int 0, .null, .null, .null, .int 0, .int 0, .long ((0 : Int64)), .int 0, .int 0]), (rd, eO 3 [.ref tp, .int (nI n), .int (nI q_4)]), (tp, eI (gB G) 400 f), (tw, eO 5 [.ref ps, .ref bl, .ref sn, .ref tu]), (ps, eQ (gP G) 61 pf)]) := hV
      have hn : [sz, rd, tp, tw, ps].Nodup := List.nodup_cons.mpr ⟨by simp only [List.mem_cons, List.not_mem_nil, or_false, not_or]; omega, hn⟩
      refine lv_dup hx hb d_Rd_readPiece_27 rfl ?_
      refine v_call (va_runIN (As := []) (rest := [.ref sz]) ⟨hx, hb, hml, hown, hts⟩ (c_Pc_init l G lo _ _ sz (by omega)) ⟨va_cnB 0 hts (goodL w_co_Pc_init) rfl rfl rfl (hK.2.1 _ (List.mem_of_getElem? (i := 6) rfl)) (hts _ w_it_Pc) (by decide +kernel) ⟨by decide, by decide⟩, rfl, hts _ w_im_Pc_init⟩ (u_preS hK hV hn [0] rfl hz) rfl rfl hl.1 rfl (lv_room (Nat.le_of_ble_eq_true rfl)) d_Rd_readPiece_28 ⟨(Nat.le_of_ble_eq_true rfl), (Nat.le_of_ble_eq_true rfl)⟩) hV (fun r9 V9 H locs hp hV hle => ?_)
      obtain ⟨rfl, rfl, hz⟩ := hp
      replace hV := u_backN 3 hV hn [0] rfl
      have hn : [sz + 1, sz, rd, tp, tw, ps].Nodup := List.nodup_cons.mpr ⟨by simp only [List.mem_cons, List.not_mem_nil, or_false, not_or]; omega, hn⟩
      have hn : [sz + 2, sz + 1, sz, rd, tp, tw, ps].Nodup := List.nodup_cons.mpr ⟨by simp only [List.mem_cons, List.not_mem_nil, or_false, not_or]; omega, hn⟩
      have hn : [sz + 3, sz + 2, sz + 1, sz, rd, tp, tw, ps].Nodup := List.nodup_cons.mpr ⟨by simp only [List.mem_cons, List.not_mem_nil, or_false, not_or]; omega, hn⟩
      have hz : H.size = sz + 4 := hz
      have hV : vS G.1 cls lo s H locs (vU V [(sz + 3, eI (gI G) 3 (fun _ => 0)), (sz + 2, eI (gI G) 3 (fun _ => 0)), (sz + 1, eI (gI G) 3 (fun _ => 0)), (sz, eO 1 [.int 0, .int 0, .int 0, .int 0, .int 0, .int 0, .int 0, .ref (sz + 1), .ref (sz + 2), .ref (sz + 3), .int 0, .int 0, .long ((0 : Int64)), .int 0, .int ((-1))]), (rd, eO 3 [.ref tp, .int (nI n), .int (nI q_4)]), (tp, eI (gB G) 400 f), (tw, eO 5 [.ref ps, .ref bl, .ref sn, .ref tu]), (ps, eQ (gP G) 61 pf)]) := hV
      refine lv_astore_n (lv' := [(3, .ref sz), (2, .int (nI v_1)), (0, .ref rd), (1, .ref tw)]) hx hb d_Rd_readPiece_31 rfl hl (by decide) rfl (fun ls hl => ?_)
      refine lv_aload_n hx hb d_Rd_readPiece_32 rfl (lv_at hl 2 rfl) ?_
      refine lv_aload_n hx hb d_Rd_readPiece_33 rfl (lv_at hl 0 rfl) ?_
      refine v_call (va_runV (As := [.ref sz]) (rest := []) ⟨hx, hb, hml, hown, hts⟩ (c_Rd_readNodes l G lo _ _ rd tp f t n q_4 sz (sz + 1) (sz + 2) (sz + 3) 0 0 0 0 0 0 0 ((-1)) ((0 : Int64))  (nd_sub hn [4, 5, 3] (by decide) rfl) hT h4 (by omega)) (kwV 1 hts w_co_Rd_readNodes rfl rfl w_it_Rd w_ml_Rd_68 w_im_Rd_readNodes w_se_Rd__Rd_readNodes (by decide +kernel) ⟨by decide, by decide⟩) (u_preV hK hV hn [4, 5, 3] rfl hz 4 rfl rfl) rfl rfl hl.1 rfl (lv_room (Nat.le_of_ble_eq_true rfl)) d_Rd_readPiece_34 ⟨(Nat.le_of_ble_eq_true rfl), (Nat.le_of_ble_eq_true rfl)⟩) hV (fun r9 V9 H locs hp hV hle => ?_)
      obtain ⟨rfl, ⟨y_8, y_9, y_10, rfl, hyx_7⟩, hz⟩ := hp
      replace hV := u_back hV hn [4, 5, 3] rfl
      have hV : vS G.1 cls lo s H locs (vU V [(sz + 3, eI (gI G) 3 (fun _ => 0)), (sz + 2, eI (gI G) 3 (fun _ => 0)), (sz + 1, eI (gI G) 3 (fun _ => 0)), (sz, eO 1 [.int y_8, .int y_9, .int y_10, .int 0, .int 0, .int 0, .int 0, .ref (sz + 1), .ref (sz + 2), .ref (sz + 3), .int 0, .int 0, .long ((0 : Int64)), .int 0, .int ((-1))]), (rd, eO 3 [.ref tp, .int (nI n), .int (nI (sR (nodesR t n q_4)))]), (tp, eI (gB G) 400 f), (tw, eO 5 [.ref ps, .ref bl, .ref sn, .ref tu]), (ps, eQ (gP G) 61 pf)]) := hV
      obtain ⟨x_7, hx_7⟩ : ∃ z, nodesR t n q_4 = z := ⟨_, rfl⟩
      rw [hx_7] at hV
      have okx_7 := nodesR_ok (t := t) (n := n) (p := q_4) (by omega)
      rw [hx_7] at okx_7
      rcases x_7 with e_7 | ⟨z_7, q_7⟩
      · have be_7 : e_7 ≤ n := okx_7
        have hV : vS G.1 cls lo s H locs (vU V [(sz + 3, eI (gI G) 3 (fun _ => 0)), (sz + 2, eI (gI G) 3 (fun _ => 0)), (sz + 1, eI (gI G) 3 (fun _ => 0)), (sz, eO 1 [.int y_8, .int y_9, .int y_10, .int 0, .int 0, .int 0, .int 0, .ref (sz + 1), .ref (sz + 2), .ref (sz + 3), .int 0, .int 0, .long ((0 : Int64)), .int 0, .int ((-1))]), (rd, eO 3 [.ref tp, .int (nI n), .int (nI e_7)]), (tp, eI (gB G) 400 f), (tw, eO 5 [.ref ps, .ref bl, .ref sn, .ref tu]), (ps, eQ (gP G) 61 pf)]) := hV
        refine W.eq (g2 := F0 mi 37 ls [.int 0]) (by rw [hx_7]; rfl) ?_
        refine lv_if_eq (tgt := 72) hx hb d_Rd_readPiece_37 (by decide) (fun _ => ?_) (fun c_11 => absurd c_11 (by decide))
        refine lv_iconst (v := 0) hx hb d_Rd_readPiece_72 (by decide) ?_
        have hE : pieceR t n p = .inl e_7 := by simp only [pieceR, sbd_l, sbd_r, hx_1, hx_4, hx_7]
        have hsp := vU_split (V := V) (ns := [(sz + 3, eI (gI G) 3 (fun _ => 0)), (sz + 2, eI (gI G) 3 (fun _ => 0)), (sz + 1, eI (gI G) 3 (fun _ => 0)), (sz, eO 1 [.int y_8, .int y_9, .int y_10, .int 0, .int 0, .int 0, .int 0, .ref (sz + 1), .ref (sz + 2), .ref (sz + 3), .int 0, .int 0, .long ((0 : Int64)), .int 0, .int ((-1))])]) (ds := [(rd, eO 3 [.ref tp, .int (nI n), .int (nI e_7)]), (tp, eI (gB G) 400 f), (tw, eO 5 [.ref ps, .ref bl, .ref sn, .ref tu]), (ps, eQ (gP G) 61 pf)]) hn
        exact W.zret (v := 0) hx hb hr (by decide) (v_end hV ⟨by rw [hE]; rfl, vU V [(sz + 3, eI (gI G) 3 (fun _ => 0)), (sz + 2, eI (gI G) 3 (fun _ => 0)), (sz + 1, eI (gI G) 3 (fun _ => 0)), (sz, eO 1 [.int y_8, .int y_9, .int y_10, .int 0, .int 0, .int 0, .int 0, .ref (sz + 1), .ref (sz + 2), .ref (sz + 3), .int 0, .int 0, .long ((0 : Int64)), .int 0, .int ((-1))])], by rw [hE]; exact hsp, fun q hq => vU_out V _ q (by simp only [List.map_cons, List.map_nil, List.mem_cons, List.not_mem_nil, or_false, not_or]; omega), by omega, by omega, fun z hz9 => by rw [hE] at hz9; cases hz9⟩) hV.2.1.2.2 d_Rd_readPiece_73
      · simp only [] at okx_7
        obtain ⟨wy_8, wy_9, wy_10⟩ := hyx_7 _ hx_7
        subst wy_8 wy_9 wy_10
        have hV : vS G.1 cls lo s H locs (vU V [(sz + 3, eI (gI G) 3 (fun _ => 0)), (sz + 2, eI (gI G) 3 (fun _ => 0)), (sz + 1, eI (gI G) 3 (fun _ => 0)), (sz, eO 1 [.int (nI z_7.1), .int (nI z_7.2.2), .int (b2i z_7.2.1), .int 0, .int 0, .int 0, .int 0, .ref (sz + 1), .ref (sz + 2), .ref (sz + 3), .int 0, .int 0, .long ((0 : Int64)), .int 0, .int ((-1))]), (rd, eO 3 [.ref tp, .int (nI n), .int (nI q_7)]), (tp, eI (gB G) 400 f), (tw, eO 5 [.ref ps, .ref bl, .ref sn, .ref tu]), (ps, eQ (gP G) 61 pf)]) := hV
        refine W.eq (g2 := F0 mi 37 ls [.int 1]) (by rw [hx_7]; rfl) ?_
        refine lv_if_eq (tgt := 72) hx hb d_Rd_readPiece_37 (by decide) (fun c_12 => absurd c_12 (by decide)) (fun _ => ?_)
        refine lv_aload_n hx hb d_Rd_readPiece_40 rfl (lv_at hl 2 rfl) ?_
        refine lv_aload_n hx hb d_Rd_readPiece_41 rfl (lv_at hl 0 rfl) ?_
        refine v_call (va_runV (As := [.ref sz]) (rest := []) ⟨hx, hb, hml, hown, hts⟩ (c_Rd_readLengthKindSpeed l G lo _ _ rd tp f t n q_7 sz (sz + 1) (sz + 2) (sz + 3) (nI z_7.1) (nI z_7.2.2) (b2i z_7.2.1) 0 0 0 0 ((-1)) ((0 : Int64))  (nd_sub hn [4, 5, 3] (by decide) rfl) hT h4 (by omega)) (kwV 1 hts w_co_Rd_readLengthKindSpeed rfl rfl w_it_Rd w_ml_Rd_72 w_im_Rd_readLengthKindSpeed w_se_Rd__Rd_readLengthKindSpeed (by decide +kernel) ⟨by decide, by decide⟩) (u_preV hK hV hn [4, 5, 3] rfl hz 4 rfl rfl) rfl rfl hl.1 rfl (lv_room (Nat.le_of_ble_eq_true rfl)) d_Rd_readPiece_42 ⟨(Nat.le_of_ble_eq_true rfl), (Nat.le_of_ble_eq_true rfl)⟩) hV (fun r9 V9 H locs hp hV hle => ?_)
        obtain ⟨rfl, ⟨y_14, y_15, y_16, rfl, hyx_13⟩, hz⟩ := hp
        replace hV := u_back hV hn [4, 5, 3] rfl
        have hV : vS G.1 cls lo s H locs (vU V [(sz + 3, eI (gI G) 3 (fun _ => 0)), (sz + 2, eI (gI G) 3 (fun _ => 0)), (sz + 1, eI (gI G) 3 (fun _ => 0)), (sz, eO 1 [.int (nI z_7.1), .int (nI z_7.2.2), .int (b2i z_7.2.1), .int y_14, .int y_15, .int y_16, .int 0, .ref (sz + 1), .ref (sz + 2), .ref (sz + 3), .int 0, .int 0, .long ((0 : Int64)), .int 0, .int ((-1))]), (rd, eO 3 [.ref tp, .int (nI n), .int (nI (sR (lksR t n q_7)))]), (tp, eI (gB G) 400 f), (tw, eO 5 [.ref ps, .ref bl, .ref sn, .ref tu]), (ps, eQ (gP G) 61 pf)]) := hV
        obtain ⟨x_13, hx_13⟩ : ∃ z, lksR t n q_7 = z := ⟨_, rfl⟩
        rw [hx_13] at hV
        have okx_13 := lksR_ok (t := t) (n := n) (p := q_7) (by omega)
        rw [hx_13] at okx_13
        rcases x_13 with e_13 | ⟨z_13, q_13⟩
        · have be_13 : e_13 ≤ n := okx_13
          have hV : vS G.1 cls lo s H locs (vU V [(sz + 3, eI (gI G) 3 (fun _ => 0)), (sz + 2, eI (gI G) 3 (fun _ => 0)), (sz + 1, eI (gI G) 3 (fun _ => 0)), (sz, eO 1 [.int (nI z_7.1), .int (nI z_7.2.2), .int (b2i z_7.2.1), .int y_14, .int y_15, .int y_16, .int 0, .ref (sz + 1), .ref (sz + 2), .ref (sz + 3), .int 0, .int 0, .long ((0 : Int64)), .int 0, .int ((-1))]), (rd, eO 3 [.ref tp, .int (nI n), .int (nI e_13)]), (tp, eI (gB G) 400 f), (tw, eO 5 [.ref ps, .ref bl, .ref sn, .ref tu]), (ps, eQ (gP G) 61 pf)]) := hV
          refine W.eq (g2 := F0 mi 45 ls [.int 0]) (by rw [hx_13]; rfl) ?_
          refine lv_if_eq (tgt := 72) hx hb d_Rd_readPiece_45 (by decide) (fun _ => ?_) (fun c_17 => absurd c_17 (by decide))
          refine lv_iconst (v := 0) hx hb d_Rd_readPiece_72 (by decide) ?_
          have hE : pieceR t n p = .inl e_13 := by simp only [pieceR, sbd_l, sbd_r, hx_1, hx_4, hx_7, hx_13]
          have hsp := vU_split (V := V) (ns := [(sz + 3, eI (gI G) 3 (fun _ => 0)), (sz + 2, eI (gI G) 3 (fun _ => 0)), (sz + 1, eI (gI G) 3 (fun _ => 0)), (sz, eO 1 [.int (nI z_7.1), .int (nI z_7.2.2), .int (b2i z_7.2.1), .int y_14, .int y_15, .int y_16, .int 0, .ref (sz + 1), .ref (sz + 2), .ref (sz + 3), .int 0, .int 0, .long ((0 : Int64)), .int 0, .int ((-1))])]) (ds := [(rd, eO 3 [.ref tp, .int (nI n), .int (nI e_13)]), (tp, eI (gB G) 400 f), (tw, eO 5 [.ref ps, .ref bl, .ref sn, .ref tu]), (ps, eQ (gP G) 61 pf)]) hn
          exact W.zret (v := 0) hx hb hr (by decide) (v_end hV ⟨by rw [hE]; rfl, vU V [(sz + 3, eI (gI G) 3 (fun _ => 0)), (sz + 2, eI (gI G) 3 (fun _ => 0)), (sz + 1, eI (gI G) 3 (fun _ => 0)), (sz, eO 1 [.int (nI z_7.1), .int (nI z_7.2.2), .int (b2i z_7.2.1), .int y_14, .int y_15, .int y_16, .int 0, .ref (sz + 1), .ref (sz + 2), .ref (sz + 3), .int 0, .int 0, .long ((0 : Int64)), .int 0, .int ((-1))])], by rw [hE]; exact hsp, fun q hq => vU_out V _ q (by simp only [List.map_cons, List.map_nil, List.mem_cons, List.not_mem_nil, or_false, not_or]; omega), by omega, by omega, fun z hz9 => by rw [hE] at hz9; cases hz9⟩) hV.2.1.2.2 d_Rd_readPiece_73
        · simp only [] at okx_13
          obtain ⟨wy_14, wy_15, wy_16⟩ := hyx_13 _ hx_13
          subst wy_14 wy_15 wy_16
          have hV : vS G.1 cls lo s H locs (vU V [(sz + 3, eI (gI G) 3 (fun _ => 0)), (sz + 2, eI (gI G) 3 (fun _ => 0)), (sz + 1, eI (gI G) 3 (fun _ => 0)), (sz, eO 1 [.int (nI z_7.1), .int (nI z_7.2.2), .int (b2i z_7.2.1), .int (nI z_13.1), .int (nI z_13.2.1), .int (nI z_13.2.2), .int 0, .ref (sz + 1), .ref (sz + 2), .ref (sz + 3), .int 0, .int 0, .long ((0 : Int64)), .int 0, .int ((-1))]), (rd, eO 3 [.ref tp, .int (nI n), .int (nI q_13)]), (tp, eI (gB G) 400 f), (tw, eO 5 [.ref ps, .ref bl, .ref sn, .ref tu]), (ps, eQ (gP G) 61 pf)]) := hV
          refine W.eq (g2 := F0 mi 45 ls [.int 1]) (by rw [hx_13]; rfl) ?_
          refine lv_if_eq (tgt := 72) hx hb d_Rd_readPiece_45 (by decide) (fun c_18 => absurd c_18 (by decide)) (fun _ => ?_)
          refine lv_aload_n hx hb d_Rd_readPiece_48 rfl (lv_at hl 2 rfl) ?_
          refine lv_aload_n hx hb d_Rd_readPiece_49 rfl (lv_at hl 0 rfl) ?_
          refine v_call (va_runV (As := [.ref sz]) (rest := []) ⟨hx, hb, hml, hown, hts⟩ (c_Rd_readHours l G lo _ _ rd tp f t n q_13 sz (sz + 1) (sz + 2) (sz + 3) (nI z_7.1) (nI z_7.2.2) (b2i z_7.2.1) (nI z_13.1) (nI z_13.2.1) (nI z_13.2.2) 0 0 0 ((-1)) ((0 : Int64)) (fun _ => 0) (fun _ => 0) (fun _ => 0) (nd_sub hn [4, 5, 3, 2, 1, 0] (by decide) rfl) hT h4 (by omega)) (kwV 1 hts w_co_Rd_readHours rfl rfl w_it_Rd w_ml_Rd_75 w_im_Rd_readHours w_se_Rd__Rd_readHours (by decide +kernel) ⟨by decide, by decide⟩) (u_preV hK hV hn [4, 5, 3, 2, 1, 0] rfl hz 4 rfl rfl) rfl rfl hl.1 rfl (lv_room (Nat.le_of_ble_eq_true rfl)) d_Rd_readPiece_50 ⟨(Nat.le_of_ble_eq_true rfl), (Nat.le_of_ble_eq_true rfl)⟩) hV (fun r9 V9 H locs hp hV hle => ?_)
          obtain ⟨rfl, ⟨s_20, g_211, g_212, g_213, rfl, hhx_19, hyx_19⟩, hz⟩ := hp
          replace hV := u_back hV hn [4, 5, 3, 2, 1, 0] rfl
          have hV : vS G.1 cls lo s H locs (vU V [(sz + 3, eI (gI G) 3 g_213), (sz + 2, eI (gI G) 3 g_212), (sz + 1, eI (gI G) 3 g_211), (sz, eO 1 [.int (nI z_7.1), .int (nI z_7.2.2), .int (b2i z_7.2.1), .int (nI z_13.1), .int (nI z_13.2.1), .int (nI z_13.2.2), .int (nI s_20.length), .ref (sz + 1), .ref (sz + 2), .ref (sz + 3), .int 0, .int 0, .long ((0 : Int64)), .int 0, .int ((-1))]), (rd, eO 3 [.ref tp, .int (nI n), .int (nI (sR (hrsR t n 3 [] q_13)))]), (tp, eI (gB G) 400 f), (tw, eO 5 [.ref ps, .ref bl, .ref sn, .ref tu]), (ps, eQ (gP G) 61 pf)]) := hV
          obtain ⟨x_19, hx_19⟩ : ∃ z, hrsR t n 3 [] q_13 = z := ⟨_, rfl⟩
          rw [hx_19] at hV
          have okx_19 := hrsR_ok (t := t) (n := n) 3 [] q_13 (by omega) (by decide) ⟨by decide, fun i hi => absurd hi (by simp)⟩
          rw [hx_19] at okx_19
          rcases x_19 with e_19 | ⟨z_19, q_19⟩
          · have be_19 : e_19 ≤ n := okx_19
            have hV : vS G.1 cls lo s H locs (vU V [(sz + 3, eI (gI G) 3 g_213), (sz + 2, eI (gI G) 3 g_212), (sz + 1, eI (gI G) 3 g_211), (sz, eO 1 [.int (nI z_7.1), .int (nI z_7.2.2), .int (b2i z_7.2.1), .int (nI z_13.1), .int (nI z_13.2.1), .int (nI z_13.2.2), .int (nI s_20.length), .ref (sz + 1), .ref (sz + 2), .ref (sz + 3), .int 0, .int 0, .long ((0 : Int64)), .int 0, .int ((-1))]), (rd, eO 3 [.ref tp, .int (nI n), .int (nI e_19)]), (tp, eI (gB G) 400 f), (tw, eO 5 [.ref ps, .ref bl, .ref sn, .ref tu]), (ps, eQ (gP G) 61 pf)]) := hV
            refine W.eq (g2 := F0 mi 53 ls [.int 0]) (by rw [hx_19]; rfl) ?_
            refine lv_if_eq (tgt := 72) hx hb d_Rd_readPiece_53 (by decide) (fun _ => ?_) (fun c_22 => absurd c_22 (by decide))
            refine lv_iconst (v := 0) hx hb d_Rd_readPiece_72 (by decide) ?_
            have hE : pieceR t n p = .inl e_19 := by simp only [pieceR, sbd_l, sbd_r, hx_1, hx_4, hx_7, hx_13, hx_19]
            have hsp := vU_split (V := V) (ns := [(sz + 3, eI (gI G) 3 g_213), (sz + 2, eI (gI G) 3 g_212), (sz + 1, eI (gI G) 3 g_211), (sz, eO 1 [.int (nI z_7.1), .int (nI z_7.2.2), .int (b2i z_7.2.1), .int (nI z_13.1), .int (nI z_13.2.1), .int (nI z_13.2.2), .int (nI s_20.length), .ref (sz + 1), .ref (sz + 2), .ref (sz + 3), .int 0, .int 0, .long ((0 : Int64)), .int 0, .int ((-1))])]) (ds := [(rd, eO 3 [.ref tp, .int (nI n), .int (nI e_19)]), (tp, eI (gB G) 400 f), (tw, eO 5 [.ref ps, .ref bl, .ref sn, .ref tu]), (ps, eQ (gP G) 61 pf)]) hn
            exact W.zret (v := 0) hx hb hr (by decide) (v_end hV ⟨by rw [hE]; rfl, vU V [(sz + 3, eI (gI G) 3 g_213), (sz + 2, eI (gI G) 3 g_212), (sz + 1, eI (gI G) 3 g_211), (sz, eO 1 [.int (nI z_7.1), .int (nI z_7.2.2), .int (b2i z_7.2.1), .int (nI z_13.1), .int (nI z_13.2.1), .int (nI z_13.2.2), .int (nI s_20.length), .ref (sz + 1), .ref (sz + 2), .ref (sz + 3), .int 0, .int 0, .long ((0 : Int64)), .int 0, .int ((-1))])], by rw [hE]; exact hsp, fun q hq => vU_out V _ q (by simp only [List.map_cons, List.map_nil, List.mem_cons, List.not_mem_nil, or_false, not_or]; omega), by omega, by omega, fun z hz9 => by rw [hE] at hz9; cases hz9⟩) hV.2.1.2.2 d_Rd_readPiece_73
          · simp only [] at okx_19
            have ws_20 := (hyx_19 _ hx_19).symm
            subst ws_20
            have hV : vS G.1 cls lo s H locs (vU V [(sz + 3, eI (gI G) 3 g_213), (sz + 2, eI (gI G) 3 g_212), (sz + 1, eI (gI G) 3 g_211), (sz, eO 1 [.int (nI z_7.1), .int (nI z_7.2.2), .int (b2i z_7.2.1), .int (nI z_13.1), .int (nI z_13.2.1), .int (nI z_13.2.2), .int (nI z_19.length), .ref (sz + 1), .ref (sz + 2), .ref (sz + 3), .int 0, .int 0, .long ((0 : Int64)), .int 0, .int ((-1))]), (rd, eO 3 [.ref tp, .int (nI n), .int (nI q_19)]), (tp, eI (gB G) 400 f), (tw, eO 5 [.ref ps, .ref bl, .ref sn, .ref tu]), (ps, eQ (gP G) 61 pf)]) := hV
            refine W.eq (g2 := F0 mi 53 ls [.int 1]) (by rw [hx_19]; rfl) ?_
            refine lv_if_eq (tgt := 72) hx hb d_Rd_readPiece_53 (by decide) (fun c_23 => absurd c_23 (by decide)) (fun _ => ?_)
            refine lv_aload_n hx hb d_Rd_readPiece_56 rfl (lv_at hl 2 rfl) ?_
            refine lv_aload_n hx hb d_Rd_readPiece_57 rfl (lv_at hl 0 rfl) ?_
            refine v_call (va_runV (As := [.ref sz]) (rest := []) ⟨hx, hb, hml, hown, hts⟩ (c_Rd_readLimits l G lo _ _ rd tp f t n q_19 sz (sz + 1) (sz + 2) (sz + 3) (nI z_7.1) (nI z_7.2.2) (b2i z_7.2.1) (nI z_13.1) (nI z_13.2.1) (nI z_13.2.2) (nI z_19.length) 0 ((-1)) ((0 : Int64))  (nd_sub hn [4, 5, 3] (by decide) rfl) hT h4 (by omega)) (kwV 1 hts w_co_Rd_readLimits rfl rfl w_it_Rd w_ml_Rd_78 w_im_Rd_readLimits w_se_Rd__Rd_readLimits (by decide +kernel) ⟨by decide, by decide⟩) (u_preV hK hV hn [4, 5, 3] rfl hz 4 rfl rfl) rfl rfl hl.1 rfl (lv_room (Nat.le_of_ble_eq_true rfl)) d_Rd_readPiece_58 ⟨(Nat.le_of_ble_eq_true rfl), (Nat.le_of_ble_eq_true rfl)⟩) hV (fun r9 V9 H locs hp hV hle => ?_)
            obtain ⟨rfl, ⟨y_25, y_26, rfl, hyx_24⟩, hz⟩ := hp
            replace hV := u_back hV hn [4, 5, 3] rfl
            have hV : vS G.1 cls lo s H locs (vU V [(sz + 3, eI (gI G) 3 g_213), (sz + 2, eI (gI G) 3 g_212), (sz + 1, eI (gI G) 3 g_211), (sz, eO 1 [.int (nI z_7.1), .int (nI z_7.2.2), .int (b2i z_7.2.1), .int (nI z_13.1), .int (nI z_13.2.1), .int (nI z_13.2.2), .int (nI z_19.length), .ref (sz + 1), .ref (sz + 2), .ref (sz + 3), .int y_25, .int y_26, .long ((0 : Int64)), .int 0, .int ((-1))]), (rd, eO 3 [.ref tp, .int (nI n), .int (nI (sR (limR t n q_19)))]), (tp, eI (gB G) 400 f), (tw, eO 5 [.ref ps, .ref bl, .ref sn, .ref tu]), (ps, eQ (gP G) 61 pf)]) := hV
            obtain ⟨x_24, hx_24⟩ : ∃ z, limR t n q_19 = z := ⟨_, rfl⟩
            rw [hx_24] at hV
            have okx_24 := limR_ok (t := t) (n := n) (p := q_19) (by omega)
            rw [hx_24] at okx_24
            rcases x_24 with e_24 | ⟨z_24, q_24⟩
            · have be_24 : e_24 ≤ n := okx_24
              have hV : vS G.1 cls lo s H locs (vU V [(sz + 3, eI (gI G) 3 g_213), (sz + 2, eI (gI G) 3 g_212), (sz + 1, eI (gI G) 3 g_211), (sz, eO 1 [.int (nI z_7.1), .int (nI z_7.2.2), .int (b2i z_7.2.1), .int (nI z_13.1), .int (nI z_13.2.1), .int (nI z_13.2.2), .int (nI z_19.length), .ref (sz + 1), .ref (sz + 2), .ref (sz + 3), .int y_25, .int y_26, .long ((0 : Int64)), .int 0, .int ((-1))]), (rd, eO 3 [.ref tp, .int (nI n), .int (nI e_24)]), (tp, eI (gB G) 400 f), (tw, eO 5 [.ref ps, .ref bl, .ref sn, .ref tu]), (ps, eQ (gP G) 61 pf)]) := hV
              refine W.eq (g2 := F0 mi 61 ls [.int 0]) (by rw [hx_24]; rfl) ?_
              refine lv_if_eq (tgt := 72) hx hb d_Rd_readPiece_61 (by decide) (fun _ => ?_) (fun c_27 => absurd c_27 (by decide))
              refine lv_iconst (v := 0) hx hb d_Rd_readPiece_72 (by decide) ?_
              have hE : pieceR t n p = .inl e_24 := by simp only [pieceR, sbd_l, sbd_r, hx_1, hx_4, hx_7, hx_13, hx_19, hx_24]
              have hsp := vU_split (V := V) (ns := [(sz + 3, eI (gI G) 3 g_213), (sz + 2, eI (gI G) 3 g_212), (sz + 1, eI (gI G) 3 g_211), (sz, eO 1 [.int (nI z_7.1), .int (nI z_7.2.2), .int (b2i z_7.2.1), .int (nI z_13.1), .int (nI z_13.2.1), .int (nI z_13.2.2), .int (nI z_19.length), .ref (sz + 1), .ref (sz + 2), .ref (sz + 3), .int y_25, .int y_26, .long ((0 : Int64)), .int 0, .int ((-1))])]) (ds := [(rd, eO 3 [.ref tp, .int (nI n), .int (nI e_24)]), (tp, eI (gB G) 400 f), (tw, eO 5 [.ref ps, .ref bl, .ref sn, .ref tu]), (ps, eQ (gP G) 61 pf)]) hn
              exact W.zret (v := 0) hx hb hr (by decide) (v_end hV ⟨by rw [hE]; rfl, vU V [(sz + 3, eI (gI G) 3 g_213), (sz + 2, eI (gI G) 3 g_212), (sz + 1, eI (gI G) 3 g_211), (sz, eO 1 [.int (nI z_7.1), .int (nI z_7.2.2), .int (b2i z_7.2.1), .int (nI z_13.1), .int (nI z_13.2.1), .int (nI z_13.2.2), .int (nI z_19.length), .ref (sz + 1), .ref (sz + 2), .ref (sz + 3), .int y_25, .int y_26, .long ((0 : Int64)), .int 0, .int ((-1))])], by rw [hE]; exact hsp, fun q hq => vU_out V _ q (by simp only [List.map_cons, List.map_nil, List.mem_cons, List.not_mem_nil, or_false, not_or]; omega), by omega, by omega, fun z hz9 => by rw [hE] at hz9; cases hz9⟩) hV.2.1.2.2 d_Rd_readPiece_73
            · simp only [] at okx_24
              obtain ⟨wy_25, wy_26⟩ := hyx_24 _ hx_24
              subst wy_25 wy_26
              have hV : vS G.1 cls lo s H locs (vU V [(sz + 3, eI (gI G) 3 g_213), (sz + 2, eI (gI G) 3 g_212), (sz + 1, eI (gI G) 3 g_211), (sz, eO 1 [.int (nI z_7.1), .int (nI z_7.2.2), .int (b2i z_7.2.1), .int (nI z_13.1), .int (nI z_13.2.1), .int (nI z_13.2.2), .int (nI z_19.length), .ref (sz + 1), .ref (sz + 2), .ref (sz + 3), .int (nI z_24.1), .int (nI z_24.2), .long ((0 : Int64)), .int 0, .int ((-1))]), (rd, eO 3 [.ref tp, .int (nI n), .int (nI q_24)]), (tp, eI (gB G) 400 f), (tw, eO 5 [.ref ps, .ref bl, .ref sn, .ref tu]), (ps, eQ (gP G) 61 pf)]) := hV
              refine W.eq (g2 := F0 mi 61 ls [.int 1]) (by rw [hx_24]; rfl) ?_
              refine lv_if_eq (tgt := 72) hx hb d_Rd_readPiece_61 (by decide) (fun c_28 => absurd c_28 (by decide)) (fun _ => ?_)
              refine lv_aload_n hx hb d_Rd_readPiece_64 rfl (lv_at hl 2 rfl) ?_
              refine lv_aload_n hx hb d_Rd_readPiece_65 rfl (lv_at hl 0 rfl) ?_
              refine v_call (va_runV (As := [.ref sz]) (rest := []) ⟨hx, hb, hml, hown, hts⟩ (c_Rd_readNameAndArea l G lo _ _ rd tp f t n q_24 sz (sz + 1) (sz + 2) (sz + 3) (nI z_7.1) (nI z_7.2.2) (b2i z_7.2.1) (nI z_13.1) (nI z_13.2.1) (nI z_13.2.2) (nI z_19.length) (nI z_24.1) (nI z_24.2)   (nd_sub hn [4, 5, 3] (by decide) rfl) hT h4 (by omega)) (kwV 1 hts w_co_Rd_readNameAndArea rfl rfl w_it_Rd w_ml_Rd_81 w_im_Rd_readNameAndArea w_se_Rd__Rd_readNameAndArea (by decide +kernel) ⟨by decide, by decide⟩) (u_preV hK hV hn [4, 5, 3] rfl hz 4 rfl rfl) rfl rfl hl.1 rfl (lv_room (Nat.le_of_ble_eq_true rfl)) d_Rd_readPiece_66 ⟨(Nat.le_of_ble_eq_true rfl), (Nat.le_of_ble_eq_true rfl)⟩) hV (fun r9 V9 H locs hp hV hle => ?_)
              obtain ⟨rfl, ⟨y_30, y_31, y_32, rfl, hyx_29⟩, hz⟩ := hp
              replace hV := u_back hV hn [4, 5, 3] rfl
              have hV : vS G.1 cls lo s H locs (vU V [(sz + 3, eI (gI G) 3 g_213), (sz + 2, eI (gI G) 3 g_212), (sz + 1, eI (gI G) 3 g_211), (sz, eO 1 [.int (nI z_7.1), .int (nI z_7.2.2), .int (b2i z_7.2.1), .int (nI z_13.1), .int (nI z_13.2.1), .int (nI z_13.2.2), .int (nI z_19.length), .ref (sz + 1), .ref (sz + 2), .ref (sz + 3), .int (nI z_24.1), .int (nI z_24.2), .long y_30, .int y_31, .int y_32]), (rd, eO 3 [.ref tp, .int (nI n), .int (nI (sR (namR t n q_24)))]), (tp, eI (gB G) 400 f), (tw, eO 5 [.ref ps, .ref bl, .ref sn, .ref tu]), (ps, eQ (gP G) 61 pf)]) := hV
              obtain ⟨x_29, hx_29⟩ : ∃ z, namR t n q_24 = z := ⟨_, rfl⟩
              rw [hx_29] at hV
              have okx_29 := namR_ok (t := t) (n := n) (p := q_24) (by omega)
              rw [hx_29] at okx_29
              rcases x_29 with e_29 | ⟨z_29, q_29⟩
              · have be_29 : e_29 ≤ n := okx_29
                have hV : vS G.1 cls lo s H locs (vU V [(sz + 3, eI (gI G) 3 g_213), (sz + 2, eI (gI G) 3 g_212), (sz + 1, eI (gI G) 3 g_211), (sz, eO 1 [.int (nI z_7.1), .int (nI z_7.2.2), .int (b2i z_7.2.1), .int (nI z_13.1), .int (nI z_13.2.1), .int (nI z_13.2.2), .int (nI z_19.length), .ref (sz + 1), .ref (sz + 2), .ref (sz + 3), .int (nI z_24.1), .int (nI z_24.2), .long y_30, .int y_31, .int y_32]), (rd, eO 3 [.ref tp, .int (nI n), .int (nI e_29)]), (tp, eI (gB G) 400 f), (tw, eO 5 [.ref ps, .ref bl, .ref sn, .ref tu]), (ps, eQ (gP G) 61 pf)]) := hV
                refine W.eq (g2 := F0 mi 69 ls [.int 0]) (by rw [hx_29]; rfl) ?_
                refine lv_if_ne (tgt := 74) hx hb d_Rd_readPiece_69 (by decide) (fun c_33 => absurd c_33 (by decide)) (fun _ => ?_)
                refine lv_iconst (v := 0) hx hb d_Rd_readPiece_72 (by decide) ?_
                have hE : pieceR t n p = .inl e_29 := by simp only [pieceR, sbd_l, sbd_r, hx_1, hx_4, hx_7, hx_13, hx_19, hx_24, hx_29]
                have hsp := vU_split (V := V) (ns := [(sz + 3, eI (gI G) 3 g_213), (sz + 2, eI (gI G) 3 g_212), (sz + 1, eI (gI G) 3 g_211), (sz, eO 1 [.int (nI z_7.1), .int (nI z_7.2.2), .int (b2i z_7.2.1), .int (nI z_13.1), .int (nI z_13.2.1), .int (nI z_13.2.2), .int (nI z_19.length), .ref (sz + 1), .ref (sz + 2), .ref (sz + 3), .int (nI z_24.1), .int (nI z_24.2), .long y_30, .int y_31, .int y_32])]) (ds := [(rd, eO 3 [.ref tp, .int (nI n), .int (nI e_29)]), (tp, eI (gB G) 400 f), (tw, eO 5 [.ref ps, .ref bl, .ref sn, .ref tu]), (ps, eQ (gP G) 61 pf)]) hn
                exact W.zret (v := 0) hx hb hr (by decide) (v_end hV ⟨by rw [hE]; rfl, vU V [(sz + 3, eI (gI G) 3 g_213), (sz + 2, eI (gI G) 3 g_212), (sz + 1, eI (gI G) 3 g_211), (sz, eO 1 [.int (nI z_7.1), .int (nI z_7.2.2), .int (b2i z_7.2.1), .int (nI z_13.1), .int (nI z_13.2.1), .int (nI z_13.2.2), .int (nI z_19.length), .ref (sz + 1), .ref (sz + 2), .ref (sz + 3), .int (nI z_24.1), .int (nI z_24.2), .long y_30, .int y_31, .int y_32])], by rw [hE]; exact hsp, fun q hq => vU_out V _ q (by simp only [List.map_cons, List.map_nil, List.mem_cons, List.not_mem_nil, or_false, not_or]; omega), by omega, by omega, fun z hz9 => by rw [hE] at hz9; cases hz9⟩) hV.2.1.2.2 d_Rd_readPiece_73
              · simp only [] at okx_29
                obtain ⟨wy_30, wy_31, wy_32⟩ := hyx_29 _ hx_29
                subst wy_30 wy_31 wy_32
                have hV : vS G.1 cls lo s H locs (vU V [(sz + 3, eI (gI G) 3 g_213), (sz + 2, eI (gI G) 3 g_212), (sz + 1, eI (gI G) 3 g_211), (sz, eO 1 [.int (nI z_7.1), .int (nI z_7.2.2), .int (b2i z_7.2.1), .int (nI z_13.1), .int (nI z_13.2.1), .int (nI z_13.2.2), .int (nI z_19.length), .ref (sz + 1), .ref (sz + 2), .ref (sz + 3), .int (nI z_24.1), .int (nI z_24.2), .long (lN (encN (nmL z_29))), .int (nI ((nmL z_29).length)), .int (nmA z_29)]), (rd, eO 3 [.ref tp, .int (nI n), .int (nI q_29)]), (tp, eI (gB G) 400 f), (tw, eO 5 [.ref ps, .ref bl, .ref sn, .ref tu]), (ps, eQ (gP G) 61 pf)]) := hV
                refine W.eq (g2 := F0 mi 69 ls [.int 1]) (by rw [hx_29]; rfl) ?_
                refine lv_if_ne (tgt := 74) hx hb d_Rd_readPiece_69 (by decide) (fun _ => ?_) (fun c_34 => absurd c_34 (by decide))
                refine lv_aload_n hx hb d_Rd_readPiece_74 rfl (lv_at hl 3 rfl) ?_
                refine lv_iload_n hx hb d_Rd_readPiece_75 rfl (lv_at hl 1 rfl) ?_
                refine lv_aload_n hx hb d_Rd_readPiece_76 rfl (lv_at hl 0 rfl) ?_
                refine v_call (va_runV (As := [.int (nI v_1), .ref sz]) (rest := []) ⟨hx, hb, hml, hown, hts⟩ (c_Tw_putR l G lo _ _ tw ps bl sn tu sz _ pf (nd_sub hn [6, 7, 3] (by decide) rfl) v_1 (by omega) (by omega)) (kwV 2 hts w_co_Tw_put rfl rfl w_it_Tw w_ml_Rd_84 w_im_Tw_put w_se_Tw__Tw_put (by decide +kernel) ⟨by decide, by decide⟩) (u_preV hK hV hn [6, 7, 3] rfl hz 6 rfl rfl) rfl rfl hl.1 rfl (lv_room (Nat.le_of_ble_eq_true rfl)) d_Rd_readPiece_77 ⟨(Nat.le_of_ble_eq_true rfl), (Nat.le_of_ble_eq_true rfl)⟩) hV (fun r9 V9 H locs hp hV hle => ?_)
                obtain ⟨rfl, rfl, hz⟩ := hp
                replace hV := u_back hV hn [6, 7, 3] rfl
                have hV : vS G.1 cls lo s H locs (vU V [(sz + 3, eI (gI G) 3 g_213), (sz + 2, eI (gI G) 3 g_212), (sz + 1, eI (gI G) 3 g_211), (sz, eO 1 [.int (nI z_7.1), .int (nI z_7.2.2), .int (b2i z_7.2.1), .int (nI z_13.1), .int (nI z_13.2.1), .int (nI z_13.2.2), .int (nI z_19.length), .ref (sz + 1), .ref (sz + 2), .ref (sz + 3), .int (nI z_24.1), .int (nI z_24.2), .long (lN (encN (nmL z_29))), .int (nI ((nmL z_29).length)), .int (nmA z_29)]), (rd, eO 3 [.ref tp, .int (nI n), .int (nI q_29)]), (tp, eI (gB G) 400 f), (tw, eO 5 [.ref ps, .ref bl, .ref sn, .ref tu]), (ps, eQ (gP G) 61 (va_up pf v_1 (some sz)))]) := hV
                refine lv_iconst (v := 1) hx hb d_Rd_readPiece_80 (by decide) ?_
                have hsp := vU_split (V := V) (ns := [(sz + 3, eI (gI G) 3 g_213), (sz + 2, eI (gI G) 3 g_212), (sz + 1, eI (gI G) 3 g_211), (sz, eO 1 [.int (nI z_7.1), .int (nI z_7.2.2), .int (b2i z_7.2.1), .int (nI z_13.1), .int (nI z_13.2.1), .int (nI z_13.2.2), .int (nI z_19.length), .ref (sz + 1), .ref (sz + 2), .ref (sz + 3), .int (nI z_24.1), .int (nI z_24.2), .long (lN (encN (nmL z_29))), .int (nI ((nmL z_29).length)), .int (nmA z_29)])]) (ds := [(rd, eO 3 [.ref tp, .int (nI n), .int (nI q_29)]), (tp, eI (gB G) 400 f), (tw, eO 5 [.ref ps, .ref bl, .ref sn, .ref tu]), (ps, eQ (gP G) 61 (va_up pf v_1 (some sz)))]) hn
                have hE : pieceR t n p = .inr ((v_1, z_7, z_13, z_19, z_24, z_29), q_29) := by simp only [pieceR, sbd_l, sbd_r, hx_1, hx_4, hx_7, hx_13, hx_19, hx_24, hx_29]
                have hpv := pieceR_ok (t := t) (n := n) (p := p) hp
                rw [hE] at hpv
                have hn4 := vN_app_l (ns := [(sz + 3, eI (gI G) 3 g_213), (sz + 2, eI (gI G) 3 g_212), (sz + 1, eI (gI G) 3 g_211), (sz, eO 1 [.int (nI z_7.1), .int (nI z_7.2.2), .int (b2i z_7.2.1), .int (nI z_13.1), .int (nI z_13.2.1), .int (nI z_13.2.2), .int (nI z_19.length), .ref (sz + 1), .ref (sz + 2), .ref (sz + 3), .int (nI z_24.1), .int (nI z_24.2), .long (lN (encN (nmL z_29))), .int (nI ((nmL z_29).length)), .int (nmA z_29)])]) (ds := [(rd, eO 3 [.ref tp, .int (nI n), .int (nI q_29)]), (tp, eI (gB G) 400 f), (tw, eO 5 [.ref ps, .ref bl, .ref sn, .ref tu]), (ps, eQ (gP G) 61 (va_up pf v_1 (some sz)))]) hn
                exact W.zret (v := 1) hx hb hr (by decide) (v_end hV ⟨by rw [hE]; rfl, vU V [(sz + 3, eI (gI G) 3 g_213), (sz + 2, eI (gI G) 3 g_212), (sz + 1, eI (gI G) 3 g_211), (sz, eO 1 [.int (nI z_7.1), .int (nI z_7.2.2), .int (b2i z_7.2.1), .int (nI z_13.1), .int (nI z_13.2.1), .int (nI z_13.2.2), .int (nI z_19.length), .ref (sz + 1), .ref (sz + 2), .ref (sz + 3), .int (nI z_24.1), .int (nI z_24.2), .long (lN (encN (nmL z_29))), .int (nI ((nmL z_29).length)), .int (nmA z_29)])], by rw [hE]; exact hsp, fun q hq => vU_out V _ q (by simp only [List.map_cons, List.map_nil, List.mem_cons, List.not_mem_nil, or_false, not_or]; omega), by omega, by omega, fun z hz9 => by rw [hE] at hz9; cases hz9; exact ⟨⟨vU_at hn4 3 rfl, ⟨g_211, g_212, g_213, vU_at hn4 2 rfl, vU_at hn4 1 rfl, vU_at hn4 0 rfl, hhx_19⟩, hpv.2.2.2.2⟩, hz⟩⟩) hV.2.1.2.2 d_Rd_readPiece_81
