theorem rowsR_er {t : Nat → Nat} {n e : Nat} : ∀ (k : Nat) (A : TnA) (p : Nat), p ≤ n → rowsR t n k A p = .inl e → e ≤ n
  | 0, A, p, _, h => by cases h
  | k + 1, A, p, hp, h => by
    unfold rowsR at h
    by_cases hs : sk t n p < n
    · rw [if_pos hs] at h
      have g := rowR_ok (t := t) (n := n) (p := sk t n p) (by omega)
      rcases h1 : rowR t n (sk t n p) with e1 | ⟨z, q⟩
      · rw [h1] at h g
        simp only [Sum.inl.injEq] at h g
        omega
      · rw [h1] at h g
        simp only [] at h g
        rcases h2 : tk t n 59 q with e2 | q2
        · rw [h2] at h
          simp only [Sum.inl.injEq] at h
          have := tk_er h2 g.2
          omega
        · rw [h2] at h
          simp only [] at h
          have := tk_ok h2
          exact rowsR_er k _ q2 (by omega) h
    · rw [if_neg hs] at h
      cases h
theorem txtR_er {t : Nat → Nat} {n e : Nat} {A : TnA} (h : txtR t n A = .inl e) : e ≤ n := rowsR_er (n + 1) A 0 (Nat.zero_le _) h
theorem twB_pc {G : Gx} {V : Vw} {cs : va_W} {dy sz : Nat} {pf : Nat → Option Nat} {Q : Nat → Option PcR} (hB : twB G V dy sz pf Q) (hc : ∀ a ∈ cs.map Prod.fst, a < dy) : ∀ j a, 1 ≤ j → j ≤ 60 → pf j = some a → dy ≤ a ∧ ∃ vs, vU V cs a = some (eO 1 vs) := fun j a h1 h2 h => by
  obtain ⟨R, -, hp, hd⟩ := hB.yes h1 h2 h
  exact ⟨hd, _, (pcAt_vU (cs := cs) hp hc hd).1⟩
theorem b2i_t {b : Bool} (h : ¬ b2i b = 0) : b = true := by cases b <;> simp_all [b2i]
theorem rdR_1 {t : Nat → Nat} {n e : Nat} {A : TnA} (h : txtR t n A = .inl e) : rdR t n A = .inl 1 := by simp only [rdR, h]
theorem rdR_2 {t : Nat → Nat} {n : Nat} {A A2 : TnA} (h : txtR t n A = .inr A2) (hl : 20 < A2.2.2.2.length) : rdR t n A = .inl 2 := by simp only [rdR, h, if_pos hl]
theorem rdR_3 {t : Nat → Nat} {n : Nat} {A A2 : TnA} (h : txtR t n A = .inr A2) (hl : ¬ 20 < A2.2.2.2.length) : rdR t n A = .inr A2 := by simp only [rdR, h, if_neg hl]

theorem d_SG_init_0 : decode b_SG_init 0 = .ok (.aload_n 0, 1) := by decide +kernel
theorem d_SG_init_1 : decode b_SG_init 1 = .ok (.invokespecial 1, 3) := by decide +kernel
theorem d_SG_init_4 : decode b_SG_init 4 = .ok (.aload_n 0, 1) := by decide +kernel
theorem d_SG_init_5 : decode b_SG_init 5 = .ok (.new 7, 3) := by decide +kernel
theorem d_SG_init_8 : decode b_SG_init 8 = .ok (.dup, 1) := by decide +kernel
theorem d_SG_init_9 : decode b_SG_init 9 = .ok (.invokespecial 9, 3) := by decide +kernel
theorem d_SG_init_12 : decode b_SG_init 12 = .ok (.putfield 10, 3) := by decide +kernel
theorem d_SG_init_15 : decode b_SG_init 15 = .ok (.aload_n 0, 1) := by decide +kernel
theorem d_SG_init_16 : decode b_SG_init 16 = .ok (.new 16, 3) := by decide +kernel
theorem d_SG_init_19 : decode b_SG_init 19 = .ok (.dup, 1) := by decide +kernel
theorem d_SG_init_20 : decode b_SG_init 20 = .ok (.invokespecial 18, 3) := by decide +kernel
theorem d_SG_init_23 : decode b_SG_init 23 = .ok (.putfield 19, 3) := by decide +kernel
theorem d_SG_init_26 : decode b_SG_init 26 = .ok (.aload_n 0, 1) := by decide +kernel
theorem d_SG_init_27 : decode b_SG_init 27 = .ok (.new 23, 3) := by decide +kernel
theorem d_SG_init_30 : decode b_SG_init 30 = .ok (.dup, 1) := by decide +kernel
theorem d_SG_init_31 : decode b_SG_init 31 = .ok (.invokespecial 25, 3) := by decide +kernel
theorem d_SG_init_34 : decode b_SG_init 34 = .ok (.putfield 26, 3) := by decide +kernel
theorem d_SG_init_37 : decode b_SG_init 37 = .ok (.aload_n 0, 1) := by decide +kernel
theorem d_SG_init_38 : decode b_SG_init 38 = .ok (.new 30, 3) := by decide +kernel
theorem d_SG_init_41 : decode b_SG_init 41 = .ok (.dup, 1) := by decide +kernel
theorem d_SG_init_42 : decode b_SG_init 42 = .ok (.invokespecial 32, 3) := by decide +kernel
theorem d_SG_init_45 : decode b_SG_init 45 = .ok (.putfield 33, 3) := by decide +kernel
theorem d_SG_init_48 : decode b_SG_init 48 = .ok (.aload_n 0, 1) := by decide +kernel
theorem d_SG_init_49 : decode b_SG_init 49 = .ok (.new 30, 3) := by decide +kernel
theorem d_SG_init_52 : decode b_SG_init 52 = .ok (.dup, 1) := by decide +kernel
theorem d_SG_init_53 : decode b_SG_init 53 = .ok (.invokespecial 32, 3) := by decide +kernel
theorem d_SG_init_56 : decode b_SG_init 56 = .ok (.putfield 37, 3) := by decide +kernel
theorem d_SG_init_59 : decode b_SG_init 59 = .ok (.aload_n 0, 1) := by decide +kernel
theorem d_SG_init_60 : decode b_SG_init 60 = .ok (.iconst (-1), 1) := by decide +kernel
theorem d_SG_init_61 : decode b_SG_init 61 = .ok (.putfield 40, 3) := by decide +kernel
theorem d_SG_init_64 : decode b_SG_init 64 = .ok (.return_, 1) := by decide +kernel

set_option maxHeartbeats 4000000 in
set_option maxRecDepth 100000 in
/-- Reader() -/
theorem c_Rd_init (l : Launch) (G : Gx) (lo : Nat) (V : Vw) (sz : Nat) (rd : Nat) (hrd : rd < sz) : Met l y_Rd_init ws_Rd_init ({ frames := 1, cells := 1, slots := 400, locals := 12 } : Room) (vPre G lo [.ref rd] (vU V [(rd, eO 3 [.null, .int 0, .int 0])]) sz) (vPost G lo (fun r V' k => r = none ∧ V' = vU V [(sz, eI (gB G) 400 (fun _ => 0)), (rd, eO 3 [.ref sz, .int 0, .int 0])] ∧ k = sz + 1)) 1 400 (vL lo) := by
  refine vMet (R := RRd) (by decide) rfl (Nat.le_of_ble_eq_true rfl) ?_
  intro pg ev s mi args below meth cd hx hb hr hml hlk hnm hts hown hK hz hV ls hl
  have hl : lv_has ls 1 [(0, .ref rd)] := hl
  have hV0 := hV
  obtain ⟨H, hH⟩ : ∃ H, H = s.heap := ⟨_, rfl⟩
  obtain ⟨locs, hlocs⟩ : ∃ locs : List Loc, locs = [] := ⟨_, rfl⟩
  rw [← hH, ← hlocs]
  rw [← hH] at hz
  replace hV : vS G.1 cls lo s H locs (vU V [(rd, eO 3 [.null, .int 0, .int 0])]) := by rw [hH, hlocs]; exact hV
  clear hH hlocs hV0
  have hn : [rd].Nodup := by simp
  refine lv_aload_n hx hb d_Rd_init_0 rfl (lv_at hl 0 rfl) ?_
  refine W.objInit hx hb hown (hts _ w_ml_Rd_3) (hts _ w_im_Ob_init) (hts _ w_co_Ob_init) rfl (by rw [hml]; exact hl.1) rfl d_Rd_init_1 (Nat.le_of_ble_eq_true rfl) (Nat.le_of_ble_eq_true rfl) ?_
  refine W.eq (g2 := F0 mi 4 ls []) rfl ?_
  refine lv_aload_n hx hb d_Rd_init_4 rfl (lv_at hl 0 rfl) ?_
  refine lv_sipush (v := 400) hx hb d_Rd_init_5 (by decide) ?_
  refine u_newa (atype := .byte) hx hb hts w_ac_byte rfl hK hV 1 rfl (a0 := (400, .inl (fun _ => 0))) (fun _ => rfl) (by decide) (N' := 400) (by decide) (by decide) (Nat.le_of_ble_eq_true rfl) (Nat.le_of_ble_eq_true rfl) d_Rd_init_8 hz (fun H hV hz => ?_)
  have hV : vS G.1 cls lo s H locs (vU V [(sz, eI (gB G) 400 (fun _ => 0)), (rd, eO 3 [.null, .int 0, .int 0])]) := hV
  have hn : [sz, rd].Nodup := List.nodup_cons.mpr ⟨by simp only [List.mem_cons, List.not_mem_nil, or_false, not_or]; omega, hn⟩
  refine u_putF hx hb hts inRd tyRd tyRd_ok nmRd hown hK hV hn 1 rfl rfl 0 (by decide) w_fl_Rd_9 rfl rfl hnm rfl rfl rfl (Nat.le_of_ble_eq_true rfl) d_Rd_init_10 (fun H locs hV hz9 => ?_)
  have hV : vS G.1 cls lo s H locs (vU V [(sz, eI (gB G) 400 (fun _ => 0)), (rd, eO 3 [.ref sz, .int 0, .int 0])]) := hV
  replace hz := hz9.trans hz
  exact W.vret hx hb hr (v_end hV ⟨rfl, rfl, hz⟩) hV.2.1.2.2 d_Rd_init_13

set_option maxHeartbeats 4000000 in
set_option maxRecDepth 100000 in
/-- StreetGraph() -/
theorem c_SG_init (l : Launch) (G : Gx) (lo : Nat) (V : Vw) (sz : Nat) (x : Nat) (hx0 : x < sz) : Met l y_SG_init ws_SG_init ({ frames := 3, cells := 31, slots := 6304, locals := 60 } : Room) (vPre G lo [.ref x] (vU V [(x, eO 7 [.null, .null, .null, .null, .null, .int 0])]) sz) (vPost G lo (fun r V' k => r = none ∧ V' = vU V [(sz + 30, eI (gI G) 20 (fun _ => 0)), (sz + 29, eI (gI G) 20 (fun _ => 0)), (sz + 28, eI (gI G) 20 (fun _ => 0)), (sz + 27, eO 6 [.ref (sz + 28), .ref (sz + 29), .ref (sz + 30), .int 0, .int 0]), (sz + 26, eI (gI G) 31 (fun _ => 0)), (sz + 25, eI (gI G) 31 (fun _ => 0)), (sz + 24, eO 4 [.ref (sz + 25), .ref (sz + 26)]), (sz + 23, eI (gI G) 31 (fun _ => 0)), (sz + 22, eI (gI G) 31 (fun _ => 0)), (sz + 21, eO 4 [.ref (sz + 22), .ref (sz + 23)]), (sz + 20, eQ (gP G) 61 (fun _ => none)), (sz + 19, eO 5 [.ref (sz + 20), .ref (sz + 21), .ref (sz + 24), .ref (sz + 27)]), (sz + 18, eI (gI G) 20 (fun _ => 0)), (sz + 17, eI (gI G) 20 (fun _ => 0)), (sz + 16, eI (gI G) 20 (fun _ => 0)), (sz + 15, eO 6 [.ref (sz + 16), .ref (sz + 17), .ref (sz + 18), .int 0, .int 0]), (sz + 14, eI (gI G) 31 (fun _ => 0)), (sz + 13, eI (gI G) 31 (fun _ => 0)), (sz + 12, eO 4 [.ref (sz + 13), .ref (sz + 14)]), (sz + 11, eI (gI G) 31 (fun _ => 0)), (sz + 10, eI (gI G) 31 (fun _ => 0)), (sz + 9, eO 4 [.ref (sz + 10), .ref (sz + 11)]), (sz + 8, eQ (gP G) 61 (fun _ => none)), (sz + 7, eO 5 [.ref (sz + 8), .ref (sz + 9), .ref (sz + 12), .ref (sz + 15)]), (sz + 6, eI (gB G) 4880 (fun _ => 0)), (sz + 5, eO 2 [.ref (sz + 6), .int 0]), (sz + 4, eI (gI G) 250 (fun _ => 0)), (sz + 3, eI (gI G) 250 (fun _ => 0)), (sz + 2, eO 0 [.ref (sz + 3), .ref (sz + 4), .int 0]), (sz + 1, eI (gB G) 400 (fun _ => 0)), (sz, eO 3 [.ref (sz + 1), .int 0, .int 0]), (x, eO 7 [.ref sz, .ref (sz + 2), .ref (sz + 5), .ref (sz + 7), .ref (sz + 19), .int ((-1))])] ∧ k = sz + 31)) 31 6304 (vL lo) := by
  refine vMet (R := RSG) (by decide) rfl (Nat.le_of_ble_eq_true rfl) ?_
  intro pg ev s mi args below meth cd hx hb hr hml hlk hnm hts hown hK hz hV ls hl
  have hl : lv_has ls 1 [(0, .ref x)] := hl
  have hV0 := hV
  obtain ⟨H, hH⟩ : ∃ H, H = s.heap := ⟨_, rfl⟩
  obtain ⟨locs, hlocs⟩ : ∃ locs : List Loc, locs = [] := ⟨_, rfl⟩
  rw [← hH, ← hlocs]
  rw [← hH] at hz
  replace hV : vS G.1 cls lo s H locs (vU V [(x, eO 7 [.null, .null, .null, .null, .null, .int 0])]) := by rw [hH, hlocs]; exact hV
  clear hH hlocs hV0
  have hn : [x].Nodup := by simp
  refine lv_aload_n hx hb d_SG_init_0 rfl (lv_at hl 0 rfl) ?_
  refine W.objInit hx hb hown (hts _ w_ml_SG_1) (hts _ w_im_Ob_init) (hts _ w_co_Ob_init) rfl (by rw [hml]; exact hl.1) rfl d_SG_init_1 (Nat.le_of_ble_eq_true rfl) (Nat.le_of_ble_eq_true rfl) ?_
  refine W.eq (g2 := F0 mi 4 ls []) rfl ?_
  refine lv_aload_n hx hb d_SG_init_4 rfl (lv_at hl 0 rfl) ?_
  refine u_new (ci := 3) hx hb hts inRd tyRd tyRd_ok hown w_cl_SG_7 w_in_Rd w_it_Rd hK hV rfl (fs := [.null, .int 0, .int 0]) (fun j hj => by rcases (show j = 0 ∨ j = 1 ∨ j = 2 by omega) with rfl | rfl | rfl <;> rfl) (Nat.le_of_ble_eq_true rfl) (Nat.le_of_ble_eq_true rfl) d_SG_init_5 hz (fun H hV hz => ?_)
  have hV : vS G.1 cls lo s H locs (vU V [(sz, eO 3 [.null, .int 0, .int 0]), (x, eO 7 [.null, .null, .null, .null, .null, .int 0])]) := hV
  have hn : [sz, x].Nodup := List.nodup_cons.mpr ⟨by simp only [List.mem_cons, List.not_mem_nil, or_false, not_or]; omega, hn⟩
  refine lv_dup hx hb d_SG_init_8 rfl ?_
  refine v_call (va_runIN (As := []) (rest := [.ref sz, .ref x]) ⟨hx, hb, hml, hown, hts⟩ (c_Rd_init l G lo _ _ sz (by omega)) ⟨va_cnB 0 hts (goodL w_co_Rd_init) rfl rfl rfl (hK.2.1 _ (List.mem_of_getElem? (i := 0) rfl)) (hts _ w_it_Rd) (by decide +kernel) ⟨(Nat.le_of_ble_eq_true rfl), (Nat.le_of_ble_eq_true rfl)⟩, rfl, hts _ w_im_Rd_init⟩ (u_preS hK hV hn [0] rfl hz) rfl rfl hl.1 rfl (lv_room (Nat.le_of_ble_eq_true rfl)) d_SG_init_9 ⟨(Nat.le_of_ble_eq_true rfl), (Nat.le_of_ble_eq_true rfl)⟩) hV (fun r9 V9 H locs hp hV hle => ?_)
  obtain ⟨rfl, rfl, hz⟩ := hp
  replace hV := u_backN 1 hV hn [0] rfl
  have hn : [sz + 1, sz, x].Nodup := List.nodup_cons.mpr ⟨by simp only [List.mem_cons, List.not_mem_nil, or_false, not_or]; omega, hn⟩
  have hz : H.size = sz + 2 := hz
  have hV : vS G.1 cls lo s H locs (vU V [(sz + 1, eI (gB G) 400 (fun _ => 0)), (sz, eO 3 [.ref (sz + 1), .int 0, .int 0]), (x, eO 7 [.null, .null, .null, .null, .null, .int 0])]) := hV
  refine u_putF hx hb hts inSG tySG tySG_ok nmSG hown hK hV hn 2 rfl rfl 0 (by decide) w_fl_SG_10 rfl rfl hnm rfl rfl rfl (Nat.le_of_ble_eq_true rfl) d_SG_init_12 (fun H locs hV hz9 => ?_)
  have hV : vS G.1 cls lo s H locs (vU V [(sz + 1, eI (gB G) 400 (fun _ => 0)), (sz, eO 3 [.ref (sz + 1), .int 0, .int 0]), (x, eO 7 [.ref sz, .null, .null, .null, .null, .int 0])]) := hV
  replace hz := hz9.trans hz
  refine lv_aload_n hx hb d_SG_init_15 rfl (lv_at hl 0 rfl) ?_
  refine u_new (ci := 0) hx hb hts inCk tyCk tyCk_ok hown w_cl_SG_16 w_in_Ck w_it_Ck hK hV rfl (fs := [.null, .null, .int 0]) (fun j hj => by rcases (show j = 0 ∨ j = 1 ∨ j = 2 by omega) with rfl | rfl | rfl <;> rfl) (Nat.le_of_ble_eq_true rfl) (Nat.le_of_ble_eq_true rfl) d_SG_init_16 hz (fun H hV hz => ?_)
  have hV : vS G.1 cls lo s H locs (vU V [(sz + 2, eO 0 [.null, .null, .int 0]), (sz + 1, eI (gB G) 400 (fun _ => 0)), (sz, eO 3 [.ref (sz + 1), .int 0, .int 0]), (x, eO 7 [.ref sz, .null, .null, .null, .null, .int 0])]) := hV
  have hn : [sz + 2, sz + 1, sz, x].Nodup := List.nodup_cons.mpr ⟨by simp only [List.mem_cons, List.not_mem_nil, or_false, not_or]; omega, hn⟩
  refine lv_dup hx hb d_SG_init_19 rfl ?_
  refine v_call (va_runIN (As := []) (rest := [.ref (sz + 2), .ref x]) ⟨hx, hb, hml, hown, hts⟩ (c_Ck_init l G lo _ _ (sz + 2) (by omega)) ⟨va_cnB 0 hts (goodL w_co_Ck_init) rfl rfl rfl (hK.2.1 _ (List.mem_of_getElem? (i := 1) rfl)) (hts _ w_it_Ck) (by decide +kernel) ⟨(Nat.le_of_ble_eq_true rfl), (Nat.le_of_ble_eq_true rfl)⟩, rfl, hts _ w_im_Ck_init⟩ (u_preS hK hV hn [0] rfl hz) rfl rfl hl.1 rfl (lv_room (Nat.le_of_ble_eq_true rfl)) d_SG_init_20 ⟨(Nat.le_of_ble_eq_true rfl), (Nat.le_of_ble_eq_true rfl)⟩) hV (fun r9 V9 H locs hp hV hle => ?_)
  obtain ⟨rfl, rfl, hz⟩ := hp
  replace hV := u_backN 2 hV hn [0] rfl
  have hn : [sz + 3, sz + 2, sz + 1, sz, x].Nodup := List.nodup_cons.mpr ⟨by simp only [List.mem_cons, List.not_mem_nil, or_false, not_or]; omega, hn⟩
  have hn : [sz + 4, sz + 3, sz + 2, sz + 1, sz, x].Nodup := List.nodup_cons.mpr ⟨by simp only [List.mem_cons, List.not_mem_nil, or_false, not_or]; omega, hn⟩
  have hz : H.size = sz + 5 := hz
  have hV : vS G.1 cls lo s H locs (vU V [(sz + 4, eI (gI G) 250 (fun _ => 0)), (sz + 3, eI (gI G) 250 (fun _ => 0)), (sz + 2, eO 0 [.ref (sz + 3), .ref (sz + 4), .int 0]), (sz + 1, eI (gB G) 400 (fun _ => 0)), (sz, eO 3 [.ref (sz + 1), .int 0, .int 0]), (x, eO 7 [.ref sz, .null, .null, .null, .null, .int 0])]) := hV
  refine u_putF hx hb hts inSG tySG tySG_ok nmSG hown hK hV hn 5 rfl rfl 1 (by decide) w_fl_SG_19 rfl rfl hnm rfl rfl rfl (Nat.le_of_ble_eq_true rfl) d_SG_init_23 (fun H locs hV hz9 => ?_)
  have hV : vS G.1 cls lo s H locs (vU V [(sz + 4, eI (gI G) 250 (fun _ => 0)), (sz + 3, eI (gI G) 250 (fun _ => 0)), (sz + 2, eO 0 [.ref (sz + 3), .ref (sz + 4), .int 0]), (sz + 1, eI (gB G) 400 (fun _ => 0)), (sz, eO 3 [.ref (sz + 1), .int 0, .int 0]), (x, eO 7 [.ref sz, .ref (sz + 2), .null, .null, .null, .int 0])]) := hV
  replace hz := hz9.trans hz
  refine lv_aload_n hx hb d_SG_init_26 rfl (lv_at hl 0 rfl) ?_
  refine u_new (ci := 2) hx hb hts inPr tyPr tyPr_ok hown w_cl_SG_23 w_in_Pr w_it_Pr hK hV rfl (fs := [.null, .int 0]) (fun j hj => by rcases (show j = 0 ∨ j = 1 by omega) with rfl | rfl <;> rfl) (Nat.le_of_ble_eq_true rfl) (Nat.le_of_ble_eq_true rfl) d_SG_init_27 hz (fun H hV hz => ?_)
  have hV : vS G.1 cls lo s H locs (vU V [(sz + 5, eO 2 [.null, .int 0]), (sz + 4, eI (gI G) 250 (fun _ => 0)), (sz + 3, eI (gI G) 250 (fun _ => 0)), (sz + 2, eO 0 [.ref (sz + 3), .ref (sz + 4), .int 0]), (sz + 1, eI (gB G) 400 (fun _ => 0)), (sz, eO 3 [.ref (sz + 1), .int 0, .int 0]), (x, eO 7 [.ref sz, .ref (sz + 2), .null, .null, .null, .int 0])]) := hV
  have hn : [sz + 5, sz + 4, sz + 3, sz + 2, sz + 1, sz, x].Nodup := List.nodup_cons.mpr ⟨by simp only [List.mem_cons, List.not_mem_nil, or_false, not_or]; omega, hn⟩
  refine lv_dup hx hb d_SG_init_30 rfl ?_
  refine v_call (va_runIN (As := []) (rest := [.ref (sz + 5), .ref x]) ⟨hx, hb, hml, hown, hts⟩ (c_Pr_init l G lo _ _ (sz + 5) (by omega)) ⟨va_cnB 0 hts (goodL w_co_Pr_init) rfl rfl rfl (hK.2.1 _ (List.mem_of_getElem? (i := 2) rfl)) (hts _ w_it_Pr) (by decide +kernel) ⟨(Nat.le_of_ble_eq_true rfl), (Nat.le_of_ble_eq_true rfl)⟩, rfl, hts _ w_im_Pr_init⟩ (u_preS hK hV hn [0] rfl hz) rfl rfl hl.1 rfl (lv_room (Nat.le_of_ble_eq_true rfl)) d_SG_init_31 ⟨(Nat.le_of_ble_eq_true rfl), (Nat.le_of_ble_eq_true rfl)⟩) hV (fun r9 V9 H locs hp hV hle => ?_)
  obtain ⟨rfl, rfl, hz⟩ := hp
  replace hV := u_backN 1 hV hn [0] rfl
  have hn : [sz + 6, sz + 5, sz + 4, sz + 3, sz + 2, sz + 1, sz, x].Nodup := List.nodup_cons.mpr ⟨by simp only [List.mem_cons, List.not_mem_nil, or_false, not_or]; omega, hn⟩
  have hz : H.size = sz + 7 := hz
  have hV : vS G.1 cls lo s H locs (vU V [(sz + 6, eI (gB G) 4880 (fun _ => 0)), (sz + 5, eO 2 [.ref (sz + 6), .int 0]), (sz + 4, eI (gI G) 250 (fun _ => 0)), (sz + 3, eI (gI G) 250 (fun _ => 0)), (sz + 2, eO 0 [.ref (sz + 3), .ref (sz + 4), .int 0]), (sz + 1, eI (gB G) 400 (fun _ => 0)), (sz, eO 3 [.ref (sz + 1), .int 0, .int 0]), (x, eO 7 [.ref sz, .ref (sz + 2), .null, .null, .null, .int 0])]) := hV
  refine u_putF hx hb hts inSG tySG tySG_ok nmSG hown hK hV hn 7 rfl rfl 2 (by decide) w_fl_SG_26 rfl rfl hnm rfl rfl rfl (Nat.le_of_ble_eq_true rfl) d_SG_init_34 (fun H locs hV hz9 => ?_)
  have hV : vS G.1 cls lo s H locs (vU V [(sz + 6, eI (gB G) 4880 (fun _ => 0)), (sz + 5, eO 2 [.ref (sz + 6), .int 0]), (sz + 4, eI (gI G) 250 (fun _ => 0)), (sz + 3, eI (gI G) 250 (fun _ => 0)), (sz + 2, eO 0 [.ref (sz + 3), .ref (sz + 4), .int 0]), (sz + 1, eI (gB G) 400 (fun _ => 0)), (sz, eO 3 [.ref (sz + 1), .int 0, .int 0]), (x, eO 7 [.ref sz, .ref (sz + 2), .ref (sz + 5), .null, .null, .int 0])]) := hV
  replace hz := hz9.trans hz
  refine lv_aload_n hx hb d_SG_init_37 rfl (lv_at hl 0 rfl) ?_
  refine u_new (ci := 5) hx hb hts inTw tyTw tyTw_ok hown w_cl_SG_30 w_in_Tw w_it_Tw hK hV rfl (fs := [.null, .null, .null, .null]) (fun j hj => by rcases (show j = 0 ∨ j = 1 ∨ j = 2 ∨ j = 3 by omega) with rfl | rfl | rfl | rfl <;> rfl) (Nat.le_of_ble_eq_true rfl) (Nat.le_of_ble_eq_true rfl) d_SG_init_38 hz (fun H hV hz => ?_)
  have hV : vS G.1 cls lo s H locs (vU V [(sz + 7, eO 5 [.null, .null, .null, .null]), (sz + 6, eI (gB G) 4880 (fun _ => 0)), (sz + 5, eO 2 [.ref (sz + 6), .int 0]), (sz + 4, eI (gI G) 250 (fun _ => 0)), (sz + 3, eI (gI G) 250 (fun _ => 0)), (sz + 2, eO 0 [.ref (sz + 3), .ref (sz + 4), .int 0]), (sz + 1, eI (gB G) 400 (fun _ => 0)), (sz, eO 3 [.ref (sz + 1), .int 0, .int 0]), (x, eO 7 [.ref sz, .ref (sz + 2), .ref (sz + 5), .null, .null, .int 0])]) := hV
  have hn : [sz + 7, sz + 6, sz + 5, sz + 4, sz + 3, sz + 2, sz + 1, sz, x].Nodup := List.nodup_cons.mpr ⟨by simp only [List.mem_cons, List.not_mem_nil, or_false, not_or]; omega, hn⟩
  refine lv_dup hx hb d_SG_init_41 rfl ?_
  refine v_call (va_runIN (As := []) (rest := [.ref (sz + 7), .ref x]) ⟨hx, hb, hml, hown, hts⟩ (c_Tw_init l G lo _ _ (sz + 7) (by omega)) ⟨va_cnB 0 hts (goodL w_co_Tw_init) rfl rfl rfl (hK.2.1 _ (List.mem_of_getElem? (i := 3) rfl)) (hts _ w_it_Tw) (by decide +kernel) ⟨(Nat.le_of_ble_eq_true rfl), (Nat.le_of_ble_eq_true rfl)⟩, rfl, hts _ w_im_Tw_init⟩ (u_preS hK hV hn [0] rfl hz) rfl rfl hl.1 rfl (lv_room (Nat.le_of_ble_eq_true rfl)) d_SG_init_42 ⟨(Nat.le_of_ble_eq_true rfl), (Nat.le_of_ble_eq_true rfl)⟩) hV (fun r9 V9 H locs hp hV hle => ?_)
  obtain ⟨rfl, rfl, hz⟩ := hp
  replace hV := u_backN 11 hV hn [0] rfl
  have hn : [sz + 8, sz + 7, sz + 6, sz + 5, sz + 4, sz + 3, sz + 2, sz + 1, sz, x].Nodup := List.nodup_cons.mpr ⟨by simp only [List.mem_cons, List.not_mem_nil, or_false, not_or]; omega, hn⟩
  have hn : [sz + 9, sz + 8, sz + 7, sz + 6, sz + 5, sz + 4, sz + 3, sz + 2, sz + 1, sz, x].Nodup := List.nodup_cons.mpr ⟨by simp only [List.mem_cons, List.not_mem_nil, or_false, not_or]; omega, hn⟩
  have hn : [sz + 10, sz + 9, sz + 8, sz + 7, sz + 6, sz + 5, sz + 4, sz + 3, sz + 2, sz + 1, sz, x].Nodup := List.nodup_cons.mpr ⟨by simp only [List.mem_cons, List.not_mem_nil, or_false, not_or]; omega, hn⟩
  have hn : [sz + 11, sz + 10, sz + 9, sz + 8, sz + 7, sz + 6, sz + 5, sz + 4, sz + 3, sz + 2, sz + 1, sz, x].Nodup := List.nodup_cons.mpr ⟨by simp only [List.mem_cons, List.not_mem_nil, or_false, not_or]; omega, hn⟩
  have hn : [sz + 12, sz + 11, sz + 10, sz + 9, sz + 8, sz + 7, sz + 6, sz + 5, sz + 4, sz + 3, sz + 2, sz + 1, sz, x].Nodup := List.nodup_cons.mpr ⟨by simp only [List.mem_cons, List.not_mem_nil, or_false, not_or]; omega, hn⟩
  have hn : [sz + 13, sz + 12, sz + 11, sz + 10, sz + 9, sz + 8, sz + 7, sz + 6, sz + 5, sz + 4, sz + 3, sz + 2, sz + 1, sz, x].Nodup := List.nodup_cons.mpr ⟨by simp only [List.mem_cons, List.not_mem_nil, or_false, not_or]; omega, hn⟩
  have hn : [sz + 14, sz + 13, sz + 12, sz + 11, sz + 10, sz + 9, sz + 8, sz + 7, sz + 6, sz + 5, sz + 4, sz + 3, sz + 2, sz + 1, sz, x].Nodup := List.nodup_cons.mpr ⟨by simp only [List.mem_cons, List.not_mem_nil, or_false, not_or]; omega, hn⟩
  have hn : [sz + 15, sz + 14, sz + 13, sz + 12, sz + 11, sz + 10, sz + 9, sz + 8, sz + 7, sz + 6, sz + 5, sz + 4, sz + 3, sz + 2, sz + 1, sz, x].Nodup := List.nodup_cons.mpr ⟨by simp only [List.mem_cons, List.not_mem_nil, or_false, not_or]; omega, hn⟩
  have hn : [sz + 16, sz + 15, sz + 14, sz + 13, sz + 12, sz + 11, sz + 10, sz + 9, sz + 8, sz + 7, sz + 6, sz + 5, sz + 4, sz + 3, sz + 2, sz + 1, sz, x].Nodup := List.nodup_cons.mpr ⟨by simp only [List.mem_cons, List.not_mem_nil, or_false, not_or]; omega, hn⟩
  have hn : [sz + 17, sz + 16, sz + 15, sz + 14, sz + 13, sz + 12, sz + 11, sz + 10, sz + 9, sz + 8, sz + 7, sz + 6, sz + 5, sz + 4, sz + 3, sz + 2, sz + 1, sz, x].Nodup := List.nodup_cons.mpr ⟨by simp only [List.mem_cons, List.not_mem_nil, or_false, not_or]; omega, hn⟩
  have hn : [sz + 18, sz + 17, sz + 16, sz + 15, sz + 14, sz + 13, sz + 12, sz + 11, sz + 10, sz + 9, sz + 8, sz + 7, sz + 6, sz + 5, sz + 4, sz + 3, sz + 2, sz + 1, sz, x].Nodup := List.nodup_cons.mpr ⟨by simp only [List.mem_cons, List.not_mem_nil, or_false, not_or]; omega, hn⟩
  have hz : H.size = sz + 19 := hz
  have hV : vS G.1 cls lo s H locs (vU V [(sz + 18, eI (gI G) 20 (fun _ => 0)), (sz + 17, eI (gI G) 20 (fun _ => 0)), (sz + 16, eI (gI G) 20 (fun _ => 0)), (sz + 15, eO 6 [.ref (sz + 16), .ref (sz + 17), .ref (sz + 18), .int 0, .int 0]), (sz + 14, eI (gI G) 31 (fun _ => 0)), (sz + 13, eI (gI G) 31 (fun _ => 0)), (sz + 12, eO 4 [.ref (sz + 13), .ref (sz + 14)]), (sz + 11, eI (gI G) 31 (fun _ => 0)), (sz + 10, eI (gI G) 31 (fun _ => 0)), (sz + 9, eO 4 [.ref (sz + 10), .ref (sz + 11)]), (sz + 8, eQ (gP G) 61 (fun _ => none)), (sz + 7, eO 5 [.ref (sz + 8), .ref (sz + 9), .ref (sz + 12), .ref (sz + 15)]), (sz + 6, eI (gB G) 4880 (fun _ => 0)), (sz + 5, eO 2 [.ref (sz + 6), .int 0]), (sz + 4, eI (gI G) 250 (fun _ => 0)), (sz + 3, eI (gI G) 250 (fun _ => 0)), (sz + 2, eO 0 [.ref (sz + 3), .ref (sz + 4), .int 0]), (sz + 1, eI (gB G) 400 (fun _ => 0)), (sz, eO 3 [.ref (sz + 1), .int 0, .int 0]), (x, eO 7 [.ref sz, .ref (sz + 2), .ref (sz + 5), .null, .null, .int 0])]) := hV
  refine u_put hx hb hts inSG tySG tySG_ok nmSG hown hK hV hn 19 rfl rfl 3 (by decide) w_fl_SG_33 rfl rfl rfl rfl (Nat.le_of_ble_eq_true rfl) d_SG_init_45 (fun H locs hV hz9 => ?_)
  have hV : vS G.1 cls lo s H locs (vU V [(sz + 18, eI (gI G) 20 (fun _ => 0)), (sz + 17, eI (gI G) 20 (fun _ => 0)), (sz + 16, eI (gI G) 20 (fun _ => 0)), (sz + 15, eO 6 [.ref (sz + 16), .ref (sz + 17), .ref (sz + 18), .int 0, .int 0]), (sz + 14, eI (gI G) 31 (fun _ => 0)), (sz + 13, eI (gI G) 31 (fun _ => 0)), (sz + 12, eO 4 [.ref (sz + 13), .ref (sz + 14)]), (sz + 11, eI (gI G) 31 (fun _ => 0)), (sz + 10, eI (gI G) 31 (fun _ => 0)), (sz + 9, eO 4 [.ref (sz + 10), .ref (sz + 11)]), (sz + 8, eQ (gP G) 61 (fun _ => none)), (sz + 7, eO 5 [.ref (sz + 8), .ref (sz + 9), .ref (sz + 12), .ref (sz + 15)]), (sz + 6, eI (gB G) 4880 (fun _ => 0)), (sz + 5, eO 2 [.ref (sz + 6), .int 0]), (sz + 4, eI (gI G) 250 (fun _ => 0)), (sz + 3, eI (gI G) 250 (fun _ => 0)), (sz + 2, eO 0 [.ref (sz + 3), .ref (sz + 4), .int 0]), (sz + 1, eI (gB G) 400 (fun _ => 0)), (sz, eO 3 [.ref (sz + 1), .int 0, .int 0]), (x, eO 7 [.ref sz, .ref (sz + 2), .ref (sz + 5), .ref (sz + 7), .null, .int 0])]) := hV
  replace hz := hz9.trans hz
  refine lv_aload_n hx hb d_SG_init_48 rfl (lv_at hl 0 rfl) ?_
  refine u_new (ci := 5) hx hb hts inTw tyTw tyTw_ok hown w_cl_SG_30 w_in_Tw w_it_Tw hK hV rfl (fs := [.null, .null, .null, .null]) (fun j hj => by rcases (show j = 0 ∨ j = 1 ∨ j = 2 ∨ j = 3 by omega) with rfl | rfl | rfl | rfl <;> rfl) (Nat.le_of_ble_eq_true rfl) (Nat.le_of_ble_eq_true rfl) d_SG_init_49 hz (fun H hV hz => ?_)
  have hV : vS G.1 cls lo s H locs (vU V [(sz + 19, eO 5 [.null, .null, .null, .null]), (sz + 18, eI (gI G) 20 (fun _ => 0)), (sz + 17, eI (gI G) 20 (fun _ => 0)), (sz + 16, eI (gI G) 20 (fun _ => 0)), (sz + 15, eO 6 [.ref (sz + 16), .ref (sz + 17), .ref (sz + 18), .int 0, .int 0]), (sz + 14, eI (gI G) 31 (fun _ => 0)), (sz + 13, eI (gI G) 31 (fun _ => 0)), (sz + 12, eO 4 [.ref (sz + 13), .ref (sz + 14)]), (sz + 11, eI (gI G) 31 (fun _ => 0)), (sz + 10, eI (gI G) 31 (fun _ => 0)), (sz + 9, eO 4 [.ref (sz + 10), .ref (sz + 11)]), (sz + 8, eQ (gP G) 61 (fun _ => none)), (sz + 7, eO 5 [.ref (sz + 8), .ref (sz + 9), .ref (sz + 12), .ref (sz + 15)]), (sz + 6, eI (gB G) 4880 (fun _ => 0)), (sz + 5, eO 2 [.ref (sz + 6), .int 0]), (sz + 4, eI (gI G) 250 (fun _ => 0)), (sz + 3, eI (gI G) 250 (fun _ => 0)), (sz + 2, eO 0 [.ref (sz + 3), .ref (sz + 4), .int 0]), (sz + 1, eI (gB G) 400 (fun _ => 0)), (sz, eO 3 [.ref (sz + 1), .int 0, .int 0]), (x, eO 7 [.ref sz, .ref (sz + 2), .ref (sz + 5), .ref (sz + 7), .null, .int 0])]) := hV
  have hn : [sz + 19, sz + 18, sz + 17, sz + 16, sz + 15, sz + 14, sz + 13, sz + 12, sz + 11, sz + 10, sz + 9, sz + 8, sz + 7, sz + 6, sz + 5, sz + 4, sz + 3, sz + 2, sz + 1, sz, x].Nodup := List.nodup_cons.mpr ⟨by simp only [List.mem_cons, List.not_mem_nil, or_false, not_or]; omega, hn⟩
  refine lv_dup hx hb d_SG_init_52 rfl ?_
  refine v_call (va_runIN (As := []) (rest := [.ref (sz + 19), .ref x]) ⟨hx, hb, hml, hown, hts⟩ (c_Tw_init l G lo _ _ (sz + 19) (by omega)) ⟨va_cnB 0 hts (goodL w_co_Tw_init) rfl rfl rfl (hK.2.1 _ (List.mem_of_getElem? (i := 3) rfl)) (hts _ w_it_Tw) (by decide +kernel) ⟨(Nat.le_of_ble_eq_true rfl), (Nat.le_of_ble_eq_true rfl)⟩, rfl, hts _ w_im_Tw_init⟩ (u_preS hK hV hn [0] rfl hz) rfl rfl hl.1 rfl (lv_room (Nat.le_of_ble_eq_true rfl)) d_SG_init_53 ⟨(Nat.le_of_ble_eq_true rfl), (Nat.le_of_ble_eq_true rfl)⟩) hV (fun r9 V9 H locs hp hV hle => ?_)
  obtain ⟨rfl, rfl, hz⟩ := hp
  replace hV := u_backN 11 hV hn [0] rfl
  have hn : [sz + 20, sz + 19, sz + 18, sz + 17, sz + 16, sz + 15, sz + 14, sz + 13, sz + 12, sz + 11, sz + 10, sz + 9, sz + 8, sz + 7, sz + 6, sz + 5, sz + 4, sz + 3, sz + 2, sz + 1, sz, x].Nodup := List.nodup_cons.mpr ⟨by simp only [List.mem_cons, List.not_mem_nil, or_false, not_or]; omega, hn⟩
  have hn : [sz + 21, sz + 20, sz + 19, sz + 18, sz + 17, sz + 16, sz + 15, sz + 14, sz + 13, sz + 12, sz + 11, sz + 10, sz + 9, sz + 8, sz + 7, sz + 6, sz + 5, sz + 4, sz + 3, sz + 2, sz + 1, sz, x].Nodup := List.nodup_cons.mpr ⟨by simp only [List.mem_cons, List.not_mem_nil, or_false, not_or]; omega, hn⟩
  have hn : [sz + 22, sz + 21, sz + 20, sz + 19, sz + 18, sz + 17, sz + 16, sz + 15, sz + 14, sz + 13, sz + 12, sz + 11, sz + 10, sz + 9, sz + 8, sz + 7, sz + 6, sz + 5, sz + 4, sz + 3, sz + 2, sz + 1, sz, x].Nodup := List.nodup_cons.mpr ⟨by simp only [List.mem_cons, List.not_mem_nil, or_false, not_or]; omega, hn⟩
  have hn : [sz + 23, sz + 22, sz + 21, sz + 20, sz + 19, sz + 18, sz + 17, sz + 16, sz + 15, sz + 14, sz + 13, sz + 12, sz + 11, sz + 10, sz + 9, sz + 8, sz + 7, sz + 6, sz + 5, sz + 4, sz + 3, sz + 2, sz + 1, sz, x].Nodup := List.nodup_cons.mpr ⟨by simp only [List.mem_cons, List.not_mem_nil, or_false, not_or]; omega, hn⟩
  have hn : [sz + 24, sz + 23, sz + 22, sz + 21, sz + 20, sz + 19, sz + 18, sz + 17, sz + 16, sz + 15, sz + 14, sz + 13, sz + 12, sz + 11, sz + 10, sz + 9, sz + 8, sz + 7, sz + 6, sz + 5, sz + 4, sz + 3, sz + 2, sz + 1, sz, x].Nodup := List.nodup_cons.mpr ⟨by simp only [List.mem_cons, List.not_mem_nil, or_false, not_or]; omega, hn⟩
  have hn : [sz + 25, sz + 24, sz + 23, sz + 22, sz + 21, sz + 20, sz + 19, sz + 18, sz + 17, sz + 16, sz + 15, sz + 14, sz + 13, sz + 12, sz + 11, sz + 10, sz + 9, sz + 8, sz + 7, sz + 6, sz + 5, sz + 4, sz + 3, sz + 2, sz + 1, sz, x].Nodup := List.nodup_cons.mpr ⟨by simp only [List.mem_cons, List.not_mem_nil, or_false, not_or]; omega, hn⟩
  have hn : [sz + 26, sz + 25, sz + 24, sz + 23, sz + 22, sz + 21, sz + 20, sz + 19, sz + 18, sz + 17, sz + 16, sz + 15, sz + 14, sz + 13, sz + 12, sz + 11, sz + 10, sz + 9, sz + 8, sz + 7, sz + 6, sz + 5, sz + 4, sz + 3, sz + 2, sz + 1, sz, x].Nodup := List.nodup_cons.mpr ⟨by simp only [List.mem_cons, List.not_mem_nil, or_false, not_or]; omega, hn⟩
  have hn : [sz + 27, sz + 26, sz + 25, sz + 24, sz + 23, sz + 22, sz + 21, sz + 20, sz + 19, sz + 18, sz + 17, sz + 16, sz + 15, sz + 14, sz + 13, sz + 12, sz + 11, sz + 10, sz + 9, sz + 8, sz + 7, sz + 6, sz + 5, sz + 4, sz + 3, sz + 2, sz + 1, sz, x].Nodup := List.nodup_cons.mpr ⟨by simp only [List.mem_cons, List.not_mem_nil, or_false, not_or]; omega, hn⟩
  have hn : [sz + 28, sz + 27, sz + 26, sz + 25, sz + 24, sz + 23, sz + 22, sz + 21, sz + 20, sz + 19, sz + 18, sz + 17, sz + 16, sz + 15, sz + 14, sz + 13, sz + 12, sz + 11, sz + 10, sz + 9, sz + 8, sz + 7, sz + 6, sz + 5, sz + 4, sz + 3, sz + 2, sz + 1, sz, x].Nodup := List.nodup_cons.mpr ⟨by simp only [List.mem_cons, List.not_mem_nil, or_false, not_or]; omega, hn⟩
  have hn : [sz + 29, sz + 28, sz + 27, sz + 26, sz + 25, sz + 24, sz + 23, sz + 22, sz + 21, sz + 20, sz + 19, sz + 18, sz + 17, sz + 16, sz + 15, sz + 14, sz + 13, sz + 12, sz + 11, sz + 10, sz + 9, sz + 8, sz + 7, sz + 6, sz + 5, sz + 4, sz + 3, sz + 2, sz + 1, sz, x].Nodup := List.nodup_cons.mpr ⟨by simp only [List.mem_cons, List.not_mem_nil, or_false, not_or]; omega, hn⟩
  have hn : [sz + 30, sz + 29, sz + 28, sz + 27, sz + 26, sz + 25, sz + 24, sz + 23, sz + 22, sz + 21, sz + 20, sz + 19, sz + 18, sz + 17, sz + 16, sz + 15, sz + 14, sz + 13, sz + 12, sz + 11, sz + 10, sz + 9, sz + 8, sz + 7, sz + 6, sz + 5, sz + 4, sz + 3, sz + 2, sz + 1, sz, x].Nodup := List.nodup_cons.mpr ⟨by simp only [List.mem_cons, List.not_mem_nil, or_false, not_or]; omega, hn⟩
  have hz : H.size = sz + 31 := hz
  have hV : vS G.1 cls lo s H locs (vU V [(sz + 30, eI (gI G) 20 (fun _ => 0)), (sz + 29, eI (gI G) 20 (fun _ => 0)), (sz + 28, eI (gI G) 20 (fun _ => 0)), (sz + 27, eO 6 [.ref (sz + 28), .ref (sz + 29), .ref (sz + 30), .int 0, .int 0]), (sz + 26, eI (gI G) 31 (fun _ => 0)), (sz + 25, eI (gI G) 31 (fun _ => 0)), (sz + 24, eO 4 [.ref (sz + 25), .ref (sz + 26)]), (sz + 23, eI (gI G) 31 (fun _ => 0)), (sz + 22, eI (gI G) 31 (fun _ => 0)), (sz + 21, eO 4 [.ref (sz + 22), .ref (sz + 23)]), (sz + 20, eQ (gP G) 61 (fun _ => none)), (sz + 19, eO 5 [.ref (sz + 20), .ref (sz + 21), .ref (sz + 24), .ref (sz + 27)]), (sz + 18, eI (gI G) 20 (fun _ => 0)), (sz + 17, eI (gI G) 20 (fun _ => 0)), (sz + 16, eI (gI G) 20 (fun _ => 0)), (sz + 15, eO 6 [.ref (sz + 16), .ref (sz + 17), .ref (sz + 18), .int 0, .int 0]), (sz + 14, eI (gI G) 31 (fun _ => 0)), (sz + 13, eI (gI G) 31 (fun _ => 0)), (sz + 12, eO 4 [.ref (sz + 13), .ref (sz + 14)]), (sz + 11, eI (gI G) 31 (fun _ => 0)), (sz + 10, eI (gI G) 31 (fun _ => 0)), (sz + 9, eO 4 [.ref (sz + 10), .ref (sz + 11)]), (sz + 8, eQ (gP G) 61 (fun _ => none)), (sz + 7, eO 5 [.ref (sz + 8), .ref (sz + 9), .ref (sz + 12), .ref (sz + 15)]), (sz + 6, eI (gB G) 4880 (fun _ => 0)), (sz + 5, eO 2 [.ref (sz + 6), .int 0]), (sz + 4, eI (gI G) 250 (fun _ => 0)), (sz + 3, eI (gI G) 250 (fun _ => 0)), (sz + 2, eO 0 [.ref (sz + 3), .ref (sz + 4), .int 0]), (sz + 1, eI (gB G) 400 (fun _ => 0)), (sz, eO 3 [.ref (sz + 1), .int 0, .int 0]), (x, eO 7 [.ref sz, .ref (sz + 2), .ref (sz + 5), .ref (sz + 7), .null, .int 0])]) := hV
  refine u_put hx hb hts inSG tySG tySG_ok nmSG hown hK hV hn 31 rfl rfl 4 (by decide) w_fl_SG_37 rfl rfl rfl rfl (Nat.le_of_ble_eq_true rfl) d_SG_init_56 (fun H locs hV hz9 => ?_)
  have hV : vS G.1 cls lo s H locs (vU V [(sz + 30, eI (gI G) 20 (fun _ => 0)), (sz + 29, eI (gI G) 20 (fun _ => 0)), (sz + 28, eI (gI G) 20 (fun _ => 0)), (sz + 27, eO 6 [.ref (sz + 28), .ref (sz + 29), .ref (sz + 30), .int 0, .int 0]), (sz + 26, eI (gI G) 31 (fun _ => 0)), (sz + 25, eI (gI G) 31 (fun _ => 0)), (sz + 24, eO 4 [.ref (sz + 25), .ref (sz + 26)]), (sz + 23, eI (gI G) 31 (fun _ => 0)), (sz + 22, eI (gI G) 31 (fun _ => 0)), (sz + 21, eO 4 [.ref (sz + 22), .ref (sz + 23)]), (sz + 20, eQ (gP G) 61 (fun _ => none)), (sz + 19, eO 5 [.ref (sz + 20), .ref (sz + 21), .ref (sz + 24), .ref (sz + 27)]), (sz + 18, eI (gI G) 20 (fun _ => 0)), (sz + 17, eI (gI G) 20 (fun _ => 0)), (sz + 16, eI (gI G) 20 (fun _ => 0)), (sz + 15, eO 6 [.ref (sz + 16), .ref (sz + 17), .ref (sz + 18), .int 0, .int 0]), (sz + 14, eI (gI G) 31 (fun _ => 0)), (sz + 13, eI (gI G) 31 (fun _ => 0)), (sz + 12, eO 4 [.ref (sz + 13), .ref (sz + 14)]), (sz + 11, eI (gI G) 31 (fun _ => 0)), (sz + 10, eI (gI G) 31 (fun _ => 0)), (sz + 9, eO 4 [.ref (sz + 10), .ref (sz + 11)]), (sz + 8, eQ (gP G) 61 (fun _ => none)), (sz + 7, eO 5 [.ref (sz + 8), .ref (sz + 9), .ref (sz + 12), .ref (sz + 15)]), (sz + 6, eI (gB G) 4880 (fun _ => 0)), (sz + 5, eO 2 [.ref (sz + 6), .int 0]), (sz + 4, eI (gI G) 250 (fun _ => 0)), (sz + 3, eI (gI G) 250 (fun _ => 0)), (sz + 2, eO 0 [.ref (sz + 3), .ref (sz + 4), .int 0]), (sz + 1, eI (gB G) 400 (fun _ => 0)), (sz, eO 3 [.ref (sz + 1), .int 0, .int 0]), (x, eO 7 [.ref sz, .ref (sz + 2), .ref (sz + 5), .ref (sz + 7), .ref (sz + 19), .int 0])]) := hV
  replace hz := hz9.trans hz
  refine lv_aload_n hx hb d_SG_init_59 rfl (lv_at hl 0 rfl) ?_
  refine lv_iconst (v := (-1)) hx hb d_SG_init_60 (by decide) ?_
  refine u_put hx hb hts inSG tySG tySG_ok nmSG hown hK hV hn 31 rfl rfl 5 (by decide) w_fl_SG_40 rfl rfl rfl rfl (Nat.le_of_ble_eq_true rfl) d_SG_init_61 (fun H locs hV hz9 => ?_)
  have hV : vS G.1 cls lo s H locs (vU V [(sz + 30, eI (gI G) 20 (fun _ => 0)), (sz + 29, eI (gI G) 20 (fun _ => 0)), (sz + 28, eI (gI G) 20 (fun _ => 0)), (sz + 27, eO 6 [.ref (sz + 28), .ref (sz + 29), .ref (sz + 30), .int 0, .int 0]), (sz + 26, eI (gI G) 31 (fun _ => 0)), (sz + 25, eI (gI G) 31 (fun _ => 0)), (sz + 24, eO 4 [.ref (sz + 25), .ref (sz + 26)]), (sz + 23, eI (gI G) 31 (fun _ => 0)), (sz + 22, eI (gI G) 31 (fun _ => 0)), (sz + 21, eO 4 [.ref (sz + 22), .ref (sz + 23)]), (sz + 20, eQ (gP G) 61 (fun _ => none)), (sz + 19, eO 5 [.ref (sz + 20), .ref (sz + 21), .ref (sz + 24), .ref (sz + 27)]), (sz + 18, eI (gI G) 20 (fun _ => 0)), (sz + 17, eI (gI G) 20 (fun _ => 0)), (sz + 16, eI (gI G) 20 (fun _ => 0)), (sz + 15, eO 6 [.ref (sz + 16), .ref (sz + 17), .ref (sz + 18), .int 0, .int 0]), (sz + 14, eI (gI G) 31 (fun _ => 0)), (sz + 13, eI (gI G) 31 (fun _ => 0)), (sz + 12, eO 4 [.ref (sz + 13), .ref (sz + 14)]), (sz + 11, eI (gI G) 31 (fun _ => 0)), (sz + 10, eI (gI G) 31 (fun _ => 0)), (sz + 9, eO 4 [.ref (sz + 10), .ref (sz + 11)]), (sz + 8, eQ (gP G) 61 (fun _ => none)), (sz + 7, eO 5 [.ref (sz + 8), .ref (sz + 9), .ref (sz + 12), .ref (sz + 15)]), (sz + 6, eI (gB G) 4880 (fun _ => 0)), (sz + 5, eO 2 [.ref (sz + 6), .int 0]), (sz + 4, eI (gI G) 250 (fun _ => 0)), (sz + 3, eI (gI G) 250 (fun _ => 0)), (sz + 2, eO 0 [.ref (sz + 3), .ref (sz + 4), .int 0]), (sz + 1, eI (gB G) 400 (fun _ => 0)), (sz, eO 3 [.ref (sz + 1), .int 0, .int 0]), (x, eO 7 [.ref sz, .ref (sz + 2), .ref (sz + 5), .ref (sz + 7), .ref (sz + 19), .int ((-1))])]) := hV
  replace hz := hz9.trans hz
  exact W.vret hx hb hr (v_end hV ⟨rfl, rfl, hz⟩) hV.2.1.2.2 d_SG_init_64
