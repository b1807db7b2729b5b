set_option maxHeartbeats 4000000 in
set_option maxRecDepth 100000 in
/-- check -/
theorem c_Mo_check (l : Launch) (G : Gx) (lo : Nat) (V : Vw) (sz : Nat) (m sa la pa ma ba ka na : Nat) (u1 u2 u3 u9 u10 u11 u12 u13 u14 u19 u20 : Value) (th : Value) (sp al P mk bf fk fn : Nat → Int32) (F : List Two) (Q : Nat → Option PcR) (B S : Nat → Option (Nat × Nat)) (L : List Tri) (hn : [m, sa, la, pa, ma, ba, ka, na].Nodup) (hM : mpA P Q) (hS : msA sp al B S) (hB9 : mbA bf L) (hL : L.length ≤ 20) (hL1 : ∀ i, i < L.length → 1 ≤ (L.getD i z3).1 ∧ 1 ≤ (L.getD i z3).2.2) : Met l y_Mo_check ws_Mo_check ({ frames := 5, cells := 0, slots := 0, locals := 180 } : Room) (vPre G lo [.ref m] (vU V [(m, eO 8 [th, u1, u2, u3, .ref pa, .ref sa, .ref la, .int (nI L.length), .ref ba, u9, u10, u11, u12, u13, u14, .int (nI F.length), .ref ka, .ref na, .ref ma, u19, u20]), (sa, eI (gI G) 62 sp), (la, eI (gI G) 62 al), (pa, eI (gI G) 1769 P), (ma, eI (gZ G) 41 mk), (ba, eI (gI G) 600 bf), (ka, eI (gI G) 300 fk), (na, eI (gI G) 300 fn)]) sz) (vPost G lo (fun r V' k => r = some (.int (nI (fltA (Q, B, S, L)).length)) ∧ (∃ f1 f2 f3 : Nat → Int32, V' = vU V [(m, eO 8 [.int 0, u1, u2, u3, .ref pa, .ref sa, .ref la, .int (nI L.length), .ref ba, u9, u10, u11, u12, u13, u14, .int (nI ((fltA (Q, B, S, L)).length)), .ref ka, .ref na, .ref ma, u19, u20]), (sa, eI (gI G) 62 sp), (la, eI (gI G) 62 al), (pa, eI (gI G) 1769 P), (ma, eI (gZ G) 41 f3), (ba, eI (gI G) 600 bf), (ka, eI (gI G) 300 f1), (na, eI (gI G) 300 f2)] ∧ ckOk f1 f2 (fltA (Q, B, S, L))) ∧ k = sz)) 0 0 (vL lo) := by
  refine vMet (R := RMo) (by decide) rfl (Nat.le_of_ble_eq_true rfl) ?_
  intro pg ev s mi args below meth cd hx hb hr hml hlk hnm hts hown hK hz hV ls hl
  have hl : lv_has ls 3 [(0, .ref m)] := hl
  have hV0 := hV
  obtain ⟨H, hH⟩ : ∃ H, H = s.heap := ⟨_, rfl⟩
  obtain ⟨locs, hlocs⟩ : ∃ locs : List Loc, locs = [] := ⟨_, rfl⟩
  rw [← hH, ← hlocs]
  rw [← hH] at hz
  replace hV : vS G.1 cls lo s H locs (vU V [(m, eO 8 [th, u1, u2, u3, .ref pa, .ref sa, .ref la, .int (nI L.length), .ref ba, u9, u10, u11, u12, u13, u14, .int (nI F.length), .ref ka, .ref na, .ref ma, u19, u20]), (sa, eI (gI G) 62 sp), (la, eI (gI G) 62 al), (pa, eI (gI G) 1769 P), (ma, eI (gZ G) 41 mk), (ba, eI (gI G) 600 bf), (ka, eI (gI G) 300 fk), (na, eI (gI G) 300 fn)]) := by rw [hH, hlocs]; exact hV
  clear hH hlocs hV0
  have q1 := flt_le 1 (lostP Q B) 30
  have q2 := flt_le 2 (lostP Q S) 30
  have q3 := flt_le 3 (twinP Q) 60
  have q4 := idlQ_le Q L 40
  have q5 := flt_le 5 (fun j => wallI L j L.length) 40
  have q6 := flt_le 6 (endP Q) 40
  refine lv_aload_n hx hb d_Mo_check_0 rfl (lv_at hl 0 rfl) ?_
  refine lv_iconst (v := 0) hx hb d_Mo_check_1 (by decide) ?_
  refine u_put hx hb hts inMo tyMo tyMo_ok nmMo hown hK hV hn 0 rfl rfl 0 (by decide) w_fl_Mo_51 rfl rfl rfl rfl (Nat.le_of_ble_eq_true rfl) d_Mo_check_2 (fun H locs hV hz9 => ?_)
  have hV : vS G.1 cls lo s H locs (vU V [(m, eO 8 [.int 0, u1, u2, u3, .ref pa, .ref sa, .ref la, .int (nI L.length), .ref ba, u9, u10, u11, u12, u13, u14, .int (nI F.length), .ref ka, .ref na, .ref ma, u19, u20]), (sa, eI (gI G) 62 sp), (la, eI (gI G) 62 al), (pa, eI (gI G) 1769 P), (ma, eI (gZ G) 41 mk), (ba, eI (gI G) 600 bf), (ka, eI (gI G) 300 fk), (na, eI (gI G) 300 fn)]) := hV
  replace hz := hz9.trans hz
  refine lv_aload_n hx hb d_Mo_check_5 rfl (lv_at hl 0 rfl) ?_
  refine lv_iconst (v := 0) hx hb d_Mo_check_6 (by decide) ?_
  refine u_put hx hb hts inMo tyMo tyMo_ok nmMo hown hK hV hn 0 rfl rfl 15 (by decide) w_fl_Mo_145 rfl rfl rfl rfl (Nat.le_of_ble_eq_true rfl) d_Mo_check_7 (fun H locs hV hz9 => ?_)
  have hV : vS G.1 cls lo s H locs (vU V [(m, eO 8 [.int 0, u1, u2, u3, .ref pa, .ref sa, .ref la, .int (nI L.length), .ref ba, u9, u10, u11, u12, u13, u14, .int 0, .ref ka, .ref na, .ref ma, u19, u20]), (sa, eI (gI G) 62 sp), (la, eI (gI G) 62 al), (pa, eI (gI G) 1769 P), (ma, eI (gZ G) 41 mk), (ba, eI (gI G) 600 bf), (ka, eI (gI G) 300 fk), (na, eI (gI G) 300 fn)]) := hV
  replace hz := hz9.trans hz
  refine lv_iconst (v := 1) hx hb d_Mo_check_10 (by decide) ?_
  refine lv_istore_n (lv' := [(1, .int 1), (0, .ref m)]) hx hb d_Mo_check_11 rfl hl (by decide) rfl (fun ls hl => ?_)
  have b266 : ∀ (fk fn : Nat → Int32), (ckOk fk fn (flt 1 (lostP Q B) 30 ++ flt 2 (lostP Q S) 30 ++ flt 3 (twinP Q) 60 ++ idlQ Q L 40 ++ flt 5 (fun j => wallI L j L.length) 40 ++ flt 6 (endP Q) 40)) → ∀ (H : Heap) (locs : List Loc) (ls : Array Slot), H.size = sz → vS G.1 cls lo s H locs (vU V [(m, eO 8 [.int 0, u1, u2, u3, .ref pa, .ref sa, .ref la, .int (nI L.length), .ref ba, u9, u10, u11, u12, u13, u14, .int (nI ((flt 1 (lostP Q B) 30 ++ flt 2 (lostP Q S) 30 ++ flt 3 (twinP Q) 60 ++ idlQ Q L 40 ++ flt 5 (fun j => wallI L j L.length) 40 ++ flt 6 (endP Q) 40).length)), .ref ka, .ref na, .ref ma, u19, u20]), (sa, eI (gI G) 62 sp), (la, eI (gI G) 62 al), (pa, eI (gI G) 1769 P), (ma, eI (gZ G) 41 mk), (ba, eI (gI G) 600 bf), (ka, eI (gI G) 300 fk), (na, eI (gI G) 300 fn)]) → lv_has ls 3 [(0, .ref m)] → W pg l ev ({ frames := 5, cells := 0, slots := 0, locals := 180 } : Room) s mi args below meth cd H locs 0 0 (MQ below (vPost G lo (fun r V' k => r = some (.int (nI (fltA (Q, B, S, L)).length)) ∧ (∃ f1 f2 f3 : Nat → Int32, V' = vU V [(m, eO 8 [.int 0, u1, u2, u3, .ref pa, .ref sa, .ref la, .int (nI L.length), .ref ba, u9, u10, u11, u12, u13, u14, .int (nI ((fltA (Q, B, S, L)).length)), .ref ka, .ref na, .ref ma, u19, u20]), (sa, eI (gI G) 62 sp), (la, eI (gI G) 62 al), (pa, eI (gI G) 1769 P), (ma, eI (gZ G) 41 f3), (ba, eI (gI G) 600 bf), (ka, eI (gI G) 300 f1), (na, eI (gI G) 300 f2)] ∧ ckOk f1 f2 (fltA (Q, B, S, L))) ∧ k = sz)) args s 0 0 (vL lo)) (F0 mi 266 ls []) := by
    intro fk fn  hO H locs ls hz hV hl
    refine lv_aload_n hx hb d_Mo_check_266 rfl (lv_at hl 0 rfl) ?_
    refine v_call (va_runV (As := []) (rest := []) ⟨hx, hb, hml, hown, hts⟩ (c_Mo_reached l G lo _ _ m sa pa ma ka na (.int 0) u1 u2 u3 (.ref la) (.int (nI L.length)) (.ref ba) u9 u10 u11 u12 u13 u14 u19 u20 sp al P mk fk fn (flt 1 (lostP Q B) 30 ++ flt 2 (lostP Q S) 30 ++ flt 3 (twinP Q) 60 ++ idlQ Q L 40 ++ flt 5 (fun j => wallI L j L.length) 40 ++ flt 6 (endP Q) 40) Q B S (nd_sub hn [0, 1, 3, 4, 6, 7] (by decide) rfl) hM hS hO (by simp only [List.length_append]; omega)) (kwV 0 hts w_co_Mo_reached rfl rfl w_it_Mo w_ml_Mo_174 w_im_Mo_reached w_se_Mo__Mo_reached (by decide +kernel) ⟨(Nat.le_of_ble_eq_true rfl), (Nat.le_of_ble_eq_true rfl)⟩) (u_preV hK hV hn [0, 1, 3, 4, 6, 7] rfl hz 0 rfl rfl) rfl rfl hl.1 rfl (lv_room (Nat.le_of_ble_eq_true rfl)) d_Mo_check_267 ⟨(Nat.le_of_ble_eq_true rfl), (Nat.le_of_ble_eq_true rfl)⟩) hV (fun r9 V9 H locs hp hV hle => ?_)
    obtain ⟨rfl, ⟨g_1k, g_1n, g_1m, rfl, hO_g_1⟩, hz⟩ := hp
    replace hV := u_back hV hn [0, 1, 3, 4, 6, 7] rfl
    have hV : vS G.1 cls lo s H locs (vU V [(m, eO 8 [.int 0, u1, u2, u3, .ref pa, .ref sa, .ref la, .int (nI L.length), .ref ba, u9, u10, u11, u12, u13, u14, .int (nI ((flt 1 (lostP Q B) 30 ++ flt 2 (lostP Q S) 30 ++ flt 3 (twinP Q) 60 ++ idlQ Q L 40 ++ flt 5 (fun j => wallI L j L.length) 40 ++ flt 6 (endP Q) 40 ++ flt 7 (unr Q S) 30).length)), .ref ka, .ref na, .ref ma, u19, u20]), (sa, eI (gI G) 62 sp), (la, eI (gI G) 62 al), (pa, eI (gI G) 1769 P), (ma, eI (gZ G) 41 g_1m), (ba, eI (gI G) 600 bf), (ka, eI (gI G) 300 g_1k), (na, eI (gI G) 300 g_1n)]) := hV
    refine lv_aload_n hx hb d_Mo_check_270 rfl (lv_at hl 0 rfl) ?_
    refine u_get hx hb hts inMo hown hK hV hn 0 rfl rfl 15 (by decide) w_fl_Mo_145 rfl rfl d_Mo_check_271 ?_
    rw [show flt 1 (lostP Q B) 30 ++ flt 2 (lostP Q S) 30 ++ flt 3 (twinP Q) 60 ++ idlQ Q L 40 ++ flt 5 (fun j => wallI L j L.length) 40 ++ flt 6 (endP Q) 40 ++ flt 7 (unr Q S) 30 = fltA (Q, B, S, L) from rfl] at hV hO_g_1
    exact W.iret (v := nI ((flt 1 (lostP Q B) 30 ++ flt 2 (lostP Q S) 30 ++ flt 3 (twinP Q) 60 ++ idlQ Q L 40 ++ flt 5 (fun j => wallI L j L.length) 40 ++ flt 6 (endP Q) 40 ++ flt 7 (unr Q S) 30).length)) hx hb hr (v_end hV ⟨rfl, ⟨g_1k, g_1n, g_1m, rfl, hO_g_1⟩, hz⟩) hV.2.1.2.2 d_Mo_check_274
  have l6 : ∀ (k : Nat) (i : Nat) (fk fn : Nat → Int32), 40 - i < k → (i ≤ 40) → (ckOk fk fn (flt 1 (lostP Q B) 30 ++ flt 2 (lostP Q S) 30 ++ flt 3 (twinP Q) 60 ++ idlQ Q L 40 ++ flt 5 (fun j => wallI L j L.length) 40 ++ flt 6 (endP Q) i)) → ∀ (H : Heap) (locs : List Loc) (ls : Array Slot), H.size = sz → vS G.1 cls lo s H locs (vU V [(m, eO 8 [.int 0, u1, u2, u3, .ref pa, .ref sa, .ref la, .int (nI L.length), .ref ba, u9, u10, u11, u12, u13, u14, .int (nI ((flt 1 (lostP Q B) 30 ++ flt 2 (lostP Q S) 30 ++ flt 3 (twinP Q) 60 ++ idlQ Q L 40 ++ flt 5 (fun j => wallI L j L.length) 40 ++ flt 6 (endP Q) i).length)), .ref ka, .ref na, .ref ma, u19, u20]), (sa, eI (gI G) 62 sp), (la, eI (gI G) 62 al), (pa, eI (gI G) 1769 P), (ma, eI (gZ G) 41 mk), (ba, eI (gI G) 600 bf), (ka, eI (gI G) 300 fk), (na, eI (gI G) 300 fn)]) → lv_has ls 3 [(0, .ref m), (1, .int (nI (i + 1)))] → W pg l ev ({ frames := 5, cells := 0, slots := 0, locals := 180 } : Room) s mi args below meth cd H locs 0 0 (MQ below (vPost G lo (fun r V' k => r = some (.int (nI (fltA (Q, B, S, L)).length)) ∧ (∃ f1 f2 f3 : Nat → Int32, V' = vU V [(m, eO 8 [.int 0, u1, u2, u3, .ref pa, .ref sa, .ref la, .int (nI L.length), .ref ba, u9, u10, u11, u12, u13, u14, .int (nI ((fltA (Q, B, S, L)).length)), .ref ka, .ref na, .ref ma, u19, u20]), (sa, eI (gI G) 62 sp), (la, eI (gI G) 62 al), (pa, eI (gI G) 1769 P), (ma, eI (gZ G) 41 f3), (ba, eI (gI G) 600 bf), (ka, eI (gI G) 300 f1), (na, eI (gI G) 300 f2)] ∧ ckOk f1 f2 (fltA (Q, B, S, L))) ∧ k = sz)) args s 0 0 (vL lo)) (F0 mi 222 ls []) := by
    intro k
    induction k with
    | zero => intro i fk fn hk; exact absurd hk (by omega)
    | succ k ih =>
      intro i fk fn hk hi hO H locs ls hz hV hl
      refine lv_iload_n hx hb d_Mo_check_222 rfl (lv_at hl 1 rfl) ?_
      refine lv_bipush (v := 41) hx hb d_Mo_check_223 (by decide) ?_
      refine lv_icmp_ge (tgt := 266) hx hb d_Mo_check_225 (by decide) (fun c_2 => ?_) (fun c_2 => ?_)
      · replace c_2 : 41 ≤ i + 1 := (nI_leI (a := 41) (b := i + 1) (by omega) (by omega)).mp c_2
        have i40 : i = 40 := by omega
        subst i40
        exact b266 fk fn hO H locs ls hz hV (lv_sub hl [0] rfl)
      · replace c_2 : ¬ 41 ≤ i + 1 := fun z9 => c_2 ((nI_leI (a := 41) (b := i + 1) (by omega) (by omega)).mpr z9)
        refine lv_aload_n hx hb d_Mo_check_228 rfl (lv_at hl 0 rfl) ?_
        refine lv_bipush (v := 6) hx hb d_Mo_check_229 (by decide) ?_
        refine lv_iload_n hx hb d_Mo_check_231 rfl (lv_at hl 1 rfl) ?_
        refine lv_aload_n hx hb d_Mo_check_232 rfl (lv_at hl 0 rfl) ?_
        refine lv_iconst (v := 0) hx hb d_Mo_check_233 (by decide) ?_
        refine lv_iload_n hx hb d_Mo_check_234 rfl (lv_at hl 1 rfl) ?_
        refine lv_iconst (v := 0) hx hb d_Mo_check_235 (by decide) ?_
        refine v_call (va_runV (As := [.int 0, .int (nI (i + 1)), .int 0]) (rest := [.int (nI (i + 1)), .int 6, .ref m]) ⟨hx, hb, hml, hown, hts⟩ (c_Mo_goes l G lo _ _ m pa (.int 0) u1 u2 u3 (.ref sa) (.ref la) (.int (nI L.length)) (.ref ba) u9 u10 u11 u12 u13 u14 (.int (nI ((flt 1 (lostP Q B) 30 ++ flt 2 (lostP Q S) 30 ++ flt 3 (twinP Q) 60 ++ idlQ Q L 40 ++ flt 5 (fun j => wallI L j L.length) 40 ++ flt 6 (endP Q) i).length))) (.ref ka) (.ref na) (.ref ma) u19 u20 P Q (nd_sub hn [0, 3] (by decide) rfl) hM 0 (i + 1) 0 (by omega) (by omega) (by decide)) (kwV 3 hts w_co_Mo_goes rfl rfl w_it_Mo w_ml_Mo_148 w_im_Mo_goes w_se_Mo__Mo_goes (by decide +kernel) ⟨(Nat.le_of_ble_eq_true rfl), (Nat.le_of_ble_eq_true rfl)⟩) (u_preV hK hV hn [0, 3] rfl hz 0 rfl rfl) rfl rfl hl.1 rfl (lv_room (Nat.le_of_ble_eq_true rfl)) d_Mo_check_236 ⟨(Nat.le_of_ble_eq_true rfl), (Nat.le_of_ble_eq_true rfl)⟩) hV (fun r9 V9 H locs hp hV hle => ?_)
        obtain ⟨rfl, rfl, hz⟩ := hp
        replace hV := uu_same hV hn [0, 3] rfl
        rcases tf (goQ Q 0 0 (i + 1) 60) with d_3 | d_3
        · have g1 := d_3
          have hV : vS G.1 cls lo s H locs (vU V [(m, eO 8 [.int 0, u1, u2, u3, .ref pa, .ref sa, .ref la, .int (nI L.length), .ref ba, u9, u10, u11, u12, u13, u14, .int (nI ((flt 1 (lostP Q B) 30 ++ flt 2 (lostP Q S) 30 ++ flt 3 (twinP Q) 60 ++ idlQ Q L 40 ++ flt 5 (fun j => wallI L j L.length) 40 ++ flt 6 (endP Q) i).length)), .ref ka, .ref na, .ref ma, u19, u20]), (sa, eI (gI G) 62 sp), (la, eI (gI G) 62 al), (pa, eI (gI G) 1769 P), (ma, eI (gZ G) 41 mk), (ba, eI (gI G) 600 bf), (ka, eI (gI G) 300 fk), (na, eI (gI G) 300 fn)]) := hV
          refine W.eq (g2 := F0 mi 239 ls [.int 1, .int (nI (i + 1)), .int 6, .ref m]) (by rw [d_3]; rfl) ?_
          refine lv_if_eq (tgt := 256) hx hb d_Mo_check_239 (by decide) (fun c_4 => absurd c_4 (by decide)) (fun _ => ?_)
          refine lv_aload_n hx hb d_Mo_check_242 rfl (lv_at hl 0 rfl) ?_
          refine lv_iload_n hx hb d_Mo_check_243 rfl (lv_at hl 1 rfl) ?_
          refine lv_iconst (v := 0) hx hb d_Mo_check_244 (by decide) ?_
          refine lv_iconst (v := 0) hx hb d_Mo_check_245 (by decide) ?_
          refine v_call (va_runV (As := [.int (nI (i + 1)), .int 0, .int 0]) (rest := [.int (nI (i + 1)), .int 6, .ref m]) ⟨hx, hb, hml, hown, hts⟩ (c_Mo_goes l G lo _ _ m pa (.int 0) u1 u2 u3 (.ref sa) (.ref la) (.int (nI L.length)) (.ref ba) u9 u10 u11 u12 u13 u14 (.int (nI ((flt 1 (lostP Q B) 30 ++ flt 2 (lostP Q S) 30 ++ flt 3 (twinP Q) 60 ++ idlQ Q L 40 ++ flt 5 (fun j => wallI L j L.length) 40 ++ flt 6 (endP Q) i).length))) (.ref ka) (.ref na) (.ref ma) u19 u20 P Q (nd_sub hn [0, 3] (by decide) rfl) hM (i + 1) 0 0 (by omega) (by omega) (by decide)) (kwV 3 hts w_co_Mo_goes rfl rfl w_it_Mo w_ml_Mo_148 w_im_Mo_goes w_se_Mo__Mo_goes (by decide +kernel) ⟨(Nat.le_of_ble_eq_true rfl), (Nat.le_of_ble_eq_true rfl)⟩) (u_preV hK hV hn [0, 3] rfl hz 0 rfl rfl) rfl rfl hl.1 rfl (lv_room (Nat.le_of_ble_eq_true rfl)) d_Mo_check_246 ⟨(Nat.le_of_ble_eq_true rfl), (Nat.le_of_ble_eq_true rfl)⟩) hV (fun r9 V9 H locs hp hV hle => ?_)
          obtain ⟨rfl, rfl, hz⟩ := hp
          replace hV := uu_same hV hn [0, 3] rfl
          rcases tf (goQ Q 0 (i + 1) 0 60) with d_5 | d_5
          · have hu : endP Q (i + 1) = false := by rw [endP_go (by omega), g1, d_5]; rfl
            have hV : vS G.1 cls lo s H locs (vU V [(m, eO 8 [.int 0, u1, u2, u3, .ref pa, .ref sa, .ref la, .int (nI L.length), .ref ba, u9, u10, u11, u12, u13, u14, .int (nI ((flt 1 (lostP Q B) 30 ++ flt 2 (lostP Q S) 30 ++ flt 3 (twinP Q) 60 ++ idlQ Q L 40 ++ flt 5 (fun j => wallI L j L.length) 40 ++ flt 6 (endP Q) i).length)), .ref ka, .ref na, .ref ma, u19, u20]), (sa, eI (gI G) 62 sp), (la, eI (gI G) 62 al), (pa, eI (gI G) 1769 P), (ma, eI (gZ G) 41 mk), (ba, eI (gI G) 600 bf), (ka, eI (gI G) 300 fk), (na, eI (gI G) 300 fn)]) := hV
            refine W.eq (g2 := F0 mi 249 ls [.int 1, .int (nI (i + 1)), .int 6, .ref m]) (by rw [d_5]; rfl) ?_
            refine lv_if_ne (tgt := 256) hx hb d_Mo_check_249 (by decide) (fun _ => ?_) (fun c_6 => absurd c_6 (by decide))
            refine lv_iconst (v := 0) hx hb d_Mo_check_256 (by decide) ?_
            refine v_call (va_runV (As := [.int 6, .int (nI (i + 1)), .int 0]) (rest := []) ⟨hx, hb, hml, hown, hts⟩ (c_Mo_tells0 l G lo _ _ m (.int 0) u1 u2 u3 (.ref pa) (.ref sa) (.ref la) (.int (nI L.length)) (.ref ba) u9 u10 u11 u12 u13 u14 (.int (nI ((flt 1 (lostP Q B) 30 ++ flt 2 (lostP Q S) 30 ++ flt 3 (twinP Q) 60 ++ idlQ Q L 40 ++ flt 5 (fun j => wallI L j L.length) 40 ++ flt 6 (endP Q) i).length))) (.ref ka) (.ref na) (.ref ma) u19 u20 (by simp) 6 (nI (i + 1))) (kwV 3 hts w_co_Mo_tells rfl rfl w_it_Mo w_ml_Mo_161 w_im_Mo_tells w_se_Mo__Mo_tells (by decide +kernel) ⟨(Nat.le_of_ble_eq_true rfl), (Nat.le_of_ble_eq_true rfl)⟩) (u_preV hK hV hn [0] rfl hz 0 rfl rfl) rfl rfl hl.1 rfl (lv_room (Nat.le_of_ble_eq_true rfl)) d_Mo_check_257 ⟨(Nat.le_of_ble_eq_true rfl), (Nat.le_of_ble_eq_true rfl)⟩) hV (fun r9 V9 H locs hp hV hle => ?_)
            obtain ⟨rfl, rfl, hz⟩ := hp
            replace hV := uu_same hV hn [0] rfl
            have hV : vS G.1 cls lo s H locs (vU V [(m, eO 8 [.int 0, u1, u2, u3, .ref pa, .ref sa, .ref la, .int (nI L.length), .ref ba, u9, u10, u11, u12, u13, u14, .int (nI ((flt 1 (lostP Q B) 30 ++ flt 2 (lostP Q S) 30 ++ flt 3 (twinP Q) 60 ++ idlQ Q L 40 ++ flt 5 (fun j => wallI L j L.length) 40 ++ flt 6 (endP Q) i).length)), .ref ka, .ref na, .ref ma, u19, u20]), (sa, eI (gI G) 62 sp), (la, eI (gI G) 62 al), (pa, eI (gI G) 1769 P), (ma, eI (gZ G) 41 mk), (ba, eI (gI G) 600 bf), (ka, eI (gI G) 300 fk), (na, eI (gI G) 300 fn)]) := hV
            rw [app_n hu] at hV hO
            refine lv_iinc (v := nI (i + 2)) (lv' := [(1, .int (nI (i + 2))), (0, .ref m)]) hx hb d_Mo_check_260 hl (k := 1) rfl (nI_add (i + 1) 1) (by decide) rfl (fun ls hl => ?_)
            refine lv_goto (tgt := 222) hx hb d_Mo_check_263 (by decide) ?_
            exact ih (i + 1) fk fn (by omega) (by omega) hO H locs ls hz hV (lv_sub hl [1, 0] rfl)
          · have hu : endP Q (i + 1) = true := by rw [endP_go (by omega), g1, d_5]; rfl
            have hV : vS G.1 cls lo s H locs (vU V [(m, eO 8 [.int 0, u1, u2, u3, .ref pa, .ref sa, .ref la, .int (nI L.length), .ref ba, u9, u10, u11, u12, u13, u14, .int (nI ((flt 1 (lostP Q B) 30 ++ flt 2 (lostP Q S) 30 ++ flt 3 (twinP Q) 60 ++ idlQ Q L 40 ++ flt 5 (fun j => wallI L j L.length) 40 ++ flt 6 (endP Q) i).length)), .ref ka, .ref na, .ref ma, u19, u20]), (sa, eI (gI G) 62 sp), (la, eI (gI G) 62 al), (pa, eI (gI G) 1769 P), (ma, eI (gZ G) 41 mk), (ba, eI (gI G) 600 bf), (ka, eI (gI G) 300 fk), (na, eI (gI G) 300 fn)]) := hV
            refine W.eq (g2 := F0 mi 249 ls [.int 0, .int (nI (i + 1)), .int 6, .ref m]) (by rw [d_5]; rfl) ?_
            refine lv_if_ne (tgt := 256) hx hb d_Mo_check_249 (by decide) (fun c_7 => absurd c_7 (by decide)) (fun _ => ?_)
            refine lv_iconst (v := 1) hx hb d_Mo_check_252 (by decide) ?_
            refine lv_goto (tgt := 257) hx hb d_Mo_check_253 (by decide) ?_
            refine v_call (va_runV (As := [.int 6, .int (nI (i + 1)), .int 1]) (rest := []) ⟨hx, hb, hml, hown, hts⟩ (c_Mo_tells l G lo _ _ m ka na (.int 0) u1 u2 u3 (.ref pa) (.ref sa) (.ref la) (.int (nI L.length)) (.ref ba) u9 u10 u11 u12 u13 u14 (.ref ma) u19 u20 fk fn (flt 1 (lostP Q B) 30 ++ flt 2 (lostP Q S) 30 ++ flt 3 (twinP Q) 60 ++ idlQ Q L 40 ++ flt 5 (fun j => wallI L j L.length) 40 ++ flt 6 (endP Q) i) (nd_sub hn [0, 6, 7] (by decide) rfl) hO (by have := flt_le 6 (endP Q) i; (try simp only [List.length_append]); omega) 6 (i + 1)) (kwV 3 hts w_co_Mo_tells rfl rfl w_it_Mo w_ml_Mo_161 w_im_Mo_tells w_se_Mo__Mo_tells (by decide +kernel) ⟨(Nat.le_of_ble_eq_true rfl), (Nat.le_of_ble_eq_true rfl)⟩) (u_preV hK hV hn [0, 6, 7] rfl hz 0 rfl rfl) rfl rfl hl.1 rfl (lv_room (Nat.le_of_ble_eq_true rfl)) d_Mo_check_257 ⟨(Nat.le_of_ble_eq_true rfl), (Nat.le_of_ble_eq_true rfl)⟩) hV (fun r9 V9 H locs hp hV hle => ?_)
            obtain ⟨rfl, ⟨g_8k, g_8n, rfl, hO_g_8⟩, hz⟩ := hp
            replace hV := u_back hV hn [0, 6, 7] rfl
            have hV : vS G.1 cls lo s H locs (vU V [(m, eO 8 [.int 0, u1, u2, u3, .ref pa, .ref sa, .ref la, .int (nI L.length), .ref ba, u9, u10, u11, u12, u13, u14, .int (nI ((flt 1 (lostP Q B) 30 ++ flt 2 (lostP Q S) 30 ++ flt 3 (twinP Q) 60 ++ idlQ Q L 40 ++ flt 5 (fun j => wallI L j L.length) 40 ++ flt 6 (endP Q) i ++ [(6, i + 1)]).length)), .ref ka, .ref na, .ref ma, u19, u20]), (sa, eI (gI G) 62 sp), (la, eI (gI G) 62 al), (pa, eI (gI G) 1769 P), (ma, eI (gZ G) 41 mk), (ba, eI (gI G) 600 bf), (ka, eI (gI G) 300 g_8k), (na, eI (gI G) 300 g_8n)]) := hV
            rw [app_y hu] at hV hO_g_8
            refine lv_iinc (v := nI (i + 2)) (lv' := [(1, .int (nI (i + 2))), (0, .ref m)]) hx hb d_Mo_check_260 hl (k := 1) rfl (nI_add (i + 1) 1) (by decide) rfl (fun ls hl => ?_)
            refine lv_goto (tgt := 222) hx hb d_Mo_check_263 (by decide) ?_
            exact ih (i + 1) g_8k g_8n (by omega) (by omega) hO_g_8 H locs ls hz hV (lv_sub hl [1, 0] rfl)
        · have hu : endP Q (i + 1) = false := by rw [endP_go (by omega), d_3]; rfl
          have hV : vS G.1 cls lo s H locs (vU V [(m, eO 8 [.int 0, u1, u2, u3, .ref pa, .ref sa, .ref la, .int (nI L.length), .ref ba, u9, u10, u11, u12, u13, u14, .int (nI ((flt 1 (lostP Q B) 30 ++ flt 2 (lostP Q S) 30 ++ flt 3 (twinP Q) 60 ++ idlQ Q L 40 ++ flt 5 (fun j => wallI L j L.length) 40 ++ flt 6 (endP Q) i).length)), .ref ka, .ref na, .ref ma, u19, u20]), (sa, eI (gI G) 62 sp), (la, eI (gI G) 62 al), (pa, eI (gI G) 1769 P), (ma, eI (gZ G) 41 mk), (ba, eI (gI G) 600 bf), (ka, eI (gI G) 300 fk), (na, eI (gI G) 300 fn)]) := hV
          refine W.eq (g2 := F0 mi 239 ls [.int 0, .int (nI (i + 1)), .int 6, .ref m]) (by rw [d_3]; rfl) ?_
          refine lv_if_eq (tgt := 256) hx hb d_Mo_check_239 (by decide) (fun _ => ?_) (fun c_9 => absurd c_9 (by decide))
          refine lv_iconst (v := 0) hx hb d_Mo_check_256 (by decide) ?_
          refine v_call (va_runV (As := [.int 6, .int (nI (i + 1)), .int 0]) (rest := []) ⟨hx, hb, hml, hown, hts⟩ (c_Mo_tells0 l G lo _ _ m (.int 0) u1 u2 u3 (.ref pa) (.ref sa) (.ref la) (.int (nI L.length)) (.ref ba) u9 u10 u11 u12 u13 u14 (.int (nI ((flt 1 (lostP Q B) 30 ++ flt 2 (lostP Q S) 30 ++ flt 3 (twinP Q) 60 ++ idlQ Q L 40 ++ flt 5 (fun j => wallI L j L.length) 40 ++ flt 6 (endP Q) i).length))) (.ref ka) (.ref na) (.ref ma) u19 u20 (by simp) 6 (nI (i + 1))) (kwV 3 hts w_co_Mo_tells rfl rfl w_it_Mo w_ml_Mo_161 w_im_Mo_tells w_se_Mo__Mo_tells (by decide +kernel) ⟨(Nat.le_of_ble_eq_true rfl), (Nat.le_of_ble_eq_true rfl)⟩) (u_preV hK hV hn [0] rfl hz 0 rfl rfl) rfl rfl hl.1 rfl (lv_room (Nat.le_of_ble_eq_true rfl)) d_Mo_check_257 ⟨(Nat.le_of_ble_eq_true rfl), (Nat.le_of_ble_eq_true rfl)⟩) hV (fun r9 V9 H locs hp hV hle => ?_)
          obtain ⟨rfl, rfl, hz⟩ := hp
          replace hV := uu_same hV hn [0] rfl
          have hV : vS G.1 cls lo s H locs (vU V [(m, eO 8 [.int 0, u1, u2, u3, .ref pa, .ref sa, .ref la, .int (nI L.length), .ref ba, u9, u10, u11, u12, u13, u14, .int (nI ((flt 1 (lostP Q B) 30 ++ flt 2 (lostP Q S) 30 ++ flt 3 (twinP Q) 60 ++ idlQ Q L 40 ++ flt 5 (fun j => wallI L j L.length) 40 ++ flt 6 (endP Q) i).length)), .ref ka, .ref na, .ref ma, u19, u20]), (sa, eI (gI G) 62 sp), (la, eI (gI G) 62 al), (pa, eI (gI G) 1769 P), (ma, eI (gZ G) 41 mk), (ba, eI (gI G) 600 bf), (ka, eI (gI G) 300 fk), (na, eI (gI G) 300 fn)]) := hV
          rw [app_n hu] at hV hO
          refine lv_iinc (v := nI (i + 2)) (lv' := [(1, .int (nI (i + 2))), (0, .ref m)]) hx hb d_Mo_check_260 hl (k := 1) rfl (nI_add (i + 1) 1) (by decide) rfl (fun ls hl => ?_)
          refine lv_goto (tgt := 222) hx hb d_Mo_check_263 (by decide) ?_
          exact ih (i + 1) fk fn (by omega) (by omega) hO H locs ls hz hV (lv_sub hl [1, 0] rfl)
  have l5 : ∀ (k : Nat) (i : Nat) (fk fn : Nat → Int32), 40 - i < k → (i ≤ 40) → (ckOk fk fn (flt 1 (lostP Q B) 30 ++ flt 2 (lostP Q S) 30 ++ flt 3 (twinP Q) 60 ++ idlQ Q L 40 ++ flt 5 (fun j => wallI L j L.length) i)) → ∀ (H : Heap) (locs : List Loc) (ls : Array Slot), H.size = sz → vS G.1 cls lo s H locs (vU V [(m, eO 8 [.int 0, u1, u2, u3, .ref pa, .ref sa, .ref la, .int (nI L.length), .ref ba, u9, u10, u11, u12, u13, u14, .int (nI ((flt 1 (lostP Q B) 30 ++ flt 2 (lostP Q S) 30 ++ flt 3 (twinP Q) 60 ++ idlQ Q L 40 ++ flt 5 (fun j => wallI L j L.length) i).length)), .ref ka, .ref na, .ref ma, u19, u20]), (sa, eI (gI G) 62 sp), (la, eI (gI G) 62 al), (pa, eI (gI G) 1769 P), (ma, eI (gZ G) 41 mk), (ba, eI (gI G) 600 bf), (ka, eI (gI G) 300 fk), (na, eI (gI G) 300 fn)]) → lv_has ls 3 [(0, .ref m), (1, .int (nI (i + 1)))] → W pg l ev ({ frames := 5, cells := 0, slots := 0, locals := 180 } : Room) s mi args below meth cd H locs 0 0 (MQ below (vPost G lo (fun r V' k => r = some (.int (nI (fltA (Q, B, S, L)).length)) ∧ (∃ f1 f2 f3 : Nat → Int32, V' = vU V [(m, eO 8 [.int 0, u1, u2, u3, .ref pa, .ref sa, .ref la, .int (nI L.length), .ref ba, u9, u10, u11, u12, u13, u14, .int (nI ((fltA (Q, B, S, L)).length)), .ref ka, .ref na, .ref ma, u19, u20]), (sa, eI (gI G) 62 sp), (la, eI (gI G) 62 al), (pa, eI (gI G) 1769 P), (ma, eI (gZ G) 41 f3), (ba, eI (gI G) 600 bf), (ka, eI (gI G) 300 f1), (na, eI (gI G) 300 f2)] ∧ ckOk f1 f2 (fltA (Q, B, S, L))) ∧ k = sz)) args s 0 0 (vL lo)) (F0 mi 197 ls []) := by
    intro k
    induction k with
    | zero => intro i fk fn hk; exact absurd hk (by omega)
    | succ k ih =>
      intro i fk fn hk hi hO H locs ls hz hV hl
      refine lv_iload_n hx hb d_Mo_check_197 rfl (lv_at hl 1 rfl) ?_
      refine lv_bipush (v := 41) hx hb d_Mo_check_198 (by decide) ?_
      refine lv_icmp_ge (tgt := 220) hx hb d_Mo_check_200 (by decide) (fun c_10 => ?_) (fun c_10 => ?_)
      · replace c_10 : 41 ≤ i + 1 := (nI_leI (a := 41) (b := i + 1) (by omega) (by omega)).mp c_10
        refine lv_iconst (v := 1) hx hb d_Mo_check_220 (by decide) ?_
        refine lv_istore_n (lv' := [(1, .int 1), (0, .ref m)]) hx hb d_Mo_check_221 rfl hl (by decide) rfl (fun ls hl => ?_)
        have e9 : flt 1 (lostP Q B) 30 ++ flt 2 (lostP Q S) 30 ++ flt 3 (twinP Q) 60 ++ idlQ Q L 40 ++ flt 5 (fun j => wallI L j L.length) i = flt 1 (lostP Q B) 30 ++ flt 2 (lostP Q S) 30 ++ flt 3 (twinP Q) 60 ++ idlQ Q L 40 ++ flt 5 (fun j => wallI L j L.length) 40 ++ flt 6 (endP Q) 0 := by rw [show i = 40 by omega]; exact (List.append_nil _).symm
        rw [e9] at hV hO
        exact l6 41 0 fk fn (by omega) (by omega) hO H locs ls hz hV (lv_sub hl [1, 0] rfl)
      · replace c_10 : ¬ 41 ≤ i + 1 := fun z9 => c_10 ((nI_leI (a := 41) (b := i + 1) (by omega) (by omega)).mpr z9)
        refine lv_aload_n hx hb d_Mo_check_203 rfl (lv_at hl 0 rfl) ?_
        refine lv_iconst (v := 5) hx hb d_Mo_check_204 (by decide) ?_
        refine lv_iload_n hx hb d_Mo_check_205 rfl (lv_at hl 1 rfl) ?_
        refine lv_aload_n hx hb d_Mo_check_206 rfl (lv_at hl 0 rfl) ?_
        refine lv_iload_n hx hb d_Mo_check_207 rfl (lv_at hl 1 rfl) ?_
        refine v_call (va_runV (As := [.int (nI (i + 1))]) (rest := [.int (nI (i + 1)), .int 5, .ref m]) ⟨hx, hb, hml, hown, hts⟩ (c_Mo_isWall l G lo _ _ m ba (.int 0) u1 u2 u3 (.ref pa) (.ref sa) (.ref la) u9 u10 u11 u12 u13 u14 (.int (nI ((flt 1 (lostP Q B) 30 ++ flt 2 (lostP Q S) 30 ++ flt 3 (twinP Q) 60 ++ idlQ Q L 40 ++ flt 5 (fun j => wallI L j L.length) i).length))) (.ref ka) (.ref na) (.ref ma) u19 u20 bf L (nd_sub hn [0, 5] (by decide) rfl) hB9 hL (i + 1) (by omega)) (kwV 1 hts w_co_Mo_isWall rfl rfl w_it_Mo w_ml_Mo_171 w_im_Mo_isWall w_se_Mo__Mo_isWall (by decide +kernel) ⟨(Nat.le_of_ble_eq_true rfl), (Nat.le_of_ble_eq_true rfl)⟩) (u_preV hK hV hn [0, 5] rfl hz 0 rfl rfl) rfl rfl hl.1 rfl (lv_room (Nat.le_of_ble_eq_true rfl)) d_Mo_check_208 ⟨(Nat.le_of_ble_eq_true rfl), (Nat.le_of_ble_eq_true rfl)⟩) hV (fun r9 V9 H locs hp hV hle => ?_)
        obtain ⟨rfl, rfl, hz⟩ := hp
        replace hV := uu_same hV hn [0, 5] rfl
        rcases tf (wallI L (i + 1) L.length) with d_11 | d_11
        · have hu : (fun j => wallI L j L.length) (i + 1) = true := d_11
          have hV : vS G.1 cls lo s H locs (vU V [(m, eO 8 [.int 0, u1, u2, u3, .ref pa, .ref sa, .ref la, .int (nI L.length), .ref ba, u9, u10, u11, u12, u13, u14, .int (nI ((flt 1 (lostP Q B) 30 ++ flt 2 (lostP Q S) 30 ++ flt 3 (twinP Q) 60 ++ idlQ Q L 40 ++ flt 5 (fun j => wallI L j L.length) i).length)), .ref ka, .ref na, .ref ma, u19, u20]), (sa, eI (gI G) 62 sp), (la, eI (gI G) 62 al), (pa, eI (gI G) 1769 P), (ma, eI (gZ G) 41 mk), (ba, eI (gI G) 600 bf), (ka, eI (gI G) 300 fk), (na, eI (gI G) 300 fn)]) := hV
          refine W.eq (g2 := F0 mi 211 ls [.int 1, .int (nI (i + 1)), .int 5, .ref m]) (by rw [d_11]; rfl) ?_
          refine v_call (va_runV (As := [.int 5, .int (nI (i + 1)), .int 1]) (rest := []) ⟨hx, hb, hml, hown, hts⟩ (c_Mo_tells l G lo _ _ m ka na (.int 0) u1 u2 u3 (.ref pa) (.ref sa) (.ref la) (.int (nI L.length)) (.ref ba) u9 u10 u11 u12 u13 u14 (.ref ma) u19 u20 fk fn (flt 1 (lostP Q B) 30 ++ flt 2 (lostP Q S) 30 ++ flt 3 (twinP Q) 60 ++ idlQ Q L 40 ++ flt 5 (fun j => wallI L j L.length) i) (nd_sub hn [0, 6, 7] (by decide) rfl) hO (by have := flt_le 5 (fun j => wallI L j L.length) i; (try simp only [List.length_append]); omega) 5 (i + 1)) (kwV 3 hts w_co_Mo_tells rfl rfl w_it_Mo w_ml_Mo_161 w_im_Mo_tells w_se_Mo__Mo_tells (by decide +kernel) ⟨(Nat.le_of_ble_eq_true rfl), (Nat.le_of_ble_eq_true rfl)⟩) (u_preV hK hV hn [0, 6, 7] rfl hz 0 rfl rfl) rfl rfl hl.1 rfl (lv_room (Nat.le_of_ble_eq_true rfl)) d_Mo_check_211 ⟨(Nat.le_of_ble_eq_true rfl), (Nat.le_of_ble_eq_true rfl)⟩) hV (fun r9 V9 H locs hp hV hle => ?_)
          obtain ⟨rfl, ⟨g_12k, g_12n, rfl, hO_g_12⟩, hz⟩ := hp
          replace hV := u_back hV hn [0, 6, 7] rfl
          have hV : vS G.1 cls lo s H locs (vU V [(m, eO 8 [.int 0, u1, u2, u3, .ref pa, .ref sa, .ref la, .int (nI L.length), .ref ba, u9, u10, u11, u12, u13, u14, .int (nI ((flt 1 (lostP Q B) 30 ++ flt 2 (lostP Q S) 30 ++ flt 3 (twinP Q) 60 ++ idlQ Q L 40 ++ flt 5 (fun j => wallI L j L.length) i ++ [(5, i + 1)]).length)), .ref ka, .ref na, .ref ma, u19, u20]), (sa, eI (gI G) 62 sp), (la, eI (gI G) 62 al), (pa, eI (gI G) 1769 P), (ma, eI (gZ G) 41 mk), (ba, eI (gI G) 600 bf), (ka, eI (gI G) 300 g_12k), (na, eI (gI G) 300 g_12n)]) := hV
          rw [app_y hu] at hV hO_g_12
          refine lv_iinc (v := nI (i + 2)) (lv' := [(1, .int (nI (i + 2))), (0, .ref m)]) hx hb d_Mo_check_214 hl (k := 1) rfl (nI_add (i + 1) 1) (by decide) rfl (fun ls hl => ?_)
          refine lv_goto (tgt := 197) hx hb d_Mo_check_217 (by decide) ?_
          exact ih (i + 1) g_12k g_12n (by omega) (by omega) hO_g_12 H locs ls hz hV (lv_sub hl [1, 0] rfl)
        · have hu : (fun j => wallI L j L.length) (i + 1) = false := d_11
          have hV : vS G.1 cls lo s H locs (vU V [(m, eO 8 [.int 0, u1, u2, u3, .ref pa, .ref sa, .ref la, .int (nI L.length), .ref ba, u9, u10, u11, u12, u13, u14, .int (nI ((flt 1 (lostP Q B) 30 ++ flt 2 (lostP Q S) 30 ++ flt 3 (twinP Q) 60 ++ idlQ Q L 40 ++ flt 5 (fun j => wallI L j L.length) i).length)), .ref ka, .ref na, .ref ma, u19, u20]), (sa, eI (gI G) 62 sp), (la, eI (gI G) 62 al), (pa, eI (gI G) 1769 P), (ma, eI (gZ G) 41 mk), (ba, eI (gI G) 600 bf), (ka, eI (gI G) 300 fk), (na, eI (gI G) 300 fn)]) := hV
          refine W.eq (g2 := F0 mi 211 ls [.int 0, .int (nI (i + 1)), .int 5, .ref m]) (by rw [d_11]; rfl) ?_
          refine v_call (va_runV (As := [.int 5, .int (nI (i + 1)), .int 0]) (rest := []) ⟨hx, hb, hml, hown, hts⟩ (c_Mo_tells0 l G lo _ _ m (.int 0) u1 u2 u3 (.ref pa) (.ref sa) (.ref la) (.int (nI L.length)) (.ref ba) u9 u10 u11 u12 u13 u14 (.int (nI ((flt 1 (lostP Q B) 30 ++ flt 2 (lostP Q S) 30 ++ flt 3 (twinP Q) 60 ++ idlQ Q L 40 ++ flt 5 (fun j => wallI L j L.length) i).length))) (.ref ka) (.ref na) (.ref ma) u19 u20 (by simp) 5 (nI (i + 1))) (kwV 3 hts w_co_Mo_tells rfl rfl w_it_Mo w_ml_Mo_161 w_im_Mo_tells w_se_Mo__Mo_tells (by decide +kernel) ⟨(Nat.le_of_ble_eq_true rfl), (Nat.le_of_ble_eq_true rfl)⟩) (u_preV hK hV hn [0] rfl hz 0 rfl rfl) rfl rfl hl.1 rfl (lv_room (Nat.le_of_ble_eq_true rfl)) d_Mo_check_211 ⟨(Nat.le_of_ble_eq_true rfl), (Nat.le_of_ble_eq_true rfl)⟩) hV (fun r9 V9 H locs hp hV hle => ?_)
          obtain ⟨rfl, rfl, hz⟩ := hp
          replace hV := uu_same hV hn [0] rfl
          have hV : vS G.1 cls lo s H locs (vU V [(m, eO 8 [.int 0, u1, u2, u3, .ref pa, .ref sa, .ref la, .int (nI L.length), .ref ba, u9, u10, u11, u12, u13, u14, .int (nI ((flt 1 (lostP Q B) 30 ++ flt 2 (lostP Q S) 30 ++ flt 3 (twinP Q) 60 ++ idlQ Q L 40 ++ flt 5 (fun j => wallI L j L.length) i).length)), .ref ka, .ref na, .ref ma, u19, u20]), (sa, eI (gI G) 62 sp), (la, eI (gI G) 62 al), (pa, eI (gI G) 1769 P), (ma, eI (gZ G) 41 mk), (ba, eI (gI G) 600 bf), (ka, eI (gI G) 300 fk), (na, eI (gI G) 300 fn)]) := hV
          rw [app_n hu] at hV hO
          refine lv_iinc (v := nI (i + 2)) (lv' := [(1, .int (nI (i + 2))), (0, .ref m)]) hx hb d_Mo_check_214 hl (k := 1) rfl (nI_add (i + 1) 1) (by decide) rfl (fun ls hl => ?_)
          refine lv_goto (tgt := 197) hx hb d_Mo_check_217 (by decide) ?_
          exact ih (i + 1) fk fn (by omega) (by omega) hO H locs ls hz hV (lv_sub hl [1, 0] rfl)
  have l4 : ∀ (k : Nat) (i : Nat) (fk fn : Nat → Int32), 40 - i < k → (i ≤ 40) → (ckOk fk fn (flt 1 (lostP Q B) 30 ++ flt 2 (lostP Q S) 30 ++ flt 3 (twinP Q) 60 ++ idlQ Q L i)) → ∀ (H : Heap) (locs : List Loc) (ls : Array Slot), H.size = sz → vS G.1 cls lo s H locs (vU V [(m, eO 8 [.int 0, u1, u2, u3, .ref pa, .ref sa, .ref la, .int (nI L.length), .ref ba, u9, u10, u11, u12, u13, u14, .int (nI ((flt 1 (lostP Q B) 30 ++ flt 2 (lostP Q S) 30 ++ flt 3 (twinP Q) 60 ++ idlQ Q L i).length)), .ref ka, .ref na, .ref ma, u19, u20]), (sa, eI (gI G) 62 sp), (la, eI (gI G) 62 al), (pa, eI (gI G) 1769 P), (ma, eI (gZ G) 41 mk), (ba, eI (gI G) 600 bf), (ka, eI (gI G) 300 fk), (na, eI (gI G) 300 fn)]) → lv_has ls 3 [(0, .ref m), (1, .int (nI (i + 1)))] → W pg l ev ({ frames := 5, cells := 0, slots := 0, locals := 180 } : Room) s mi args below meth cd H locs 0 0 (MQ below (vPost G lo (fun r V' k => r = some (.int (nI (fltA (Q, B, S, L)).length)) ∧ (∃ f1 f2 f3 : Nat → Int32, V' = vU V [(m, eO 8 [.int 0, u1, u2, u3, .ref pa, .ref sa, .ref la, .int (nI L.length), .ref ba, u9, u10, u11, u12, u13, u14, .int (nI ((fltA (Q, B, S, L)).length)), .ref ka, .ref na, .ref ma, u19, u20]), (sa, eI (gI G) 62 sp), (la, eI (gI G) 62 al), (pa, eI (gI G) 1769 P), (ma, eI (gZ G) 41 f3), (ba, eI (gI G) 600 bf), (ka, eI (gI G) 300 f1), (na, eI (gI G) 300 f2)] ∧ ckOk f1 f2 (fltA (Q, B, S, L))) ∧ k = sz)) args s 0 0 (vL lo)) (F0 mi 106 ls []) := by
    intro k
    induction k with
    | zero => intro i fk fn hk; exact absurd hk (by omega)
    | succ k ih =>
      intro i fk fn hk hi hO H locs ls hz hV hl
      refine lv_iload_n hx hb d_Mo_check_106 rfl (lv_at hl 1 rfl) ?_
      refine lv_bipush (v := 41) hx hb d_Mo_check_107 (by decide) ?_
      refine lv_icmp_ge (tgt := 195) hx hb d_Mo_check_109 (by decide) (fun c_13 => ?_) (fun c_13 => ?_)
      · replace c_13 : 41 ≤ i + 1 := (nI_leI (a := 41) (b := i + 1) (by omega) (by omega)).mp c_13
        refine lv_iconst (v := 1) hx hb d_Mo_check_195 (by decide) ?_
        refine lv_istore_n (lv' := [(1, .int 1), (0, .ref m)]) hx hb d_Mo_check_196 rfl hl (by decide) rfl (fun ls hl => ?_)
        have e9 : flt 1 (lostP Q B) 30 ++ flt 2 (lostP Q S) 30 ++ flt 3 (twinP Q) 60 ++ idlQ Q L i = flt 1 (lostP Q B) 30 ++ flt 2 (lostP Q S) 30 ++ flt 3 (twinP Q) 60 ++ idlQ Q L 40 ++ flt 5 (fun j => wallI L j L.length) 0 := by rw [show i = 40 by omega]; exact (List.append_nil _).symm
        rw [e9] at hV hO
        exact l5 41 0 fk fn (by omega) (by omega) hO H locs ls hz hV (lv_sub hl [1, 0] rfl)
      · replace c_13 : ¬ 41 ≤ i + 1 := fun z9 => c_13 ((nI_leI (a := 41) (b := i + 1) (by omega) (by omega)).mpr z9)
        refine lv_iconst (v := 0) hx hb d_Mo_check_112 (by decide) ?_
        refine lv_istore_n (lv' := [(2, .int 0), (0, .ref m), (1, .int (nI (i + 1)))]) hx hb d_Mo_check_113 rfl hl (by decide) rfl (fun ls hl => ?_)
        have ihO := @ih
        have eI0 : flt 1 (lostP Q B) 30 ++ flt 2 (lostP Q S) 30 ++ flt 3 (twinP Q) 60 ++ idlQ Q L i = flt 1 (lostP Q B) 30 ++ flt 2 (lostP Q S) 30 ++ flt 3 (twinP Q) 60 ++ idlQ Q L i ++ idl Q L (i + 1) 0 := (List.append_nil _).symm
        rw [eI0] at hV hO
        have l4i : ∀ (k : Nat) (j : Nat) (fk fn : Nat → Int32), L.length - j < k → (j ≤ L.length) → (ckOk fk fn (flt 1 (lostP Q B) 30 ++ flt 2 (lostP Q S) 30 ++ flt 3 (twinP Q) 60 ++ idlQ Q L i ++ idl Q L (i + 1) j)) → ∀ (H : Heap) (locs : List Loc) (ls : Array Slot), H.size = sz → vS G.1 cls lo s H locs (vU V [(m, eO 8 [.int 0, u1, u2, u3, .ref pa, .ref sa, .ref la, .int (nI L.length), .ref ba, u9, u10, u11, u12, u13, u14, .int (nI ((flt 1 (lostP Q B) 30 ++ flt 2 (lostP Q S) 30 ++ flt 3 (twinP Q) 60 ++ idlQ Q L i ++ idl Q L (i + 1) j).length)), .ref ka, .ref na, .ref ma, u19, u20]), (sa, eI (gI G) 62 sp), (la, eI (gI G) 62 al), (pa, eI (gI G) 1769 P), (ma, eI (gZ G) 41 mk), (ba, eI (gI G) 600 bf), (ka, eI (gI G) 300 fk), (na, eI (gI G) 300 fn)]) → lv_has ls 3 [(0, .ref m), (1, .int (nI (i + 1))), (2, .int (nI j))] → W pg l ev ({ frames := 5, cells := 0, slots := 0, locals := 180 } : Room) s mi args below meth cd H locs 0 0 (MQ below (vPost G lo (fun r V' k => r = some (.int (nI (fltA (Q, B, S, L)).length)) ∧ (∃ f1 f2 f3 : Nat → Int32, V' = vU V [(m, eO 8 [.int 0, u1, u2, u3, .ref pa, .ref sa, .ref la, .int (nI L.length), .ref ba, u9, u10, u11, u12, u13, u14, .int (nI ((fltA (Q, B, S, L)).length)), .ref ka, .ref na, .ref ma, u19, u20]), (sa, eI (gI G) 62 sp), (la, eI (gI G) 62 al), (pa, eI (gI G) 1769 P), (ma, eI (gZ G) 41 f3), (ba, eI (gI G) 600 bf), (ka, eI (gI G) 300 f1), (na, eI (gI G) 300 f2)] ∧ ckOk f1 f2 (fltA (Q, B, S, L))) ∧ k = sz)) args s 0 0 (vL lo)) (F0 mi 114 ls []) := by
          intro k
          induction k with
          | zero => intro j fk fn hk2; exact absurd hk2 (by omega)
          | succ k ih =>
            intro j fk fn hk2 hj hO H locs ls hz hV hl
            refine lv_iload_n hx hb d_Mo_check_114 rfl (lv_at hl 2 rfl) ?_
            refine lv_aload_n hx hb d_Mo_check_115 rfl (lv_at hl 0 rfl) ?_
            refine u_get hx hb hts inMo hown hK hV hn 0 rfl rfl 7 (by decide) w_fl_Mo_111 rfl rfl d_Mo_check_116 ?_
            refine lv_icmp_ge (tgt := 189) hx hb d_Mo_check_119 (by decide) (fun c_14 => ?_) (fun c_14 => ?_)
            · replace c_14 : L.length ≤ j := (nI_leI (a := L.length) (b := j) (by omega) (by omega)).mp c_14
              refine lv_iinc (v := nI (i + 2)) (lv' := [(1, .int (nI (i + 2))), (0, .ref m), (2, .int (nI j))]) hx hb d_Mo_check_189 hl (k := 1) rfl (nI_add (i + 1) 1) (by decide) rfl (fun ls hl => ?_)
              refine lv_goto (tgt := 106) hx hb d_Mo_check_192 (by decide) ?_
              have eO : flt 1 (lostP Q B) 30 ++ flt 2 (lostP Q S) 30 ++ flt 3 (twinP Q) 60 ++ idlQ Q L i ++ idl Q L (i + 1) j = flt 1 (lostP Q B) 30 ++ flt 2 (lostP Q S) 30 ++ flt 3 (twinP Q) 60 ++ idlQ Q L (i + 1) := by rw [show j = L.length by omega, List.append_assoc]; rfl
              rw [eO] at hV hO
              exact ihO (i + 1) fk fn (by omega) (by omega) hO H locs ls hz hV (lv_sub hl [1, 0] rfl)
            · replace c_14 : ¬ L.length ≤ j := fun z9 => c_14 ((nI_leI (a := L.length) (b := j) (by omega) (by omega)).mpr z9)
              obtain ⟨o1, o2, o3, o4, o5, o6⟩ := hB9 j (by omega)
              obtain ⟨o7, o8⟩ := hL1 j (by omega)
              have hid := idleP_go (Q := Q) (L := L) (j := i + 1) (i := j) o7 (by omega) o8
              refine lv_aload_n hx hb d_Mo_check_122 rfl (lv_at hl 0 rfl) ?_
              refine lv_iconst (v := 4) hx hb d_Mo_check_123 (by decide) ?_
              refine lv_iload_n hx hb d_Mo_check_124 rfl (lv_at hl 1 rfl) ?_
              refine lv_aload_n hx hb d_Mo_check_125 rfl (lv_at hl 0 rfl) ?_
              refine u_get hx hb hts inMo hown hK hV hn 0 rfl rfl 8 (by decide) w_fl_Mo_26 rfl rfl d_Mo_check_126 ?_
              refine lv_iconst (v := 3) hx hb d_Mo_check_129 (by decide) ?_
              refine lv_iload_n hx hb d_Mo_check_130 rfl (lv_at hl 2 rfl) ?_
              refine e_imul (v := nI (3 * j)) hx hb d_Mo_check_131 (nI_mul 3 j) ?_
              refine lv_iconst (v := 1) hx hb d_Mo_check_132 (by decide) ?_
              refine e_iadd (v := nI (3 * j + 1)) hx hb d_Mo_check_133 (nI_add (3 * j) 1) ?_
              refine u_ialdN hx hb hK hV hn 5 rfl (by omega) (by decide) d_Mo_check_134 ?_
              rw [o2]
              refine lv_iload_n hx hb d_Mo_check_135 rfl (lv_at hl 1 rfl) ?_
              refine lv_icmp_ne (tgt := 179) hx hb d_Mo_check_136 (by decide) (fun c_15 => ?_) (fun c_15 => ?_)
              · replace c_15 : ¬ (L.getD j z3).2.1 = i + 1 := fun z9 => c_15 ((nI_eq (a := (L.getD j z3).2.1) (b := i + 1) (by omega) (by omega)).mpr z9)
                have hu : idleP Q L (i + 1) j = false := by rw [hid, decide_eq_false c_15]; rfl
                refine lv_iconst (v := 0) hx hb d_Mo_check_179 (by decide) ?_
                refine v_call (va_runV (As := [.int 4, .int (nI (i + 1)), .int 0]) (rest := []) ⟨hx, hb, hml, hown, hts⟩ (c_Mo_tells0 l G lo _ _ m (.int 0) u1 u2 u3 (.ref pa) (.ref sa) (.ref la) (.int (nI L.length)) (.ref ba) u9 u10 u11 u12 u13 u14 (.int (nI ((flt 1 (lostP Q B) 30 ++ flt 2 (lostP Q S) 30 ++ flt 3 (twinP Q) 60 ++ idlQ Q L i ++ idl Q L (i + 1) j).length))) (.ref ka) (.ref na) (.ref ma) u19 u20 (by simp) 4 (nI (i + 1))) (kwV 3 hts w_co_Mo_tells rfl rfl w_it_Mo w_ml_Mo_161 w_im_Mo_tells w_se_Mo__Mo_tells (by decide +kernel) ⟨(Nat.le_of_ble_eq_true rfl), (Nat.le_of_ble_eq_true rfl)⟩) (u_preV hK hV hn [0] rfl hz 0 rfl rfl) rfl rfl hl.1 rfl (lv_room (Nat.le_of_ble_eq_true rfl)) d_Mo_check_180 ⟨(Nat.le_of_ble_eq_true rfl), (Nat.le_of_ble_eq_true rfl)⟩) hV (fun r9 V9 H locs hp hV hle => ?_)
                obtain ⟨rfl, rfl, hz⟩ := hp
                replace hV := uu_same hV hn [0] rfl
                have hV : vS G.1 cls lo s H locs (vU V [(m, eO 8 [.int 0, u1, u2, u3, .ref pa, .ref sa, .ref la, .int (nI L.length), .ref ba, u9, u10, u11, u12, u13, u14, .int (nI ((flt 1 (lostP Q B) 30 ++ flt 2 (lostP Q S) 30 ++ flt 3 (twinP Q) 60 ++ idlQ Q L i ++ idl Q L (i + 1) j).length)), .ref ka, .ref na, .ref ma, u19, u20]), (sa, eI (gI G) 62 sp), (la, eI (gI G) 62 al), (pa, eI (gI G) 1769 P), (ma, eI (gZ G) 41 mk), (ba, eI (gI G) 600 bf), (ka, eI (gI G) 300 fk), (na, eI (gI G) 300 fn)]) := hV
                rw [← idl_n hu] at hV hO
                refine lv_iinc (v := nI (j + 1)) (lv' := [(2, .int (nI (j + 1))), (0, .ref m), (1, .int (nI (i + 1)))]) hx hb d_Mo_check_183 hl (k := 2) rfl (nI_add j 1) (by decide) rfl (fun ls hl => ?_)
                refine lv_goto (tgt := 114) hx hb d_Mo_check_186 (by decide) ?_
                exact ih (j + 1) fk fn (by omega) (by omega) hO H locs ls hz hV (lv_sub hl [1, 2, 0] rfl)
              · replace c_15 : (L.getD j z3).2.1 = i + 1 := (nI_eq (a := (L.getD j z3).2.1) (b := i + 1) (by omega) (by omega)).mp c_15
                have e1 := c_15
                refine lv_aload_n hx hb d_Mo_check_139 rfl (lv_at hl 0 rfl) ?_
                refine lv_aload_n hx hb d_Mo_check_140 rfl (lv_at hl 0 rfl) ?_
                refine u_get hx hb hts inMo hown hK hV hn 0 rfl rfl 8 (by decide) w_fl_Mo_26 rfl rfl d_Mo_check_141 ?_
                refine lv_iconst (v := 3) hx hb d_Mo_check_144 (by decide) ?_
                refine lv_iload_n hx hb d_Mo_check_145 rfl (lv_at hl 2 rfl) ?_
                refine e_imul (v := nI (3 * j)) hx hb d_Mo_check_146 (nI_mul 3 j) ?_
                refine u_ialdN hx hb hK hV hn 5 rfl (by omega) (by decide) d_Mo_check_147 ?_
                rw [o1]
                refine lv_iload_n hx hb d_Mo_check_148 rfl (lv_at hl 1 rfl) ?_
                refine lv_iconst (v := 0) hx hb d_Mo_check_149 (by decide) ?_
                refine v_call (va_runV (As := [.int (nI ((L.getD j z3).1)), .int (nI (i + 1)), .int 0]) (rest := [.int (nI (i + 1)), .int 4, .ref m]) ⟨hx, hb, hml, hown, hts⟩ (c_Mo_goes l G lo _ _ m pa (.int 0) u1 u2 u3 (.ref sa) (.ref la) (.int (nI L.length)) (.ref ba) u9 u10 u11 u12 u13 u14 (.int (nI ((flt 1 (lostP Q B) 30 ++ flt 2 (lostP Q S) 30 ++ flt 3 (twinP Q) 60 ++ idlQ Q L i ++ idl Q L (i + 1) j).length))) (.ref ka) (.ref na) (.ref ma) u19 u20 P Q (nd_sub hn [0, 3] (by decide) rfl) hM ((L.getD j z3).1) (i + 1) 0 (by omega) (by omega) (by decide)) (kwV 3 hts w_co_Mo_goes rfl rfl w_it_Mo w_ml_Mo_148 w_im_Mo_goes w_se_Mo__Mo_goes (by decide +kernel) ⟨(Nat.le_of_ble_eq_true rfl), (Nat.le_of_ble_eq_true rfl)⟩) (u_preV hK hV hn [0, 3] rfl hz 0 rfl rfl) rfl rfl hl.1 rfl (lv_room (Nat.le_of_ble_eq_true rfl)) d_Mo_check_150 ⟨(Nat.le_of_ble_eq_true rfl), (Nat.le_of_ble_eq_true rfl)⟩) hV (fun r9 V9 H locs hp hV hle => ?_)
                obtain ⟨rfl, rfl, hz⟩ := hp
                replace hV := uu_same hV hn [0, 3] rfl
                rcases tf (goQ Q 0 ((L.getD j z3).1) (i + 1) 60) with d_16 | d_16
                · have g1 := d_16
                  have hV : vS G.1 cls lo s H locs (vU V [(m, eO 8 [.int 0, u1, u2, u3, .ref pa, .ref sa, .ref la, .int (nI L.length), .ref ba, u9, u10, u11, u12, u13, u14, .int (nI ((flt 1 (lostP Q B) 30 ++ flt 2 (lostP Q S) 30 ++ flt 3 (twinP Q) 60 ++ idlQ Q L i ++ idl Q L (i + 1) j).length)), .ref ka, .ref na, .ref ma, u19, u20]), (sa, eI (gI G) 62 sp), (la, eI (gI G) 62 al), (pa, eI (gI G) 1769 P), (ma, eI (gZ G) 41 mk), (ba, eI (gI G) 600 bf), (ka, eI (gI G) 300 fk), (na, eI (gI G) 300 fn)]) := hV
                  refine W.eq (g2 := F0 mi 153 ls [.int 1, .int (nI (i + 1)), .int 4, .ref m]) (by rw [d_16]; rfl) ?_
                  refine lv_if_eq (tgt := 175) hx hb d_Mo_check_153 (by decide) (fun c_17 => absurd c_17 (by decide)) (fun _ => ?_)
                  refine lv_aload_n hx hb d_Mo_check_156 rfl (lv_at hl 0 rfl) ?_
                  refine lv_iload_n hx hb d_Mo_check_157 rfl (lv_at hl 1 rfl) ?_
                  refine lv_aload_n hx hb d_Mo_check_158 rfl (lv_at hl 0 rfl) ?_
                  refine u_get hx hb hts inMo hown hK hV hn 0 rfl rfl 8 (by decide) w_fl_Mo_26 rfl rfl d_Mo_check_159 ?_
                  refine lv_iconst (v := 3) hx hb d_Mo_check_162 (by decide) ?_
                  refine lv_iload_n hx hb d_Mo_check_163 rfl (lv_at hl 2 rfl) ?_
                  refine e_imul (v := nI (3 * j)) hx hb d_Mo_check_164 (nI_mul 3 j) ?_
                  refine lv_iconst (v := 2) hx hb d_Mo_check_165 (by decide) ?_
                  refine e_iadd (v := nI (3 * j + 2)) hx hb d_Mo_check_166 (nI_add (3 * j) 2) ?_
                  refine u_ialdN hx hb hK hV hn 5 rfl (by omega) (by decide) d_Mo_check_167 ?_
                  rw [o3]
                  refine lv_iconst (v := 0) hx hb d_Mo_check_168 (by decide) ?_
                  refine v_call (va_runV (As := [.int (nI (i + 1)), .int (nI ((L.getD j z3).2.2)), .int 0]) (rest := [.int (nI (i + 1)), .int 4, .ref m]) ⟨hx, hb, hml, hown, hts⟩ (c_Mo_goes l G lo _ _ m pa (.int 0) u1 u2 u3 (.ref sa) (.ref la) (.int (nI L.length)) (.ref ba) u9 u10 u11 u12 u13 u14 (.int (nI ((flt 1 (lostP Q B) 30 ++ flt 2 (lostP Q S) 30 ++ flt 3 (twinP Q) 60 ++ idlQ Q L i ++ idl Q L (i + 1) j).length))) (.ref ka) (.ref na) (.ref ma) u19 u20 P Q (nd_sub hn [0, 3] (by decide) rfl) hM (i + 1) ((L.getD j z3).2.2) 0 (by omega) (by omega) (by decide)) (kwV 3 hts w_co_Mo_goes rfl rfl w_it_Mo w_ml_Mo_148 w_im_Mo_goes w_se_Mo__Mo_goes (by decide +kernel) ⟨(Nat.le_of_ble_eq_true rfl), (Nat.le_of_ble_eq_true rfl)⟩) (u_preV hK hV hn [0, 3] rfl hz 0 rfl rfl) rfl rfl hl.1 rfl (lv_room (Nat.le_of_ble_eq_true rfl)) d_Mo_check_169 ⟨(Nat.le_of_ble_eq_true rfl), (Nat.le_of_ble_eq_true rfl)⟩) hV (fun r9 V9 H locs hp hV hle => ?_)
                  obtain ⟨rfl, rfl, hz⟩ := hp
                  replace hV := uu_same hV hn [0, 3] rfl
                  rcases tf (goQ Q 0 (i + 1) ((L.getD j z3).2.2) 60) with d_18 | d_18
                  · have hu : idleP Q L (i + 1) j = false := by rw [hid, g1, d_18, Bool.and_self, Bool.not_true, Bool.and_false]
                    have hV : vS G.1 cls lo s H locs (vU V [(m, eO 8 [.int 0, u1, u2, u3, .ref pa, .ref sa, .ref la, .int (nI L.length), .ref ba, u9, u10, u11, u12, u13, u14, .int (nI ((flt 1 (lostP Q B) 30 ++ flt 2 (lostP Q S) 30 ++ flt 3 (twinP Q) 60 ++ idlQ Q L i ++ idl Q L (i + 1) j).length)), .ref ka, .ref na, .ref ma, u19, u20]), (sa, eI (gI G) 62 sp), (la, eI (gI G) 62 al), (pa, eI (gI G) 1769 P), (ma, eI (gZ G) 41 mk), (ba, eI (gI G) 600 bf), (ka, eI (gI G) 300 fk), (na, eI (gI G) 300 fn)]) := hV
                    refine W.eq (g2 := F0 mi 172 ls [.int 1, .int (nI (i + 1)), .int 4, .ref m]) (by rw [d_18]; rfl) ?_
                    refine lv_if_ne (tgt := 179) hx hb d_Mo_check_172 (by decide) (fun _ => ?_) (fun c_19 => absurd c_19 (by decide))
                    refine lv_iconst (v := 0) hx hb d_Mo_check_179 (by decide) ?_
                    refine v_call (va_runV (As := [.int 4, .int (nI (i + 1)), .int 0]) (rest := []) ⟨hx, hb, hml, hown, hts⟩ (c_Mo_tells0 l G lo _ _ m (.int 0) u1 u2 u3 (.ref pa) (.ref sa) (.ref la) (.int (nI L.length)) (.ref ba) u9 u10 u11 u12 u13 u14 (.int (nI ((flt 1 (lostP Q B) 30 ++ flt 2 (lostP Q S) 30 ++ flt 3 (twinP Q) 60 ++ idlQ Q L i ++ idl Q L (i + 1) j).length))) (.ref ka) (.ref na) (.ref ma) u19 u20 (by simp) 4 (nI (i + 1))) (kwV 3 hts w_co_Mo_tells rfl rfl w_it_Mo w_ml_Mo_161 w_im_Mo_tells w_se_Mo__Mo_tells (by decide +kernel) ⟨(Nat.le_of_ble_eq_true rfl), (Nat.le_of_ble_eq_true rfl)⟩) (u_preV hK hV hn [0] rfl hz 0 rfl rfl) rfl rfl hl.1 rfl (lv_room (Nat.le_of_ble_eq_true rfl)) d_Mo_check_180 ⟨(Nat.le_of_ble_eq_true rfl), (Nat.le_of_ble_eq_true rfl)⟩) hV (fun r9 V9 H locs hp hV hle => ?_)
                    obtain ⟨rfl, rfl, hz⟩ := hp
                    replace hV := uu_same hV hn [0] rfl
                    have hV : vS G.1 cls lo s H locs (vU V [(m, eO 8 [.int 0, u1, u2, u3, .ref pa, .ref sa, .ref la, .int (nI L.length), .ref ba, u9, u10, u11, u12, u13, u14, .int (nI ((flt 1 (lostP Q B) 30 ++ flt 2 (lostP Q S) 30 ++ flt 3 (twinP Q) 60 ++ idlQ Q L i ++ idl Q L (i + 1) j).length)), .ref ka, .ref na, .ref ma, u19, u20]), (sa, eI (gI G) 62 sp), (la, eI (gI G) 62 al), (pa, eI (gI G) 1769 P), (ma, eI (gZ G) 41 mk), (ba, eI (gI G) 600 bf), (ka, eI (gI G) 300 fk), (na, eI (gI G) 300 fn)]) := hV
                    rw [← idl_n hu] at hV hO
                    refine lv_iinc (v := nI (j + 1)) (lv' := [(2, .int (nI (j + 1))), (0, .ref m), (1, .int (nI (i + 1)))]) hx hb d_Mo_check_183 hl (k := 2) rfl (nI_add j 1) (by decide) rfl (fun ls hl => ?_)
                    refine lv_goto (tgt := 114) hx hb d_Mo_check_186 (by decide) ?_
                    exact ih (j + 1) fk fn (by omega) (by omega) hO H locs ls hz hV (lv_sub hl [1, 2, 0] rfl)
                  · have hu : idleP Q L (i + 1) j = true := by rw [hid, decide_eq_true e1, g1, d_18]; rfl
                    have hV : vS G.1 cls lo s H locs (vU V [(m, eO 8 [.int 0, u1, u2, u3, .ref pa, .ref sa, .ref la, .int (nI L.length), .ref ba, u9, u10, u11, u12, u13, u14, .int (nI ((flt 1 (lostP Q B) 30 ++ flt 2 (lostP Q S) 30 ++ flt 3 (twinP Q) 60 ++ idlQ Q L i ++ idl Q L (i + 1) j).length)), .ref ka, .ref na, .ref ma, u19, u20]), (sa, eI (gI G) 62 sp), (la, eI (gI G) 62 al), (pa, eI (gI G) 1769 P), (ma, eI (gZ G) 41 mk), (ba, eI (gI G) 600 bf), (ka, eI (gI G) 300 fk), (na, eI (gI G) 300 fn)]) := hV
                    refine W.eq (g2 := F0 mi 172 ls [.int 0, .int (nI (i + 1)), .int 4, .ref m]) (by rw [d_18]; rfl) ?_
                    refine lv_if_ne (tgt := 179) hx hb d_Mo_check_172 (by decide) (fun c_20 => absurd c_20 (by decide)) (fun _ => ?_)
                    refine lv_iconst (v := 1) hx hb d_Mo_check_175 (by decide) ?_
                    refine lv_goto (tgt := 180) hx hb d_Mo_check_176 (by decide) ?_
                    refine v_call (va_runV (As := [.int 4, .int (nI (i + 1)), .int 1]) (rest := []) ⟨hx, hb, hml, hown, hts⟩ (c_Mo_tells l G lo _ _ m ka na (.int 0) u1 u2 u3 (.ref pa) (.ref sa) (.ref la) (.int (nI L.length)) (.ref ba) u9 u10 u11 u12 u13 u14 (.ref ma) u19 u20 fk fn (flt 1 (lostP Q B) 30 ++ flt 2 (lostP Q S) 30 ++ flt 3 (twinP Q) 60 ++ idlQ Q L i ++ idl Q L (i + 1) j) (nd_sub hn [0, 6, 7] (by decide) rfl) hO (by have := idl_bd Q L (k := i) (i := j) (by omega); simp only [List.length_append] at *; omega) 4 (i + 1)) (kwV 3 hts w_co_Mo_tells rfl rfl w_it_Mo w_ml_Mo_161 w_im_Mo_tells w_se_Mo__Mo_tells (by decide +kernel) ⟨(Nat.le_of_ble_eq_true rfl), (Nat.le_of_ble_eq_true rfl)⟩) (u_preV hK hV hn [0, 6, 7] rfl hz 0 rfl rfl) rfl rfl hl.1 rfl (lv_room (Nat.le_of_ble_eq_true rfl)) d_Mo_check_180 ⟨(Nat.le_of_ble_eq_true rfl), (Nat.le_of_ble_eq_true rfl)⟩) hV (fun r9 V9 H locs hp hV hle => ?_)
                    obtain ⟨rfl, ⟨g_21k, g_21n, rfl, hO_g_21⟩, hz⟩ := hp
                    replace hV := u_back hV hn [0, 6, 7] rfl
                    have hV : vS G.1 cls lo s H locs (vU V [(m, eO 8 [.int 0, u1, u2, u3, .ref pa, .ref sa, .ref la, .int (nI L.length), .ref ba, u9, u10, u11, u12, u13, u14, .int (nI ((flt 1 (lostP Q B) 30 ++ flt 2 (lostP Q S) 30 ++ flt 3 (twinP Q) 60 ++ idlQ Q L i ++ idl Q L (i + 1) j ++ [(4, i + 1)]).length)), .ref ka, .ref na, .ref ma, u19, u20]), (sa, eI (gI G) 62 sp), (la, eI (gI G) 62 al), (pa, eI (gI G) 1769 P), (ma, eI (gZ G) 41 mk), (ba, eI (gI G) 600 bf), (ka, eI (gI G) 300 g_21k), (na, eI (gI G) 300 g_21n)]) := hV
                    rw [List.append_assoc (flt 1 (lostP Q B) 30 ++ flt 2 (lostP Q S) 30 ++ flt 3 (twinP Q) 60 ++ idlQ Q L i), ← idl_y hu] at hV hO_g_21
                    refine lv_iinc (v := nI (j + 1)) (lv' := [(2, .int (nI (j + 1))), (0, .ref m), (1, .int (nI (i + 1)))]) hx hb d_Mo_check_183 hl (k := 2) rfl (nI_add j 1) (by decide) rfl (fun ls hl => ?_)
                    refine lv_goto (tgt := 114) hx hb d_Mo_check_186 (by decide) ?_
                    exact ih (j + 1) g_21k g_21n (by omega) (by omega) hO_g_21 H locs ls hz hV (lv_sub hl [1, 2, 0] rfl)
                · have hu : idleP Q L (i + 1) j = true := by rw [hid, decide_eq_true e1, d_16]; rfl
                  have hV : vS G.1 cls lo s H locs (vU V [(m, eO 8 [.int 0, u1, u2, u3, .ref pa, .ref sa, .ref la, .int (nI L.length), .ref ba, u9, u10, u11, u12, u13, u14, .int (nI ((flt 1 (lostP Q B) 30 ++ flt 2 (lostP Q S) 30 ++ flt 3 (twinP Q) 60 ++ idlQ Q L i ++ idl Q L (i + 1) j).length)), .ref ka, .ref na, .ref ma, u19, u20]), (sa, eI (gI G) 62 sp), (la, eI (gI G) 62 al), (pa, eI (gI G) 1769 P), (ma, eI (gZ G) 41 mk), (ba, eI (gI G) 600 bf), (ka, eI (gI G) 300 fk), (na, eI (gI G) 300 fn)]) := hV
                  refine W.eq (g2 := F0 mi 153 ls [.int 0, .int (nI (i + 1)), .int 4, .ref m]) (by rw [d_16]; rfl) ?_
                  refine lv_if_eq (tgt := 175) hx hb d_Mo_check_153 (by decide) (fun _ => ?_) (fun c_22 => absurd c_22 (by decide))
                  refine lv_iconst (v := 1) hx hb d_Mo_check_175 (by decide) ?_
                  refine lv_goto (tgt := 180) hx hb d_Mo_check_176 (by decide) ?_
                  refine v_call (va_runV (As := [.int 4, .int (nI (i + 1)), .int 1]) (rest := []) ⟨hx, hb, hml, hown, hts⟩ (c_Mo_tells l G lo _ _ m ka na (.int 0) u1 u2 u3 (.ref pa) (.ref sa) (.ref la) (.int (nI L.length)) (.ref ba) u9 u10 u11 u12 u13 u14 (.ref ma) u19 u20 fk fn (flt 1 (lostP Q B) 30 ++ flt 2 (lostP Q S) 30 ++ flt 3 (twinP Q) 60 ++ idlQ Q L i ++ idl Q L (i + 1) j) (nd_sub hn [0, 6, 7] (by decide) rfl) hO (by have := idl_bd Q L (k := i) (i := j) (by omega); simp only [List.length_append] at *; omega) 4 (i + 1)) (kwV 3 hts w_co_Mo_tells rfl rfl w_it_Mo w_ml_Mo_161 w_im_Mo_tells w_se_Mo__Mo_tells (by decide +kernel) ⟨(Nat.le_of_ble_eq_true rfl), (Nat.le_of_ble_eq_true rfl)⟩) (u_preV hK hV hn [0, 6, 7] rfl hz 0 rfl rfl) rfl rfl hl.1 rfl (lv_room (Nat.le_of_ble_eq_true rfl)) d_Mo_check_180 ⟨(Nat.le_of_ble_eq_true rfl), (Nat.le_of_ble_eq_true rfl)⟩) hV (fun r9 V9 H locs hp hV hle => ?_)
                  obtain ⟨rfl, ⟨g_23k, g_23n, rfl, hO_g_23⟩, hz⟩ := hp
                  replace hV := u_back hV hn [0, 6, 7] rfl
                  have hV : vS G.1 cls lo s H locs (vU V [(m, eO 8 [.int 0, u1, u2, u3, .ref pa, .ref sa, .ref la, .int (nI L.length), .ref ba, u9, u10, u11, u12, u13, u14, .int (nI ((flt 1 (lostP Q B) 30 ++ flt 2 (lostP Q S) 30 ++ flt 3 (twinP Q) 60 ++ idlQ Q L i ++ idl Q L (i + 1) j ++ [(4, i + 1)]).length)), .ref ka, .ref na, .ref ma, u19, u20]), (sa, eI (gI G) 62 sp), (la, eI (gI G) 62 al), (pa, eI (gI G) 1769 P), (ma, eI (gZ G) 41 mk), (ba, eI (gI G) 600 bf), (ka, eI (gI G) 300 g_23k), (na, eI (gI G) 300 g_23n)]) := hV
                  rw [List.append_assoc (flt 1 (lostP Q B) 30 ++ flt 2 (lostP Q S) 30 ++ flt 3 (twinP Q) 60 ++ idlQ Q L i), ← idl_y hu] at hV hO_g_23
                  refine lv_iinc (v := nI (j + 1)) (lv' := [(2, .int (nI (j + 1))), (0, .ref m), (1, .int (nI (i + 1)))]) hx hb d_Mo_check_183 hl (k := 2) rfl (nI_add j 1) (by decide) rfl (fun ls hl => ?_)
                  refine lv_goto (tgt := 114) hx hb d_Mo_check_186 (by decide) ?_
                  exact ih (j + 1) g_23k g_23n (by omega) (by omega) hO_g_23 H locs ls hz hV (lv_sub hl [1, 2, 0] rfl)
        exact l4i (L.length + 1) 0 fk fn (by omega) (by omega) hO H locs ls hz hV (lv_sub hl [1, 2, 0] rfl)
  have l3 : ∀ (k : Nat) (i : Nat) (fk fn : Nat → Int32), 60 - i < k → (i ≤ 60) → (ckOk fk fn (flt 1 (lostP Q B) 30 ++ flt 2 (lostP Q S) 30 ++ flt 3 (twinP Q) i)) → ∀ (H : Heap) (locs : List Loc) (ls : Array Slot), H.size = sz → vS G.1 cls lo s H locs (vU V [(m, eO 8 [.int 0, u1, u2, u3, .ref pa, .ref sa, .ref la, .int (nI L.length), .ref ba, u9, u10, u11, u12, u13, u14, .int (nI ((flt 1 (lostP Q B) 30 ++ flt 2 (lostP Q S) 30 ++ flt 3 (twinP Q) i).length)), .ref ka, .ref na, .ref ma, u19, u20]), (sa, eI (gI G) 62 sp), (la, eI (gI G) 62 al), (pa, eI (gI G) 1769 P), (ma, eI (gZ G) 41 mk), (ba, eI (gI G) 600 bf), (ka, eI (gI G) 300 fk), (na, eI (gI G) 300 fn)]) → lv_has ls 3 [(0, .ref m), (1, .int (nI (i + 1)))] → W pg l ev ({ frames := 5, cells := 0, slots := 0, locals := 180 } : Room) s mi args below meth cd H locs 0 0 (MQ below (vPost G lo (fun r V' k => r = some (.int (nI (fltA (Q, B, S, L)).length)) ∧ (∃ f1 f2 f3 : Nat → Int32, V' = vU V [(m, eO 8 [.int 0, u1, u2, u3, .ref pa, .ref sa, .ref la, .int (nI L.length), .ref ba, u9, u10, u11, u12, u13, u14, .int (nI ((fltA (Q, B, S, L)).length)), .ref ka, .ref na, .ref ma, u19, u20]), (sa, eI (gI G) 62 sp), (la, eI (gI G) 62 al), (pa, eI (gI G) 1769 P), (ma, eI (gZ G) 41 f3), (ba, eI (gI G) 600 bf), (ka, eI (gI G) 300 f1), (na, eI (gI G) 300 f2)] ∧ ckOk f1 f2 (fltA (Q, B, S, L))) ∧ k = sz)) args s 0 0 (vL lo)) (F0 mi 65 ls []) := by
    intro k
    induction k with
    | zero => intro i fk fn hk; exact absurd hk (by omega)
    | succ k ih =>
      intro i fk fn hk hi hO H locs ls hz hV hl
      refine lv_iload_n hx hb d_Mo_check_65 rfl (lv_at hl 1 rfl) ?_
      refine lv_bipush (v := 61) hx hb d_Mo_check_66 (by decide) ?_
      refine lv_icmp_ge (tgt := 104) hx hb d_Mo_check_68 (by decide) (fun c_24 => ?_) (fun c_24 => ?_)
      · replace c_24 : 61 ≤ i + 1 := (nI_leI (a := 61) (b := i + 1) (by omega) (by omega)).mp c_24
        refine lv_iconst (v := 1) hx hb d_Mo_check_104 (by decide) ?_
        refine lv_istore_n (lv' := [(1, .int 1), (0, .ref m)]) hx hb d_Mo_check_105 rfl hl (by decide) rfl (fun ls hl => ?_)
        have e9 : flt 1 (lostP Q B) 30 ++ flt 2 (lostP Q S) 30 ++ flt 3 (twinP Q) i = flt 1 (lostP Q B) 30 ++ flt 2 (lostP Q S) 30 ++ flt 3 (twinP Q) 60 ++ idlQ Q L 0 := by rw [show i = 60 by omega]; exact (List.append_nil _).symm
        rw [e9] at hV hO
        exact l4 41 0 fk fn (by omega) (by omega) hO H locs ls hz hV (lv_sub hl [1, 0] rfl)
      · replace c_24 : ¬ 61 ≤ i + 1 := fun z9 => c_24 ((nI_leI (a := 61) (b := i + 1) (by omega) (by omega)).mpr z9)
        refine lv_aload_n hx hb d_Mo_check_71 rfl (lv_at hl 0 rfl) ?_
        refine lv_iconst (v := 3) hx hb d_Mo_check_72 (by decide) ?_
        refine lv_iload_n hx hb d_Mo_check_73 rfl (lv_at hl 1 rfl) ?_
        refine lv_aload_n hx hb d_Mo_check_74 rfl (lv_at hl 0 rfl) ?_
        refine lv_iload_n hx hb d_Mo_check_75 rfl (lv_at hl 1 rfl) ?_
        refine v_call (va_runV (As := [.int (nI (i + 1))]) (rest := [.int (nI (i + 1)), .int 3, .ref m]) ⟨hx, hb, hml, hown, hts⟩ (c_Mo_isPiece l G lo _ _ m pa (.int 0) u1 u2 u3 (.ref sa) (.ref la) (.int (nI L.length)) (.ref ba) u9 u10 u11 u12 u13 u14 (.int (nI ((flt 1 (lostP Q B) 30 ++ flt 2 (lostP Q S) 30 ++ flt 3 (twinP Q) i).length))) (.ref ka) (.ref na) (.ref ma) u19 u20 P Q (nd_sub hn [0, 3] (by decide) rfl) hM (nI (i + 1))) (kwV 1 hts w_co_Mo_isPiece rfl rfl w_it_Mo w_ml_Mo_129 w_im_Mo_isPiece w_se_Mo__Mo_isPiece (by decide +kernel) ⟨(Nat.le_of_ble_eq_true rfl), (Nat.le_of_ble_eq_true rfl)⟩) (u_preV hK hV hn [0, 3] rfl hz 0 rfl rfl) rfl rfl hl.1 rfl (lv_room (Nat.le_of_ble_eq_true rfl)) d_Mo_check_76 ⟨(Nat.le_of_ble_eq_true rfl), (Nat.le_of_ble_eq_true rfl)⟩) hV (fun r9 V9 H locs hp hV hle => ?_)
        obtain ⟨rfl, rfl, hz⟩ := hp
        replace hV := uu_same hV hn [0, 3] rfl
        rcases tf ((qF Q (nI (i + 1))).isSome) with d_25 | d_25
        · obtain ⟨R, hQ, hR, hRv⟩ := mpA_s hM (j := i + 1) (by omega) (by omega) d_25
          have hV : vS G.1 cls lo s H locs (vU V [(m, eO 8 [.int 0, u1, u2, u3, .ref pa, .ref sa, .ref la, .int (nI L.length), .ref ba, u9, u10, u11, u12, u13, u14, .int (nI ((flt 1 (lostP Q B) 30 ++ flt 2 (lostP Q S) 30 ++ flt 3 (twinP Q) i).length)), .ref ka, .ref na, .ref ma, u19, u20]), (sa, eI (gI G) 62 sp), (la, eI (gI G) 62 al), (pa, eI (gI G) 1769 P), (ma, eI (gZ G) 41 mk), (ba, eI (gI G) 600 bf), (ka, eI (gI G) 300 fk), (na, eI (gI G) 300 fn)]) := hV
          refine W.eq (g2 := F0 mi 79 ls [.int 1, .int (nI (i + 1)), .int 3, .ref m]) (by rw [d_25]; rfl) ?_
          refine lv_if_eq (tgt := 94) hx hb d_Mo_check_79 (by decide) (fun c_26 => absurd c_26 (by decide)) (fun _ => ?_)
          refine lv_aload_n hx hb d_Mo_check_82 rfl (lv_at hl 0 rfl) ?_
          refine lv_iload_n hx hb d_Mo_check_83 rfl (lv_at hl 1 rfl) ?_
          refine v_call (va_runV (As := [.int (nI (i + 1))]) (rest := [.int (nI (i + 1)), .int 3, .ref m]) ⟨hx, hb, hml, hown, hts⟩ (c_Mo_hasTwin l G lo _ _ m pa (.int 0) u1 u2 u3 (.ref sa) (.ref la) (.int (nI L.length)) (.ref ba) u9 u10 u11 u12 u13 u14 (.int (nI ((flt 1 (lostP Q B) 30 ++ flt 2 (lostP Q S) 30 ++ flt 3 (twinP Q) i).length))) (.ref ka) (.ref na) (.ref ma) u19 u20 P Q R (nd_sub hn [0, 3] (by decide) rfl) hM (i + 1) (by omega) (by omega) hR hRv) (kwV 1 hts w_co_Mo_hasTwin rfl rfl w_it_Mo w_ml_Mo_168 w_im_Mo_hasTwin w_se_Mo__Mo_hasTwin (by decide +kernel) ⟨(Nat.le_of_ble_eq_true rfl), (Nat.le_of_ble_eq_true rfl)⟩) (u_preV hK hV hn [0, 3] rfl hz 0 rfl rfl) rfl rfl hl.1 rfl (lv_room (Nat.le_of_ble_eq_true rfl)) d_Mo_check_84 ⟨(Nat.le_of_ble_eq_true rfl), (Nat.le_of_ble_eq_true rfl)⟩) hV (fun r9 V9 H locs hp hV hle => ?_)
          obtain ⟨rfl, rfl, hz⟩ := hp
          replace hV := uu_same hV hn [0, 3] rfl
          rcases tf (sameQ Q R (i + 1 - 1)) with d_27 | d_27
          · have hu : twinP Q (i + 1) = true := by rw [twinP_s hQ]; exact d_27
            have hV : vS G.1 cls lo s H locs (vU V [(m, eO 8 [.int 0, u1, u2, u3, .ref pa, .ref sa, .ref la, .int (nI L.length), .ref ba, u9, u10, u11, u12, u13, u14, .int (nI ((flt 1 (lostP Q B) 30 ++ flt 2 (lostP Q S) 30 ++ flt 3 (twinP Q) i).length)), .ref ka, .ref na, .ref ma, u19, u20]), (sa, eI (gI G) 62 sp), (la, eI (gI G) 62 al), (pa, eI (gI G) 1769 P), (ma, eI (gZ G) 41 mk), (ba, eI (gI G) 600 bf), (ka, eI (gI G) 300 fk), (na, eI (gI G) 300 fn)]) := hV
            refine W.eq (g2 := F0 mi 87 ls [.int 1, .int (nI (i + 1)), .int 3, .ref m]) (by rw [d_27]; rfl) ?_
            refine lv_if_eq (tgt := 94) hx hb d_Mo_check_87 (by decide) (fun c_28 => absurd c_28 (by decide)) (fun _ => ?_)
            refine lv_iconst (v := 1) hx hb d_Mo_check_90 (by decide) ?_
            refine lv_goto (tgt := 95) hx hb d_Mo_check_91 (by decide) ?_
            refine v_call (va_runV (As := [.int 3, .int (nI (i + 1)), .int 1]) (rest := []) ⟨hx, hb, hml, hown, hts⟩ (c_Mo_tells l G lo _ _ m ka na (.int 0) u1 u2 u3 (.ref pa) (.ref sa) (.ref la) (.int (nI L.length)) (.ref ba) u9 u10 u11 u12 u13 u14 (.ref ma) u19 u20 fk fn (flt 1 (lostP Q B) 30 ++ flt 2 (lostP Q S) 30 ++ flt 3 (twinP Q) i) (nd_sub hn [0, 6, 7] (by decide) rfl) hO (by have := flt_le 3 (twinP Q) i; (try simp only [List.length_append]); omega) 3 (i + 1)) (kwV 3 hts w_co_Mo_tells rfl rfl w_it_Mo w_ml_Mo_161 w_im_Mo_tells w_se_Mo__Mo_tells (by decide +kernel) ⟨(Nat.le_of_ble_eq_true rfl), (Nat.le_of_ble_eq_true rfl)⟩) (u_preV hK hV hn [0, 6, 7] rfl hz 0 rfl rfl) rfl rfl hl.1 rfl (lv_room (Nat.le_of_ble_eq_true rfl)) d_Mo_check_95 ⟨(Nat.le_of_ble_eq_true rfl), (Nat.le_of_ble_eq_true rfl)⟩) hV (fun r9 V9 H locs hp hV hle => ?_)
            obtain ⟨rfl, ⟨g_29k, g_29n, rfl, hO_g_29⟩, hz⟩ := hp
            replace hV := u_back hV hn [0, 6, 7] rfl
            have hV : vS G.1 cls lo s H locs (vU V [(m, eO 8 [.int 0, u1, u2, u3, .ref pa, .ref sa, .ref la, .int (nI L.length), .ref ba, u9, u10, u11, u12, u13, u14, .int (nI ((flt 1 (lostP Q B) 30 ++ flt 2 (lostP Q S) 30 ++ flt 3 (twinP Q) i ++ [(3, i + 1)]).length)), .ref ka, .ref na, .ref ma, u19, u20]), (sa, eI (gI G) 62 sp), (la, eI (gI G) 62 al), (pa, eI (gI G) 1769 P), (ma, eI (gZ G) 41 mk), (ba, eI (gI G) 600 bf), (ka, eI (gI G) 300 g_29k), (na, eI (gI G) 300 g_29n)]) := hV
            rw [app_y hu] at hV hO_g_29
            refine lv_iinc (v := nI (i + 2)) (lv' := [(1, .int (nI (i + 2))), (0, .ref m)]) hx hb d_Mo_check_98 hl (k := 1) rfl (nI_add (i + 1) 1) (by decide) rfl (fun ls hl => ?_)
            refine lv_goto (tgt := 65) hx hb d_Mo_check_101 (by decide) ?_
            exact ih (i + 1) g_29k g_29n (by omega) (by omega) hO_g_29 H locs ls hz hV (lv_sub hl [1, 0] rfl)
          · have hu : twinP Q (i + 1) = false := by rw [twinP_s hQ]; exact d_27
            have hV : vS G.1 cls lo s H locs (vU V [(m, eO 8 [.int 0, u1, u2, u3, .ref pa, .ref sa, .ref la, .int (nI L.length), .ref ba, u9, u10, u11, u12, u13, u14, .int (nI ((flt 1 (lostP Q B) 30 ++ flt 2 (lostP Q S) 30 ++ flt 3 (twinP Q) i).length)), .ref ka, .ref na, .ref ma, u19, u20]), (sa, eI (gI G) 62 sp), (la, eI (gI G) 62 al), (pa, eI (gI G) 1769 P), (ma, eI (gZ G) 41 mk), (ba, eI (gI G) 600 bf), (ka, eI (gI G) 300 fk), (na, eI (gI G) 300 fn)]) := hV
            refine W.eq (g2 := F0 mi 87 ls [.int 0, .int (nI (i + 1)), .int 3, .ref m]) (by rw [d_27]; rfl) ?_
            refine lv_if_eq (tgt := 94) hx hb d_Mo_check_87 (by decide) (fun _ => ?_) (fun c_30 => absurd c_30 (by decide))
            refine lv_iconst (v := 0) hx hb d_Mo_check_94 (by decide) ?_
            refine v_call (va_runV (As := [.int 3, .int (nI (i + 1)), .int 0]) (rest := []) ⟨hx, hb, hml, hown, hts⟩ (c_Mo_tells0 l G lo _ _ m (.int 0) u1 u2 u3 (.ref pa) (.ref sa) (.ref la) (.int (nI L.length)) (.ref ba) u9 u10 u11 u12 u13 u14 (.int (nI ((flt 1 (lostP Q B) 30 ++ flt 2 (lostP Q S) 30 ++ flt 3 (twinP Q) i).length))) (.ref ka) (.ref na) (.ref ma) u19 u20 (by simp) 3 (nI (i + 1))) (kwV 3 hts w_co_Mo_tells rfl rfl w_it_Mo w_ml_Mo_161 w_im_Mo_tells w_se_Mo__Mo_tells (by decide +kernel) ⟨(Nat.le_of_ble_eq_true rfl), (Nat.le_of_ble_eq_true rfl)⟩) (u_preV hK hV hn [0] rfl hz 0 rfl rfl) rfl rfl hl.1 rfl (lv_room (Nat.le_of_ble_eq_true rfl)) d_Mo_check_95 ⟨(Nat.le_of_ble_eq_true rfl), (Nat.le_of_ble_eq_true rfl)⟩) hV (fun r9 V9 H locs hp hV hle => ?_)
            obtain ⟨rfl, rfl, hz⟩ := hp
            replace hV := uu_same hV hn [0] rfl
            have hV : vS G.1 cls lo s H locs (vU V [(m, eO 8 [.int 0, u1, u2, u3, .ref pa, .ref sa, .ref la, .int (nI L.length), .ref ba, u9, u10, u11, u12, u13, u14, .int (nI ((flt 1 (lostP Q B) 30 ++ flt 2 (lostP Q S) 30 ++ flt 3 (twinP Q) i).length)), .ref ka, .ref na, .ref ma, u19, u20]), (sa, eI (gI G) 62 sp), (la, eI (gI G) 62 al), (pa, eI (gI G) 1769 P), (ma, eI (gZ G) 41 mk), (ba, eI (gI G) 600 bf), (ka, eI (gI G) 300 fk), (na, eI (gI G) 300 fn)]) := hV
            rw [app_n hu] at hV hO
            refine lv_iinc (v := nI (i + 2)) (lv' := [(1, .int (nI (i + 2))), (0, .ref m)]) hx hb d_Mo_check_98 hl (k := 1) rfl (nI_add (i + 1) 1) (by decide) rfl (fun ls hl => ?_)
            refine lv_goto (tgt := 65) hx hb d_Mo_check_101 (by decide) ?_
            exact ih (i + 1) fk fn (by omega) (by omega) hO H locs ls hz hV (lv_sub hl [1, 0] rfl)
        · have hu : twinP Q (i + 1) = false := twinP_n (mpA_n (Q := Q) (j := i + 1) (by omega) (by omega) d_25)
          have hV : vS G.1 cls lo s H locs (vU V [(m, eO 8 [.int 0, u1, u2, u3, .ref pa, .ref sa, .ref la, .int (nI L.length), .ref ba, u9, u10, u11, u12, u13, u14, .int (nI ((flt 1 (lostP Q B) 30 ++ flt 2 (lostP Q S) 30 ++ flt 3 (twinP Q) i).length)), .ref ka, .ref na, .ref ma, u19, u20]), (sa, eI (gI G) 62 sp), (la, eI (gI G) 62 al), (pa, eI (gI G) 1769 P), (ma, eI (gZ G) 41 mk), (ba, eI (gI G) 600 bf), (ka, eI (gI G) 300 fk), (na, eI (gI G) 300 fn)]) := hV
          refine W.eq (g2 := F0 mi 79 ls [.int 0, .int (nI (i + 1)), .int 3, .ref m]) (by rw [d_25]; rfl) ?_
          refine lv_if_eq (tgt := 94) hx hb d_Mo_check_79 (by decide) (fun _ => ?_) (fun c_31 => absurd c_31 (by decide))
          refine lv_iconst (v := 0) hx hb d_Mo_check_94 (by decide) ?_
          refine v_call (va_runV (As := [.int 3, .int (nI (i + 1)), .int 0]) (rest := []) ⟨hx, hb, hml, hown, hts⟩ (c_Mo_tells0 l G lo _ _ m (.int 0) u1 u2 u3 (.ref pa) (.ref sa) (.ref la) (.int (nI L.length)) (.ref ba) u9 u10 u11 u12 u13 u14 (.int (nI ((flt 1 (lostP Q B) 30 ++ flt 2 (lostP Q S) 30 ++ flt 3 (twinP Q) i).length))) (.ref ka) (.ref na) (.ref ma) u19 u20 (by simp) 3 (nI (i + 1))) (kwV 3 hts w_co_Mo_tells rfl rfl w_it_Mo w_ml_Mo_161 w_im_Mo_tells w_se_Mo__Mo_tells (by decide +kernel) ⟨(Nat.le_of_ble_eq_true rfl), (Nat.le_of_ble_eq_true rfl)⟩) (u_preV hK hV hn [0] rfl hz 0 rfl rfl) rfl rfl hl.1 rfl (lv_room (Nat.le_of_ble_eq_true rfl)) d_Mo_check_95 ⟨(Nat.le_of_ble_eq_true rfl), (Nat.le_of_ble_eq_true rfl)⟩) hV (fun r9 V9 H locs hp hV hle => ?_)
          obtain ⟨rfl, rfl, hz⟩ := hp
          replace hV := uu_same hV hn [0] rfl
          have hV : vS G.1 cls lo s H locs (vU V [(m, eO 8 [.int 0, u1, u2, u3, .ref pa, .ref sa, .ref la, .int (nI L.length), .ref ba, u9, u10, u11, u12, u13, u14, .int (nI ((flt 1 (lostP Q B) 30 ++ flt 2 (lostP Q S) 30 ++ flt 3 (twinP Q) i).length)), .ref ka, .ref na, .ref ma, u19, u20]), (sa, eI (gI G) 62 sp), (la, eI (gI G) 62 al), (pa, eI (gI G) 1769 P), (ma, eI (gZ G) 41 mk), (ba, eI (gI G) 600 bf), (ka, eI (gI G) 300 fk), (na, eI (gI G) 300 fn)]) := hV
          rw [app_n hu] at hV hO
          refine lv_iinc (v := nI (i + 2)) (lv' := [(1, .int (nI (i + 2))), (0, .ref m)]) hx hb d_Mo_check_98 hl (k := 1) rfl (nI_add (i + 1) 1) (by decide) rfl (fun ls hl => ?_)
          refine lv_goto (tgt := 65) hx hb d_Mo_check_101 (by decide) ?_
          exact ih (i + 1) fk fn (by omega) (by omega) hO H locs ls hz hV (lv_sub hl [1, 0] rfl)
  have l2 : ∀ (k : Nat) (i : Nat) (fk fn : Nat → Int32), 30 - i < k → (i ≤ 30) → (ckOk fk fn (flt 1 (lostP Q B) 30 ++ flt 2 (lostP Q S) i)) → ∀ (H : Heap) (locs : List Loc) (ls : Array Slot), H.size = sz → vS G.1 cls lo s H locs (vU V [(m, eO 8 [.int 0, u1, u2, u3, .ref pa, .ref sa, .ref la, .int (nI L.length), .ref ba, u9, u10, u11, u12, u13, u14, .int (nI ((flt 1 (lostP Q B) 30 ++ flt 2 (lostP Q S) i).length)), .ref ka, .ref na, .ref ma, u19, u20]), (sa, eI (gI G) 62 sp), (la, eI (gI G) 62 al), (pa, eI (gI G) 1769 P), (ma, eI (gZ G) 41 mk), (ba, eI (gI G) 600 bf), (ka, eI (gI G) 300 fk), (na, eI (gI G) 300 fn)]) → lv_has ls 3 [(0, .ref m), (1, .int (nI (i + 1)))] → W pg l ev ({ frames := 5, cells := 0, slots := 0, locals := 180 } : Room) s mi args below meth cd H locs 0 0 (MQ below (vPost G lo (fun r V' k => r = some (.int (nI (fltA (Q, B, S, L)).length)) ∧ (∃ f1 f2 f3 : Nat → Int32, V' = vU V [(m, eO 8 [.int 0, u1, u2, u3, .ref pa, .ref sa, .ref la, .int (nI L.length), .ref ba, u9, u10, u11, u12, u13, u14, .int (nI ((fltA (Q, B, S, L)).length)), .ref ka, .ref na, .ref ma, u19, u20]), (sa, eI (gI G) 62 sp), (la, eI (gI G) 62 al), (pa, eI (gI G) 1769 P), (ma, eI (gZ G) 41 f3), (ba, eI (gI G) 600 bf), (ka, eI (gI G) 300 f1), (na, eI (gI G) 300 f2)] ∧ ckOk f1 f2 (fltA (Q, B, S, L))) ∧ k = sz)) args s 0 0 (vL lo)) (F0 mi 37 ls []) := by
    intro k
    induction k with
    | zero => intro i fk fn hk; exact absurd hk (by omega)
    | succ k ih =>
      intro i fk fn hk hi hO H locs ls hz hV hl
      refine lv_iload_n hx hb d_Mo_check_37 rfl (lv_at hl 1 rfl) ?_
      refine lv_bipush (v := 31) hx hb d_Mo_check_38 (by decide) ?_
      refine lv_icmp_ge (tgt := 63) hx hb d_Mo_check_40 (by decide) (fun c_32 => ?_) (fun c_32 => ?_)
      · replace c_32 : 31 ≤ i + 1 := (nI_leI (a := 31) (b := i + 1) (by omega) (by omega)).mp c_32
        refine lv_iconst (v := 1) hx hb d_Mo_check_63 (by decide) ?_
        refine lv_istore_n (lv' := [(1, .int 1), (0, .ref m)]) hx hb d_Mo_check_64 rfl hl (by decide) rfl (fun ls hl => ?_)
        have e9 : flt 1 (lostP Q B) 30 ++ flt 2 (lostP Q S) i = flt 1 (lostP Q B) 30 ++ flt 2 (lostP Q S) 30 ++ flt 3 (twinP Q) 0 := by rw [show i = 30 by omega]; exact (List.append_nil _).symm
        rw [e9] at hV hO
        exact l3 61 0 fk fn (by omega) (by omega) hO H locs ls hz hV (lv_sub hl [1, 0] rfl)
      · replace c_32 : ¬ 31 ≤ i + 1 := fun z9 => c_32 ((nI_leI (a := 31) (b := i + 1) (by omega) (by omega)).mpr z9)
        refine lv_aload_n hx hb d_Mo_check_43 rfl (lv_at hl 0 rfl) ?_
        refine lv_iconst (v := 2) hx hb d_Mo_check_44 (by decide) ?_
        refine lv_iload_n hx hb d_Mo_check_45 rfl (lv_at hl 1 rfl) ?_
        refine lv_aload_n hx hb d_Mo_check_46 rfl (lv_at hl 0 rfl) ?_
        refine lv_bipush (v := 31) hx hb d_Mo_check_47 (by decide) ?_
        refine lv_iload_n hx hb d_Mo_check_49 rfl (lv_at hl 1 rfl) ?_
        refine e_iadd (v := nI (31 + (i + 1))) hx hb d_Mo_check_50 (nI_add 31 (i + 1)) ?_
        refine v_call (va_runV (As := [.int (nI (31 + (i + 1)))]) (rest := [.int (nI (i + 1)), .int 2, .ref m]) ⟨hx, hb, hml, hown, hts⟩ (c_Mo_isBad l G lo _ _ m sa la pa (.int 0) u1 u2 u3 (.int (nI L.length)) (.ref ba) u9 u10 u11 u12 u13 u14 (.int (nI ((flt 1 (lostP Q B) 30 ++ flt 2 (lostP Q S) i).length))) (.ref ka) (.ref na) (.ref ma) u19 u20 sp al P Q (nd_sub hn [0, 1, 2, 3] (by decide) rfl) hM (31 + (i + 1)) (by omega) (S (i + 1)) (hS.2.1 (i + 1) (by omega) (by omega))) (kwV 1 hts w_co_Mo_isBad rfl rfl w_it_Mo w_ml_Mo_165 w_im_Mo_isBad w_se_Mo__Mo_isBad (by decide +kernel) ⟨(Nat.le_of_ble_eq_true rfl), (Nat.le_of_ble_eq_true rfl)⟩) (u_preV hK hV hn [0, 1, 2, 3] rfl hz 0 rfl rfl) rfl rfl hl.1 rfl (lv_room (Nat.le_of_ble_eq_true rfl)) d_Mo_check_51 ⟨(Nat.le_of_ble_eq_true rfl), (Nat.le_of_ble_eq_true rfl)⟩) hV (fun r9 V9 H locs hp hV hle => ?_)
        obtain ⟨rfl, rfl, hz⟩ := hp
        replace hV := uu_same hV hn [0, 1, 2, 3] rfl
        rcases tf (lostO Q (S (i + 1))) with d_33 | d_33
        · have hu : lostP Q S (i + 1) = true := d_33
          have hV : vS G.1 cls lo s H locs (vU V [(m, eO 8 [.int 0, u1, u2, u3, .ref pa, .ref sa, .ref la, .int (nI L.length), .ref ba, u9, u10, u11, u12, u13, u14, .int (nI ((flt 1 (lostP Q B) 30 ++ flt 2 (lostP Q S) i).length)), .ref ka, .ref na, .ref ma, u19, u20]), (sa, eI (gI G) 62 sp), (la, eI (gI G) 62 al), (pa, eI (gI G) 1769 P), (ma, eI (gZ G) 41 mk), (ba, eI (gI G) 600 bf), (ka, eI (gI G) 300 fk), (na, eI (gI G) 300 fn)]) := hV
          refine W.eq (g2 := F0 mi 54 ls [.int 1, .int (nI (i + 1)), .int 2, .ref m]) (by rw [d_33]; rfl) ?_
          refine v_call (va_runV (As := [.int 2, .int (nI (i + 1)), .int 1]) (rest := []) ⟨hx, hb, hml, hown, hts⟩ (c_Mo_tells l G lo _ _ m ka na (.int 0) u1 u2 u3 (.ref pa) (.ref sa) (.ref la) (.int (nI L.length)) (.ref ba) u9 u10 u11 u12 u13 u14 (.ref ma) u19 u20 fk fn (flt 1 (lostP Q B) 30 ++ flt 2 (lostP Q S) i) (nd_sub hn [0, 6, 7] (by decide) rfl) hO (by have := flt_le 2 (lostP Q S) i; (try simp only [List.length_append]); omega) 2 (i + 1)) (kwV 3 hts w_co_Mo_tells rfl rfl w_it_Mo w_ml_Mo_161 w_im_Mo_tells w_se_Mo__Mo_tells (by decide +kernel) ⟨(Nat.le_of_ble_eq_true rfl), (Nat.le_of_ble_eq_true rfl)⟩) (u_preV hK hV hn [0, 6, 7] rfl hz 0 rfl rfl) rfl rfl hl.1 rfl (lv_room (Nat.le_of_ble_eq_true rfl)) d_Mo_check_54 ⟨(Nat.le_of_ble_eq_true rfl), (Nat.le_of_ble_eq_true rfl)⟩) hV (fun r9 V9 H locs hp hV hle => ?_)
          obtain ⟨rfl, ⟨g_34k, g_34n, rfl, hO_g_34⟩, hz⟩ := hp
          replace hV := u_back hV hn [0, 6, 7] rfl
          have hV : vS G.1 cls lo s H locs (vU V [(m, eO 8 [.int 0, u1, u2, u3, .ref pa, .ref sa, .ref la, .int (nI L.length), .ref ba, u9, u10, u11, u12, u13, u14, .int (nI ((flt 1 (lostP Q B) 30 ++ flt 2 (lostP Q S) i ++ [(2, i + 1)]).length)), .ref ka, .ref na, .ref ma, u19, u20]), (sa, eI (gI G) 62 sp), (la, eI (gI G) 62 al), (pa, eI (gI G) 1769 P), (ma, eI (gZ G) 41 mk), (ba, eI (gI G) 600 bf), (ka, eI (gI G) 300 g_34k), (na, eI (gI G) 300 g_34n)]) := hV
          rw [app_y hu] at hV hO_g_34
          refine lv_iinc (v := nI (i + 2)) (lv' := [(1, .int (nI (i + 2))), (0, .ref m)]) hx hb d_Mo_check_57 hl (k := 1) rfl (nI_add (i + 1) 1) (by decide) rfl (fun ls hl => ?_)
          refine lv_goto (tgt := 37) hx hb d_Mo_check_60 (by decide) ?_
          exact ih (i + 1) g_34k g_34n (by omega) (by omega) hO_g_34 H locs ls hz hV (lv_sub hl [1, 0] rfl)
        · have hu : lostP Q S (i + 1) = false := d_33
          have hV : vS G.1 cls lo s H locs (vU V [(m, eO 8 [.int 0, u1, u2, u3, .ref pa, .ref sa, .ref la, .int (nI L.length), .ref ba, u9, u10, u11, u12, u13, u14, .int (nI ((flt 1 (lostP Q B) 30 ++ flt 2 (lostP Q S) i).length)), .ref ka, .ref na, .ref ma, u19, u20]), (sa, eI (gI G) 62 sp), (la, eI (gI G) 62 al), (pa, eI (gI G) 1769 P), (ma, eI (gZ G) 41 mk), (ba, eI (gI G) 600 bf), (ka, eI (gI G) 300 fk), (na, eI (gI G) 300 fn)]) := hV
          refine W.eq (g2 := F0 mi 54 ls [.int 0, .int (nI (i + 1)), .int 2, .ref m]) (by rw [d_33]; rfl) ?_
          refine v_call (va_runV (As := [.int 2, .int (nI (i + 1)), .int 0]) (rest := []) ⟨hx, hb, hml, hown, hts⟩ (c_Mo_tells0 l G lo _ _ m (.int 0) u1 u2 u3 (.ref pa) (.ref sa) (.ref la) (.int (nI L.length)) (.ref ba) u9 u10 u11 u12 u13 u14 (.int (nI ((flt 1 (lostP Q B) 30 ++ flt 2 (lostP Q S) i).length))) (.ref ka) (.ref na) (.ref ma) u19 u20 (by simp) 2 (nI (i + 1))) (kwV 3 hts w_co_Mo_tells rfl rfl w_it_Mo w_ml_Mo_161 w_im_Mo_tells w_se_Mo__Mo_tells (by decide +kernel) ⟨(Nat.le_of_ble_eq_true rfl), (Nat.le_of_ble_eq_true rfl)⟩) (u_preV hK hV hn [0] rfl hz 0 rfl rfl) rfl rfl hl.1 rfl (lv_room (Nat.le_of_ble_eq_true rfl)) d_Mo_check_54 ⟨(Nat.le_of_ble_eq_true rfl), (Nat.le_of_ble_eq_true rfl)⟩) hV (fun r9 V9 H locs hp hV hle => ?_)
          obtain ⟨rfl, rfl, hz⟩ := hp
          replace hV := uu_same hV hn [0] rfl
          have hV : vS G.1 cls lo s H locs (vU V [(m, eO 8 [.int 0, u1, u2, u3, .ref pa, .ref sa, .ref la, .int (nI L.length), .ref ba, u9, u10, u11, u12, u13, u14, .int (nI ((flt 1 (lostP Q B) 30 ++ flt 2 (lostP Q S) i).length)), .ref ka, .ref na, .ref ma, u19, u20]), (sa, eI (gI G) 62 sp), (la, eI (gI G) 62 al), (pa, eI (gI G) 1769 P), (ma, eI (gZ G) 41 mk), (ba, eI (gI G) 600 bf), (ka, eI (gI G) 300 fk), (na, eI (gI G) 300 fn)]) := hV
          rw [app_n hu] at hV hO
          refine lv_iinc (v := nI (i + 2)) (lv' := [(1, .int (nI (i + 2))), (0, .ref m)]) hx hb d_Mo_check_57 hl (k := 1) rfl (nI_add (i + 1) 1) (by decide) rfl (fun ls hl => ?_)
          refine lv_goto (tgt := 37) hx hb d_Mo_check_60 (by decide) ?_
          exact ih (i + 1) fk fn (by omega) (by omega) hO H locs ls hz hV (lv_sub hl [1, 0] rfl)
  have l1 : ∀ (k : Nat) (i : Nat) (fk fn : Nat → Int32), 30 - i < k → (i ≤ 30) → (ckOk fk fn (flt 1 (lostP Q B) i)) → ∀ (H : Heap) (locs : List Loc) (ls : Array Slot), H.size = sz → vS G.1 cls lo s H locs (vU V [(m, eO 8 [.int 0, u1, u2, u3, .ref pa, .ref sa, .ref la, .int (nI L.length), .ref ba, u9, u10, u11, u12, u13, u14, .int (nI ((flt 1 (lostP Q B) i).length)), .ref ka, .ref na, .ref ma, u19, u20]), (sa, eI (gI G) 62 sp), (la, eI (gI G) 62 al), (pa, eI (gI G) 1769 P), (ma, eI (gZ G) 41 mk), (ba, eI (gI G) 600 bf), (ka, eI (gI G) 300 fk), (na, eI (gI G) 300 fn)]) → lv_has ls 3 [(0, .ref m), (1, .int (nI (i + 1)))] → W pg l ev ({ frames := 5, cells := 0, slots := 0, locals := 180 } : Room) s mi args below meth cd H locs 0 0 (MQ below (vPost G lo (fun r V' k => r = some (.int (nI (fltA (Q, B, S, L)).length)) ∧ (∃ f1 f2 f3 : Nat → Int32, V' = vU V [(m, eO 8 [.int 0, u1, u2, u3, .ref pa, .ref sa, .ref la, .int (nI L.length), .ref ba, u9, u10, u11, u12, u13, u14, .int (nI ((fltA (Q, B, S, L)).length)), .ref ka, .ref na, .ref ma, u19, u20]), (sa, eI (gI G) 62 sp), (la, eI (gI G) 62 al), (pa, eI (gI G) 1769 P), (ma, eI (gZ G) 41 f3), (ba, eI (gI G) 600 bf), (ka, eI (gI G) 300 f1), (na, eI (gI G) 300 f2)] ∧ ckOk f1 f2 (fltA (Q, B, S, L))) ∧ k = sz)) args s 0 0 (vL lo)) (F0 mi 12 ls []) := by
    intro k
    induction k with
    | zero => intro i fk fn hk; exact absurd hk (by omega)
    | succ k ih =>
      intro i fk fn hk hi hO H locs ls hz hV hl
      refine lv_iload_n hx hb d_Mo_check_12 rfl (lv_at hl 1 rfl) ?_
      refine lv_bipush (v := 31) hx hb d_Mo_check_13 (by decide) ?_
      refine lv_icmp_ge (tgt := 35) hx hb d_Mo_check_15 (by decide) (fun c_35 => ?_) (fun c_35 => ?_)
      · replace c_35 : 31 ≤ i + 1 := (nI_leI (a := 31) (b := i + 1) (by omega) (by omega)).mp c_35
        refine lv_iconst (v := 1) hx hb d_Mo_check_35 (by decide) ?_
        refine lv_istore_n (lv' := [(1, .int 1), (0, .ref m)]) hx hb d_Mo_check_36 rfl hl (by decide) rfl (fun ls hl => ?_)
        have e9 : flt 1 (lostP Q B) i = flt 1 (lostP Q B) 30 ++ flt 2 (lostP Q S) 0 := by rw [show i = 30 by omega]; exact (List.append_nil _).symm
        rw [e9] at hV hO
        exact l2 31 0 fk fn (by omega) (by omega) hO H locs ls hz hV (lv_sub hl [1, 0] rfl)
      · replace c_35 : ¬ 31 ≤ i + 1 := fun z9 => c_35 ((nI_leI (a := 31) (b := i + 1) (by omega) (by omega)).mpr z9)
        refine lv_aload_n hx hb d_Mo_check_18 rfl (lv_at hl 0 rfl) ?_
        refine lv_iconst (v := 1) hx hb d_Mo_check_19 (by decide) ?_
        refine lv_iload_n hx hb d_Mo_check_20 rfl (lv_at hl 1 rfl) ?_
        refine lv_aload_n hx hb d_Mo_check_21 rfl (lv_at hl 0 rfl) ?_
        refine lv_iload_n hx hb d_Mo_check_22 rfl (lv_at hl 1 rfl) ?_
        refine v_call (va_runV (As := [.int (nI (i + 1))]) (rest := [.int (nI (i + 1)), .int 1, .ref m]) ⟨hx, hb, hml, hown, hts⟩ (c_Mo_isBad l G lo _ _ m sa la pa (.int 0) u1 u2 u3 (.int (nI L.length)) (.ref ba) u9 u10 u11 u12 u13 u14 (.int (nI ((flt 1 (lostP Q B) i).length))) (.ref ka) (.ref na) (.ref ma) u19 u20 sp al P Q (nd_sub hn [0, 1, 2, 3] (by decide) rfl) hM (i + 1) (by omega) (B (i + 1)) (hS.1 (i + 1) (by omega) (by omega))) (kwV 1 hts w_co_Mo_isBad rfl rfl w_it_Mo w_ml_Mo_165 w_im_Mo_isBad w_se_Mo__Mo_isBad (by decide +kernel) ⟨(Nat.le_of_ble_eq_true rfl), (Nat.le_of_ble_eq_true rfl)⟩) (u_preV hK hV hn [0, 1, 2, 3] rfl hz 0 rfl rfl) rfl rfl hl.1 rfl (lv_room (Nat.le_of_ble_eq_true rfl)) d_Mo_check_23 ⟨(Nat.le_of_ble_eq_true rfl), (Nat.le_of_ble_eq_true rfl)⟩) hV (fun r9 V9 H locs hp hV hle => ?_)
        obtain ⟨rfl, rfl, hz⟩ := hp
        replace hV := uu_same hV hn [0, 1, 2, 3] rfl
        rcases tf (lostO Q (B (i + 1))) with d_36 | d_36
        · have hu : lostP Q B (i + 1) = true := d_36
          have hV : vS G.1 cls lo s H locs (vU V [(m, eO 8 [.int 0, u1, u2, u3, .ref pa, .ref sa, .ref la, .int (nI L.length), .ref ba, u9, u10, u11, u12, u13, u14, .int (nI ((flt 1 (lostP Q B) i).length)), .ref ka, .ref na, .ref ma, u19, u20]), (sa, eI (gI G) 62 sp), (la, eI (gI G) 62 al), (pa, eI (gI G) 1769 P), (ma, eI (gZ G) 41 mk), (ba, eI (gI G) 600 bf), (ka, eI (gI G) 300 fk), (na, eI (gI G) 300 fn)]) := hV
          refine W.eq (g2 := F0 mi 26 ls [.int 1, .int (nI (i + 1)), .int 1, .ref m]) (by rw [d_36]; rfl) ?_
          refine v_call (va_runV (As := [.int 1, .int (nI (i + 1)), .int 1]) (rest := []) ⟨hx, hb, hml, hown, hts⟩ (c_Mo_tells l G lo _ _ m ka na (.int 0) u1 u2 u3 (.ref pa) (.ref sa) (.ref la) (.int (nI L.length)) (.ref ba) u9 u10 u11 u12 u13 u14 (.ref ma) u19 u20 fk fn (flt 1 (lostP Q B) i) (nd_sub hn [0, 6, 7] (by decide) rfl) hO (by have := flt_le 1 (lostP Q B) i; (try simp only [List.length_append]); omega) 1 (i + 1)) (kwV 3 hts w_co_Mo_tells rfl rfl w_it_Mo w_ml_Mo_161 w_im_Mo_tells w_se_Mo__Mo_tells (by decide +kernel) ⟨(Nat.le_of_ble_eq_true rfl), (Nat.le_of_ble_eq_true rfl)⟩) (u_preV hK hV hn [0, 6, 7] rfl hz 0 rfl rfl) rfl rfl hl.1 rfl (lv_room (Nat.le_of_ble_eq_true rfl)) d_Mo_check_26 ⟨(Nat.le_of_ble_eq_true rfl), (Nat.le_of_ble_eq_true rfl)⟩) hV (fun r9 V9 H locs hp hV hle => ?_)
          obtain ⟨rfl, ⟨g_37k, g_37n, rfl, hO_g_37⟩, hz⟩ := hp
          replace hV := u_back hV hn [0, 6, 7] rfl
          have hV : vS G.1 cls lo s H locs (vU V [(m, eO 8 [.int 0, u1, u2, u3, .ref pa, .ref sa, .ref la, .int (nI L.length), .ref ba, u9, u10, u11, u12, u13, u14, .int (nI ((flt 1 (lostP Q B) i ++ [(1, i + 1)]).length)), .ref ka, .ref na, .ref ma, u19, u20]), (sa, eI (gI G) 62 sp), (la, eI (gI G) 62 al), (pa, eI (gI G) 1769 P), (ma, eI (gZ G) 41 mk), (ba, eI (gI G) 600 bf), (ka, eI (gI G) 300 g_37k), (na, eI (gI G) 300 g_37n)]) := hV
          rw [← flt_y hu] at hV hO_g_37
          refine lv_iinc (v := nI (i + 2)) (lv' := [(1, .int (nI (i + 2))), (0, .ref m)]) hx hb d_Mo_check_29 hl (k := 1) rfl (nI_add (i + 1) 1) (by decide) rfl (fun ls hl => ?_)
          refine lv_goto (tgt := 12) hx hb d_Mo_check_32 (by decide) ?_
          exact ih (i + 1) g_37k g_37n (by omega) (by omega) hO_g_37 H locs ls hz hV (lv_sub hl [1, 0] rfl)
        · have hu : lostP Q B (i + 1) = false := d_36
          have hV : vS G.1 cls lo s H locs (vU V [(m, eO 8 [.int 0, u1, u2, u3, .ref pa, .ref sa, .ref la, .int (nI L.length), .ref ba, u9, u10, u11, u12, u13, u14, .int (nI ((flt 1 (lostP Q B) i).length)), .ref ka, .ref na, .ref ma, u19, u20]), (sa, eI (gI G) 62 sp), (la, eI (gI G) 62 al), (pa, eI (gI G) 1769 P), (ma, eI (gZ G) 41 mk), (ba, eI (gI G) 600 bf), (ka, eI (gI G) 300 fk), (na, eI (gI G) 300 fn)]) := hV
          refine W.eq (g2 := F0 mi 26 ls [.int 0, .int (nI (i + 1)), .int 1, .ref m]) (by rw [d_36]; rfl) ?_
          refine v_call (va_runV (As := [.int 1, .int (nI (i + 1)), .int 0]) (rest := []) ⟨hx, hb, hml, hown, hts⟩ (c_Mo_tells0 l G lo _ _ m (.int 0) u1 u2 u3 (.ref pa) (.ref sa) (.ref la) (.int (nI L.length)) (.ref ba) u9 u10 u11 u12 u13 u14 (.int (nI ((flt 1 (lostP Q B) i).length))) (.ref ka) (.ref na) (.ref ma) u19 u20 (by simp) 1 (nI (i + 1))) (kwV 3 hts w_co_Mo_tells rfl rfl w_it_Mo w_ml_Mo_161 w_im_Mo_tells w_se_Mo__Mo_tells (by decide +kernel) ⟨(Nat.le_of_ble_eq_true rfl), (Nat.le_of_ble_eq_true rfl)⟩) (u_preV hK hV hn [0] rfl hz 0 rfl rfl) rfl rfl hl.1 rfl (lv_room (Nat.le_of_ble_eq_true rfl)) d_Mo_check_26 ⟨(Nat.le_of_ble_eq_true rfl), (Nat.le_of_ble_eq_true rfl)⟩) hV (fun r9 V9 H locs hp hV hle => ?_)
          obtain ⟨rfl, rfl, hz⟩ := hp
          replace hV := uu_same hV hn [0] rfl
          have hV : vS G.1 cls lo s H locs (vU V [(m, eO 8 [.int 0, u1, u2, u3, .ref pa, .ref sa, .ref la, .int (nI L.length), .ref ba, u9, u10, u11, u12, u13, u14, .int (nI ((flt 1 (lostP Q B) i).length)), .ref ka, .ref na, .ref ma, u19, u20]), (sa, eI (gI G) 62 sp), (la, eI (gI G) 62 al), (pa, eI (gI G) 1769 P), (ma, eI (gZ G) 41 mk), (ba, eI (gI G) 600 bf), (ka, eI (gI G) 300 fk), (na, eI (gI G) 300 fn)]) := hV
          rw [← flt_n hu] at hV hO
          refine lv_iinc (v := nI (i + 2)) (lv' := [(1, .int (nI (i + 2))), (0, .ref m)]) hx hb d_Mo_check_29 hl (k := 1) rfl (nI_add (i + 1) 1) (by decide) rfl (fun ls hl => ?_)
          refine lv_goto (tgt := 12) hx hb d_Mo_check_32 (by decide) ?_
          exact ih (i + 1) fk fn (by omega) (by omega) hO H locs ls hz hV (lv_sub hl [1, 0] rfl)
  have hV : vS G.1 cls lo s H locs (vU V [(m, eO 8 [.int 0, u1, u2, u3, .ref pa, .ref sa, .ref la, .int (nI L.length), .ref ba, u9, u10, u11, u12, u13, u14, .int (nI ((flt 1 (lostP Q B) 0).length)), .ref ka, .ref na, .ref ma, u19, u20]), (sa, eI (gI G) 62 sp), (la, eI (gI G) 62 al), (pa, eI (gI G) 1769 P), (ma, eI (gZ G) 41 mk), (ba, eI (gI G) 600 bf), (ka, eI (gI G) 300 fk), (na, eI (gI G) 300 fn)]) := hV
  exact l1 31 0 fk fn (by omega) (by omega) (ckOk_nil fk fn) H locs ls hz hV (lv_sub hl [1, 0] rfl)
