theorem d_Mo_init_0 : decode b_Mo_init 0 = .ok (.aload_n 0, 1) := by decide +kernel
theorem d_Mo_init_1 : decode b_Mo_init 1 = .ok (.invokespecial 1, 3) := by decide +kernel
theorem d_Mo_init_4 : decode b_Mo_init 4 = .ok (.aload_n 0, 1) := by decide +kernel
theorem d_Mo_init_5 : decode b_Mo_init 5 = .ok (.sipush 400, 3) := by decide +kernel
theorem d_Mo_init_8 : decode b_Mo_init 8 = .ok (.newarray .int, 2) := by decide +kernel
theorem d_Mo_init_10 : decode b_Mo_init 10 = .ok (.putfield 7, 3) := by decide +kernel
theorem d_Mo_init_13 : decode b_Mo_init 13 = .ok (.aload_n 0, 1) := by decide +kernel
theorem d_Mo_init_14 : decode b_Mo_init 14 = .ok (.iconst (-1), 1) := by decide +kernel
theorem d_Mo_init_15 : decode b_Mo_init 15 = .ok (.putfield 13, 3) := by decide +kernel
theorem d_Mo_init_18 : decode b_Mo_init 18 = .ok (.aload_n 0, 1) := by decide +kernel
theorem d_Mo_init_19 : decode b_Mo_init 19 = .ok (.sipush 1769, 3) := by decide +kernel
theorem d_Mo_init_22 : decode b_Mo_init 22 = .ok (.newarray .int, 2) := by decide +kernel
theorem d_Mo_init_24 : decode b_Mo_init 24 = .ok (.putfield 17, 3) := by decide +kernel
theorem d_Mo_init_27 : decode b_Mo_init 27 = .ok (.aload_n 0, 1) := by decide +kernel
theorem d_Mo_init_28 : decode b_Mo_init 28 = .ok (.bipush 62, 2) := by decide +kernel
theorem d_Mo_init_30 : decode b_Mo_init 30 = .ok (.newarray .int, 2) := by decide +kernel
theorem d_Mo_init_32 : decode b_Mo_init 32 = .ok (.putfield 20, 3) := by decide +kernel
theorem d_Mo_init_35 : decode b_Mo_init 35 = .ok (.aload_n 0, 1) := by decide +kernel
theorem d_Mo_init_36 : decode b_Mo_init 36 = .ok (.bipush 62, 2) := by decide +kernel
theorem d_Mo_init_38 : decode b_Mo_init 38 = .ok (.newarray .int, 2) := by decide +kernel
theorem d_Mo_init_40 : decode b_Mo_init 40 = .ok (.putfield 23, 3) := by decide +kernel
theorem d_Mo_init_43 : decode b_Mo_init 43 = .ok (.aload_n 0, 1) := by decide +kernel
theorem d_Mo_init_44 : decode b_Mo_init 44 = .ok (.sipush 600, 3) := by decide +kernel
theorem d_Mo_init_47 : decode b_Mo_init 47 = .ok (.newarray .int, 2) := by decide +kernel
theorem d_Mo_init_49 : decode b_Mo_init 49 = .ok (.putfield 26, 3) := by decide +kernel
theorem d_Mo_init_52 : decode b_Mo_init 52 = .ok (.aload_n 0, 1) := by decide +kernel
theorem d_Mo_init_53 : decode b_Mo_init 53 = .ok (.sipush 1769, 3) := by decide +kernel
theorem d_Mo_init_56 : decode b_Mo_init 56 = .ok (.newarray .int, 2) := by decide +kernel
theorem d_Mo_init_58 : decode b_Mo_init 58 = .ok (.putfield 29, 3) := by decide +kernel
theorem d_Mo_init_61 : decode b_Mo_init 61 = .ok (.aload_n 0, 1) := by decide +kernel
theorem d_Mo_init_62 : decode b_Mo_init 62 = .ok (.bipush 62, 2) := by decide +kernel
theorem d_Mo_init_64 : decode b_Mo_init 64 = .ok (.newarray .int, 2) := by decide +kernel
theorem d_Mo_init_66 : decode b_Mo_init 66 = .ok (.putfield 32, 3) := by decide +kernel
theorem d_Mo_init_69 : decode b_Mo_init 69 = .ok (.aload_n 0, 1) := by decide +kernel
theorem d_Mo_init_70 : decode b_Mo_init 70 = .ok (.bipush 62, 2) := by decide +kernel
theorem d_Mo_init_72 : decode b_Mo_init 72 = .ok (.newarray .int, 2) := by decide +kernel
theorem d_Mo_init_74 : decode b_Mo_init 74 = .ok (.putfield 35, 3) := by decide +kernel
theorem d_Mo_init_77 : decode b_Mo_init 77 = .ok (.aload_n 0, 1) := by decide +kernel
theorem d_Mo_init_78 : decode b_Mo_init 78 = .ok (.sipush 300, 3) := by decide +kernel
theorem d_Mo_init_81 : decode b_Mo_init 81 = .ok (.newarray .int, 2) := by decide +kernel
theorem d_Mo_init_83 : decode b_Mo_init 83 = .ok (.putfield 38, 3) := by decide +kernel
theorem d_Mo_init_86 : decode b_Mo_init 86 = .ok (.aload_n 0, 1) := by decide +kernel
theorem d_Mo_init_87 : decode b_Mo_init 87 = .ok (.sipush 300, 3) := by decide +kernel
theorem d_Mo_init_90 : decode b_Mo_init 90 = .ok (.newarray .int, 2) := by decide +kernel
theorem d_Mo_init_92 : decode b_Mo_init 92 = .ok (.putfield 41, 3) := by decide +kernel
theorem d_Mo_init_95 : decode b_Mo_init 95 = .ok (.aload_n 0, 1) := by decide +kernel
theorem d_Mo_init_96 : decode b_Mo_init 96 = .ok (.bipush 41, 2) := by decide +kernel
theorem d_Mo_init_98 : decode b_Mo_init 98 = .ok (.newarray .boolean, 2) := by decide +kernel
theorem d_Mo_init_100 : decode b_Mo_init 100 = .ok (.putfield 44, 3) := by decide +kernel
theorem d_Mo_init_103 : decode b_Mo_init 103 = .ok (.aload_n 0, 1) := by decide +kernel
theorem d_Mo_init_104 : decode b_Mo_init 104 = .ok (.sipush 5000, 3) := by decide +kernel
theorem d_Mo_init_107 : decode b_Mo_init 107 = .ok (.newarray .int, 2) := by decide +kernel
theorem d_Mo_init_109 : decode b_Mo_init 109 = .ok (.putfield 48, 3) := by decide +kernel
theorem d_Mo_init_112 : decode b_Mo_init 112 = .ok (.return_, 1) := by decide +kernel

set_option maxHeartbeats 4000000 in
set_option maxRecDepth 100000 in
/-- StreetGraphModel() -/
theorem c_Mo_init (l : Launch) (G : Gx) (lo : Nat) (V : Vw) (sz : Nat) (m : Nat) (hm : m < sz) : Met l y_Mo_init ws_Mo_init ({ frames := 1, cells := 12, slots := 10427, locals := 12 } : Room) (vPre G lo [.ref m] (vU V [(m, eO 8 [.int 0, .int 0, .null, .int 0, .null, .null, .null, .int 0, .null, .null, .null, .null, .int 0, .int 0, .int 0, .int 0, .null, .null, .null, .int 0, .null])]) sz) (vPost G lo (fun r V' k => r = none ∧ V' = vU V [(sz + 11, eI (gI G) 5000 (fun _ => 0)), (sz + 10, eI (gZ G) 41 (fun _ => 0)), (sz + 9, eI (gI G) 300 (fun _ => 0)), (sz + 8, eI (gI G) 300 (fun _ => 0)), (sz + 7, eI (gI G) 62 (fun _ => 0)), (sz + 6, eI (gI G) 62 (fun _ => 0)), (sz + 5, eI (gI G) 1769 (fun _ => 0)), (sz + 4, eI (gI G) 600 (fun _ => 0)), (sz + 3, eI (gI G) 62 (fun _ => 0)), (sz + 2, eI (gI G) 62 (fun _ => 0)), (sz + 1, eI (gI G) 1769 (fun _ => 0)), (sz, eI (gI G) 400 (fun _ => 0)), (m, eO 8 [.int 0, .int 0, .ref sz, .int ((-1)), .ref (sz + 1), .ref (sz + 2), .ref (sz + 3), .int 0, .ref (sz + 4), .ref (sz + 5), .ref (sz + 6), .ref (sz + 7), .int 0, .int 0, .int 0, .int 0, .ref (sz + 8), .ref (sz + 9), .ref (sz + 10), .int 0, .ref (sz + 11)])] ∧ k = sz + 12)) 12 10427 (vL lo) := by
  refine vMet (R := RMo) (by decide) rfl (Nat.le_of_ble_eq_true rfl) ?_
  intro pg ev s mi args below meth cd hx hb hr hml hlk hnm hts hown hK hz hV ls hl
  have hl : lv_has ls 1 [(0, .ref m)] := hl
  have hV0 := hV
  obtain ⟨H, hH⟩ : ∃ H, H = s.heap := ⟨_, rfl⟩
  obtain ⟨locs, hlocs⟩ : ∃ locs : List Loc, locs = [] := ⟨_, rfl⟩
  rw [← hH, ← hlocs]
  rw [← hH] at hz
  replace hV : vS G.1 cls lo s H locs (vU V [(m, eO 8 [.int 0, .int 0, .null, .int 0, .null, .null, .null, .int 0, .null, .null, .null, .null, .int 0, .int 0, .int 0, .int 0, .null, .null, .null, .int 0, .null])]) := by rw [hH, hlocs]; exact hV
  clear hH hlocs hV0
  have hn : [m].Nodup := by simp
  refine lv_aload_n hx hb d_Mo_init_0 rfl (lv_at hl 0 rfl) ?_
  refine W.objInit hx hb hown (hts _ w_ml_Mo_1) (hts _ w_im_Ob_init) (hts _ w_co_Ob_init) rfl (by rw [hml]; exact hl.1) rfl d_Mo_init_1 (Nat.le_of_ble_eq_true rfl) (Nat.le_of_ble_eq_true rfl) ?_
  refine W.eq (g2 := F0 mi 4 ls []) rfl ?_
  refine lv_aload_n hx hb d_Mo_init_4 rfl (lv_at hl 0 rfl) ?_
  refine lv_sipush (v := 400) hx hb d_Mo_init_5 (by decide) ?_
  refine u_newa (atype := .int) hx hb hts w_ac_int rfl hK hV 0 rfl (a0 := (400, .inl (fun _ => 0))) (fun _ => rfl) (by decide) (N' := 400) (by decide) (by decide) (Nat.le_of_ble_eq_true rfl) (Nat.le_of_ble_eq_true rfl) d_Mo_init_8 hz (fun H hV hz => ?_)
  have hV : vS G.1 cls lo s H locs (vU V [(sz, eI (gI G) 400 (fun _ => 0)), (m, eO 8 [.int 0, .int 0, .null, .int 0, .null, .null, .null, .int 0, .null, .null, .null, .null, .int 0, .int 0, .int 0, .int 0, .null, .null, .null, .int 0, .null])]) := hV
  have hn : [sz, m].Nodup := List.nodup_cons.mpr ⟨by simp only [List.mem_cons, List.not_mem_nil, or_false, not_or]; omega, hn⟩
  refine u_putF hx hb hts inMo tyMo tyMo_ok nmMo hown hK hV hn 1 rfl rfl 2 (by decide) w_fl_Mo_7 rfl rfl hnm rfl rfl rfl (Nat.le_of_ble_eq_true rfl) d_Mo_init_10 (fun H locs hV hz9 => ?_)
  have hV : vS G.1 cls lo s H locs (vU V [(sz, eI (gI G) 400 (fun _ => 0)), (m, eO 8 [.int 0, .int 0, .ref sz, .int 0, .null, .null, .null, .int 0, .null, .null, .null, .null, .int 0, .int 0, .int 0, .int 0, .null, .null, .null, .int 0, .null])]) := hV
  replace hz := hz9.trans hz
  refine lv_aload_n hx hb d_Mo_init_13 rfl (lv_at hl 0 rfl) ?_
  refine lv_iconst (v := (-1)) hx hb d_Mo_init_14 (by decide) ?_
  refine u_put hx hb hts inMo tyMo tyMo_ok nmMo hown hK hV hn 1 rfl rfl 3 (by decide) w_fl_Mo_13 rfl rfl rfl rfl (Nat.le_of_ble_eq_true rfl) d_Mo_init_15 (fun H locs hV hz9 => ?_)
  have hV : vS G.1 cls lo s H locs (vU V [(sz, eI (gI G) 400 (fun _ => 0)), (m, eO 8 [.int 0, .int 0, .ref sz, .int ((-1)), .null, .null, .null, .int 0, .null, .null, .null, .null, .int 0, .int 0, .int 0, .int 0, .null, .null, .null, .int 0, .null])]) := hV
  replace hz := hz9.trans hz
  refine lv_aload_n hx hb d_Mo_init_18 rfl (lv_at hl 0 rfl) ?_
  refine lv_sipush (v := 1769) hx hb d_Mo_init_19 (by decide) ?_
  refine u_newa (atype := .int) hx hb hts w_ac_int rfl hK hV 0 rfl (a0 := (1769, .inl (fun _ => 0))) (fun _ => rfl) (by decide) (N' := 1769) (by decide) (by decide) (Nat.le_of_ble_eq_true rfl) (Nat.le_of_ble_eq_true rfl) d_Mo_init_22 hz (fun H hV hz => ?_)
  have hV : vS G.1 cls lo s H locs (vU V [(sz + 1, eI (gI G) 1769 (fun _ => 0)), (sz, eI (gI G) 400 (fun _ => 0)), (m, eO 8 [.int 0, .int 0, .ref sz, .int ((-1)), .null, .null, .null, .int 0, .null, .null, .null, .null, .int 0, .int 0, .int 0, .int 0, .null, .null, .null, .int 0, .null])]) := hV
  have hn : [sz + 1, sz, m].Nodup := List.nodup_cons.mpr ⟨by simp only [List.mem_cons, List.not_mem_nil, or_false, not_or]; omega, hn⟩
  refine u_putF hx hb hts inMo tyMo tyMo_ok nmMo hown hK hV hn 2 rfl rfl 4 (by decide) w_fl_Mo_17 rfl rfl hnm rfl rfl rfl (Nat.le_of_ble_eq_true rfl) d_Mo_init_24 (fun H locs hV hz9 => ?_)
  have hV : vS G.1 cls lo s H locs (vU V [(sz + 1, eI (gI G) 1769 (fun _ => 0)), (sz, eI (gI G) 400 (fun _ => 0)), (m, eO 8 [.int 0, .int 0, .ref sz, .int ((-1)), .ref (sz + 1), .null, .null, .int 0, .null, .null, .null, .null, .int 0, .int 0, .int 0, .int 0, .null, .null, .null, .int 0, .null])]) := hV
  replace hz := hz9.trans hz
  refine lv_aload_n hx hb d_Mo_init_27 rfl (lv_at hl 0 rfl) ?_
  refine lv_bipush (v := 62) hx hb d_Mo_init_28 (by decide) ?_
  refine u_newa (atype := .int) hx hb hts w_ac_int rfl hK hV 0 rfl (a0 := (62, .inl (fun _ => 0))) (fun _ => rfl) (by decide) (N' := 62) (by decide) (by decide) (Nat.le_of_ble_eq_true rfl) (Nat.le_of_ble_eq_true rfl) d_Mo_init_30 hz (fun H hV hz => ?_)
  have hV : vS G.1 cls lo s H locs (vU V [(sz + 2, eI (gI G) 62 (fun _ => 0)), (sz + 1, eI (gI G) 1769 (fun _ => 0)), (sz, eI (gI G) 400 (fun _ => 0)), (m, eO 8 [.int 0, .int 0, .ref sz, .int ((-1)), .ref (sz + 1), .null, .null, .int 0, .null, .null, .null, .null, .int 0, .int 0, .int 0, .int 0, .null, .null, .null, .int 0, .null])]) := hV
  have hn : [sz + 2, sz + 1, sz, m].Nodup := List.nodup_cons.mpr ⟨by simp only [List.mem_cons, List.not_mem_nil, or_false, not_or]; omega, hn⟩
  refine u_putF hx hb hts inMo tyMo tyMo_ok nmMo hown hK hV hn 3 rfl rfl 5 (by decide) w_fl_Mo_20 rfl rfl hnm rfl rfl rfl (Nat.le_of_ble_eq_true rfl) d_Mo_init_32 (fun H locs hV hz9 => ?_)
  have hV : vS G.1 cls lo s H locs (vU V [(sz + 2, eI (gI G) 62 (fun _ => 0)), (sz + 1, eI (gI G) 1769 (fun _ => 0)), (sz, eI (gI G) 400 (fun _ => 0)), (m, eO 8 [.int 0, .int 0, .ref sz, .int ((-1)), .ref (sz + 1), .ref (sz + 2), .null, .int 0, .null, .null, .null, .null, .int 0, .int 0, .int 0, .int 0, .null, .null, .null, .int 0, .null])]) := hV
  replace hz := hz9.trans hz
  refine lv_aload_n hx hb d_Mo_init_35 rfl (lv_at hl 0 rfl) ?_
  refine lv_bipush (v := 62) hx hb d_Mo_init_36 (by decide) ?_
  refine u_newa (atype := .int) hx hb hts w_ac_int rfl hK hV 0 rfl (a0 := (62, .inl (fun _ => 0))) (fun _ => rfl) (by decide) (N' := 62) (by decide) (by decide) (Nat.le_of_ble_eq_true rfl) (Nat.le_of_ble_eq_true rfl) d_Mo_init_38 hz (fun H hV hz => ?_)
  have hV : vS G.1 cls lo s H locs (vU V [(sz + 3, eI (gI G) 62 (fun _ => 0)), (sz + 2, eI (gI G) 62 (fun _ => 0)), (sz + 1, eI (gI G) 1769 (fun _ => 0)), (sz, eI (gI G) 400 (fun _ => 0)), (m, eO 8 [.int 0, .int 0, .ref sz, .int ((-1)), .ref (sz + 1), .ref (sz + 2), .null, .int 0, .null, .null, .null, .null, .int 0, .int 0, .int 0, .int 0, .null, .null, .null, .int 0, .null])]) := hV
  have hn : [sz + 3, sz + 2, sz + 1, sz, m].Nodup := List.nodup_cons.mpr ⟨by simp only [List.mem_cons, List.not_mem_nil, or_false, not_or]; omega, hn⟩
  refine u_putF hx hb hts inMo tyMo tyMo_ok nmMo hown hK hV hn 4 rfl rfl 6 (by decide) w_fl_Mo_23 rfl rfl hnm rfl rfl rfl (Nat.le_of_ble_eq_true rfl) d_Mo_init_40 (fun H locs hV hz9 => ?_)
  have hV : vS G.1 cls lo s H locs (vU V [(sz + 3, eI (gI G) 62 (fun _ => 0)), (sz + 2, eI (gI G) 62 (fun _ => 0)), (sz + 1, eI (gI G) 1769 (fun _ => 0)), (sz, eI (gI G) 400 (fun _ => 0)), (m, eO 8 [.int 0, .int 0, .ref sz, .int ((-1)), .ref (sz + 1), .ref (sz + 2), .ref (sz + 3), .int 0, .null, .null, .null, .null, .int 0, .int 0, .int 0, .int 0, .null, .null, .null, .int 0, .null])]) := hV
  replace hz := hz9.trans hz
  refine lv_aload_n hx hb d_Mo_init_43 rfl (lv_at hl 0 rfl) ?_
  refine lv_sipush (v := 600) hx hb d_Mo_init_44 (by decide) ?_
  refine u_newa (atype := .int) hx hb hts w_ac_int rfl hK hV 0 rfl (a0 := (600, .inl (fun _ => 0))) (fun _ => rfl) (by decide) (N' := 600) (by decide) (by decide) (Nat.le_of_ble_eq_true rfl) (Nat.le_of_ble_eq_true rfl) d_Mo_init_47 hz (fun H hV hz => ?_)
  have hV : vS G.1 cls lo s H locs (vU V [(sz + 4, eI (gI G) 600 (fun _ => 0)), (sz + 3, eI (gI G) 62 (fun _ => 0)), (sz + 2, eI (gI G) 62 (fun _ => 0)), (sz + 1, eI (gI G) 1769 (fun _ => 0)), (sz, eI (gI G) 400 (fun _ => 0)), (m, eO 8 [.int 0, .int 0, .ref sz, .int ((-1)), .ref (sz + 1), .ref (sz + 2), .ref (sz + 3), .int 0, .null, .null, .null, .null, .int 0, .int 0, .int 0, .int 0, .null, .null, .null, .int 0, .null])]) := hV
  have hn : [sz + 4, sz + 3, sz + 2, sz + 1, sz, m].Nodup := List.nodup_cons.mpr ⟨by simp only [List.mem_cons, List.not_mem_nil, or_false, not_or]; omega, hn⟩
  refine u_putF hx hb hts inMo tyMo tyMo_ok nmMo hown hK hV hn 5 rfl rfl 8 (by decide) w_fl_Mo_26 rfl rfl hnm rfl rfl rfl (Nat.le_of_ble_eq_true rfl) d_Mo_init_49 (fun H locs hV hz9 => ?_)
  have hV : vS G.1 cls lo s H locs (vU V [(sz + 4, eI (gI G) 600 (fun _ => 0)), (sz + 3, eI (gI G) 62 (fun _ => 0)), (sz + 2, eI (gI G) 62 (fun _ => 0)), (sz + 1, eI (gI G) 1769 (fun _ => 0)), (sz, eI (gI G) 400 (fun _ => 0)), (m, eO 8 [.int 0, .int 0, .ref sz, .int ((-1)), .ref (sz + 1), .ref (sz + 2), .ref (sz + 3), .int 0, .ref (sz + 4), .null, .null, .null, .int 0, .int 0, .int 0, .int 0, .null, .null, .null, .int 0, .null])]) := hV
  replace hz := hz9.trans hz
  refine lv_aload_n hx hb d_Mo_init_52 rfl (lv_at hl 0 rfl) ?_
  refine lv_sipush (v := 1769) hx hb d_Mo_init_53 (by decide) ?_
  refine u_newa (atype := .int) hx hb hts w_ac_int rfl hK hV 0 rfl (a0 := (1769, .inl (fun _ => 0))) (fun _ => rfl) (by decide) (N' := 1769) (by decide) (by decide) (Nat.le_of_ble_eq_true rfl) (Nat.le_of_ble_eq_true rfl) d_Mo_init_56 hz (fun H hV hz => ?_)
  have hV : vS G.1 cls lo s H locs (vU V [(sz + 5, eI (gI G) 1769 (fun _ => 0)), (sz + 4, eI (gI G) 600 (fun _ => 0)), (sz + 3, eI (gI G) 62 (fun _ => 0)), (sz + 2, eI (gI G) 62 (fun _ => 0)), (sz + 1, eI (gI G) 1769 (fun _ => 0)), (sz, eI (gI G) 400 (fun _ => 0)), (m, eO 8 [.int 0, .int 0, .ref sz, .int ((-1)), .ref (sz + 1), .ref (sz + 2), .ref (sz + 3), .int 0, .ref (sz + 4), .null, .null, .null, .int 0, .int 0, .int 0, .int 0, .null, .null, .null, .int 0, .null])]) := hV
  have hn : [sz + 5, sz + 4, sz + 3, sz + 2, sz + 1, sz, m].Nodup := List.nodup_cons.mpr ⟨by simp only [List.mem_cons, List.not_mem_nil, or_false, not_or]; omega, hn⟩
  refine u_putF hx hb hts inMo tyMo tyMo_ok nmMo hown hK hV hn 6 rfl rfl 9 (by decide) w_fl_Mo_29 rfl rfl hnm rfl rfl rfl (Nat.le_of_ble_eq_true rfl) d_Mo_init_58 (fun H locs hV hz9 => ?_)
  have hV : vS G.1 cls lo s H locs (vU V [(sz + 5, eI (gI G) 1769 (fun _ => 0)), (sz + 4, eI (gI G) 600 (fun _ => 0)), (sz + 3, eI (gI G) 62 (fun _ => 0)), (sz + 2, eI (gI G) 62 (fun _ => 0)), (sz + 1, eI (gI G) 1769 (fun _ => 0)), (sz, eI (gI G) 400 (fun _ => 0)), (m, eO 8 [.int 0, .int 0, .ref sz, .int ((-1)), .ref (sz + 1), .ref (sz + 2), .ref (sz + 3), .int 0, .ref (sz + 4), .ref (sz + 5), .null, .null, .int 0, .int 0, .int 0, .int 0, .null, .null, .null, .int 0, .null])]) := hV
  replace hz := hz9.trans hz
  refine lv_aload_n hx hb d_Mo_init_61 rfl (lv_at hl 0 rfl) ?_
  refine lv_bipush (v := 62) hx hb d_Mo_init_62 (by decide) ?_
  refine u_newa (atype := .int) hx hb hts w_ac_int rfl hK hV 0 rfl (a0 := (62, .inl (fun _ => 0))) (fun _ => rfl) (by decide) (N' := 62) (by decide) (by decide) (Nat.le_of_ble_eq_true rfl) (Nat.le_of_ble_eq_true rfl) d_Mo_init_64 hz (fun H hV hz => ?_)
  have hV : vS G.1 cls lo s H locs (vU V [(sz + 6, eI (gI G) 62 (fun _ => 0)), (sz + 5, eI (gI G) 1769 (fun _ => 0)), (sz + 4, eI (gI G) 600 (fun _ => 0)), (sz + 3, eI (gI G) 62 (fun _ => 0)), (sz + 2, eI (gI G) 62 (fun _ => 0)), (sz + 1, eI (gI G) 1769 (fun _ => 0)), (sz, eI (gI G) 400 (fun _ => 0)), (m, eO 8 [.int 0, .int 0, .ref sz, .int ((-1)), .ref (sz + 1), .ref (sz + 2), .ref (sz + 3), .int 0, .ref (sz + 4), .ref (sz + 5), .null, .null, .int 0, .int 0, .int 0, .int 0, .null, .null, .null, .int 0, .null])]) := hV
  have hn : [sz + 6, sz + 5, sz + 4, sz + 3, sz + 2, sz + 1, sz, m].Nodup := List.nodup_cons.mpr ⟨by simp only [List.mem_cons, List.not_mem_nil, or_false, not_or]; omega, hn⟩
  refine u_putF hx hb hts inMo tyMo tyMo_ok nmMo hown hK hV hn 7 rfl rfl 10 (by decide) w_fl_Mo_32 rfl rfl hnm rfl rfl rfl (Nat.le_of_ble_eq_true rfl) d_Mo_init_66 (fun H locs hV hz9 => ?_)
  have hV : vS G.1 cls lo s H locs (vU V [(sz + 6, eI (gI G) 62 (fun _ => 0)), (sz + 5, eI (gI G) 1769 (fun _ => 0)), (sz + 4, eI (gI G) 600 (fun _ => 0)), (sz + 3, eI (gI G) 62 (fun _ => 0)), (sz + 2, eI (gI G) 62 (fun _ => 0)), (sz + 1, eI (gI G) 1769 (fun _ => 0)), (sz, eI (gI G) 400 (fun _ => 0)), (m, eO 8 [.int 0, .int 0, .ref sz, .int ((-1)), .ref (sz + 1), .ref (sz + 2), .ref (sz + 3), .int 0, .ref (sz + 4), .ref (sz + 5), .ref (sz + 6), .null, .int 0, .int 0, .int 0, .int 0, .null, .null, .null, .int 0, .null])]) := hV
  replace hz := hz9.trans hz
  refine lv_aload_n hx hb d_Mo_init_69 rfl (lv_at hl 0 rfl) ?_
  refine lv_bipush (v := 62) hx hb d_Mo_init_70 (by decide) ?_
  refine u_newa (atype := .int) hx hb hts w_ac_int rfl hK hV 0 rfl (a0 := (62, .inl (fun _ => 0))) (fun _ => rfl) (by decide) (N' := 62) (by decide) (by decide) (Nat.le_of_ble_eq_true rfl) (Nat.le_of_ble_eq_true rfl) d_Mo_init_72 hz (fun H hV hz => ?_)
  have hV : vS G.1 cls lo s H locs (vU V [(sz + 7, eI (gI G) 62 (fun _ => 0)), (sz + 6, eI (gI G) 62 (fun _ => 0)), (sz + 5, eI (gI G) 1769 (fun _ => 0)), (sz + 4, eI (gI G) 600 (fun _ => 0)), (sz + 3, eI (gI G) 62 (fun _ => 0)), (sz + 2, eI (gI G) 62 (fun _ => 0)), (sz + 1, eI (gI G) 1769 (fun _ => 0)), (sz, eI (gI G) 400 (fun _ => 0)), (m, eO 8 [.int 0, .int 0, .ref sz, .int ((-1)), .ref (sz + 1), .ref (sz + 2), .ref (sz + 3), .int 0, .ref (sz + 4), .ref (sz + 5), .ref (sz + 6), .null, .int 0, .int 0, .int 0, .int 0, .null, .null, .null, .int 0, .null])]) := hV
  have hn : [sz + 7, sz + 6, sz + 5, sz + 4, sz + 3, sz + 2, sz + 1, sz, m].Nodup := List.nodup_cons.mpr ⟨by simp only [List.mem_cons, List.not_mem_nil, or_false, not_or]; omega, hn⟩
  refine u_putF hx hb hts inMo tyMo tyMo_ok nmMo hown hK hV hn 8 rfl rfl 11 (by decide) w_fl_Mo_35 rfl rfl hnm rfl rfl rfl (Nat.le_of_ble_eq_true rfl) d_Mo_init_74 (fun H locs hV hz9 => ?_)
  have hV : vS G.1 cls lo s H locs (vU V [(sz + 7, eI (gI G) 62 (fun _ => 0)), (sz + 6, eI (gI G) 62 (fun _ => 0)), (sz + 5, eI (gI G) 1769 (fun _ => 0)), (sz + 4, eI (gI G) 600 (fun _ => 0)), (sz + 3, eI (gI G) 62 (fun _ => 0)), (sz + 2, eI (gI G) 62 (fun _ => 0)), (sz + 1, eI (gI G) 1769 (fun _ => 0)), (sz, eI (gI G) 400 (fun _ => 0)), (m, eO 8 [.int 0, .int 0, .ref sz, .int ((-1)), .ref (sz + 1), .ref (sz + 2), .ref (sz + 3), .int 0, .ref (sz + 4), .ref (sz + 5), .ref (sz + 6), .ref (sz + 7), .int 0, .int 0, .int 0, .int 0, .null, .null, .null, .int 0, .null])]) := hV
  replace hz := hz9.trans hz
  refine lv_aload_n hx hb d_Mo_init_77 rfl (lv_at hl 0 rfl) ?_
  refine lv_sipush (v := 300) hx hb d_Mo_init_78 (by decide) ?_
  refine u_newa (atype := .int) hx hb hts w_ac_int rfl hK hV 0 rfl (a0 := (300, .inl (fun _ => 0))) (fun _ => rfl) (by decide) (N' := 300) (by decide) (by decide) (Nat.le_of_ble_eq_true rfl) (Nat.le_of_ble_eq_true rfl) d_Mo_init_81 hz (fun H hV hz => ?_)
  have hV : vS G.1 cls lo s H locs (vU V [(sz + 8, eI (gI G) 300 (fun _ => 0)), (sz + 7, eI (gI G) 62 (fun _ => 0)), (sz + 6, eI (gI G) 62 (fun _ => 0)), (sz + 5, eI (gI G) 1769 (fun _ => 0)), (sz + 4, eI (gI G) 600 (fun _ => 0)), (sz + 3, eI (gI G) 62 (fun _ => 0)), (sz + 2, eI (gI G) 62 (fun _ => 0)), (sz + 1, eI (gI G) 1769 (fun _ => 0)), (sz, eI (gI G) 400 (fun _ => 0)), (m, eO 8 [.int 0, .int 0, .ref sz, .int ((-1)), .ref (sz + 1), .ref (sz + 2), .ref (sz + 3), .int 0, .ref (sz + 4), .ref (sz + 5), .ref (sz + 6), .ref (sz + 7), .int 0, .int 0, .int 0, .int 0, .null, .null, .null, .int 0, .null])]) := hV
  have hn : [sz + 8, sz + 7, sz + 6, sz + 5, sz + 4, sz + 3, sz + 2, sz + 1, sz, m].Nodup := List.nodup_cons.mpr ⟨by simp only [List.mem_cons, List.not_mem_nil, or_false, not_or]; omega, hn⟩
  refine u_putF hx hb hts inMo tyMo tyMo_ok nmMo hown hK hV hn 9 rfl rfl 16 (by decide) w_fl_Mo_38 rfl rfl hnm rfl rfl rfl (Nat.le_of_ble_eq_true rfl) d_Mo_init_83 (fun H locs hV hz9 => ?_)
  have hV : vS G.1 cls lo s H locs (vU V [(sz + 8, eI (gI G) 300 (fun _ => 0)), (sz + 7, eI (gI G) 62 (fun _ => 0)), (sz + 6, eI (gI G) 62 (fun _ => 0)), (sz + 5, eI (gI G) 1769 (fun _ => 0)), (sz + 4, eI (gI G) 600 (fun _ => 0)), (sz + 3, eI (gI G) 62 (fun _ => 0)), (sz + 2, eI (gI G) 62 (fun _ => 0)), (sz + 1, eI (gI G) 1769 (fun _ => 0)), (sz, eI (gI G) 400 (fun _ => 0)), (m, eO 8 [.int 0, .int 0, .ref sz, .int ((-1)), .ref (sz + 1), .ref (sz + 2), .ref (sz + 3), .int 0, .ref (sz + 4), .ref (sz + 5), .ref (sz + 6), .ref (sz + 7), .int 0, .int 0, .int 0, .int 0, .ref (sz + 8), .null, .null, .int 0, .null])]) := hV
  replace hz := hz9.trans hz
  refine lv_aload_n hx hb d_Mo_init_86 rfl (lv_at hl 0 rfl) ?_
  refine lv_sipush (v := 300) hx hb d_Mo_init_87 (by decide) ?_
  refine u_newa (atype := .int) hx hb hts w_ac_int rfl hK hV 0 rfl (a0 := (300, .inl (fun _ => 0))) (fun _ => rfl) (by decide) (N' := 300) (by decide) (by decide) (Nat.le_of_ble_eq_true rfl) (Nat.le_of_ble_eq_true rfl) d_Mo_init_90 hz (fun H hV hz => ?_)
  have hV : vS G.1 cls lo s H locs (vU V [(sz + 9, eI (gI G) 300 (fun _ => 0)), (sz + 8, eI (gI G) 300 (fun _ => 0)), (sz + 7, eI (gI G) 62 (fun _ => 0)), (sz + 6, eI (gI G) 62 (fun _ => 0)), (sz + 5, eI (gI G) 1769 (fun _ => 0)), (sz + 4, eI (gI G) 600 (fun _ => 0)), (sz + 3, eI (gI G) 62 (fun _ => 0)), (sz + 2, eI (gI G) 62 (fun _ => 0)), (sz + 1, eI (gI G) 1769 (fun _ => 0)), (sz, eI (gI G) 400 (fun _ => 0)), (m, eO 8 [.int 0, .int 0, .ref sz, .int ((-1)), .ref (sz + 1), .ref (sz + 2), .ref (sz + 3), .int 0, .ref (sz + 4), .ref (sz + 5), .ref (sz + 6), .ref (sz + 7), .int 0, .int 0, .int 0, .int 0, .ref (sz + 8), .null, .null, .int 0, .null])]) := hV
  have hn : [sz + 9, sz + 8, sz + 7, sz + 6, sz + 5, sz + 4, sz + 3, sz + 2, sz + 1, sz, m].Nodup := List.nodup_cons.mpr ⟨by simp only [List.mem_cons, List.not_mem_nil, or_false, not_or]; omega, hn⟩
  refine u_putF hx hb hts inMo tyMo tyMo_ok nmMo hown hK hV hn 10 rfl rfl 17 (by decide) w_fl_Mo_41 rfl rfl hnm rfl rfl rfl (Nat.le_of_ble_eq_true rfl) d_Mo_init_92 (fun H locs hV hz9 => ?_)
  have hV : vS G.1 cls lo s H locs (vU V [(sz + 9, eI (gI G) 300 (fun _ => 0)), (sz + 8, eI (gI G) 300 (fun _ => 0)), (sz + 7, eI (gI G) 62 (fun _ => 0)), (sz + 6, eI (gI G) 62 (fun _ => 0)), (sz + 5, eI (gI G) 1769 (fun _ => 0)), (sz + 4, eI (gI G) 600 (fun _ => 0)), (sz + 3, eI (gI G) 62 (fun _ => 0)), (sz + 2, eI (gI G) 62 (fun _ => 0)), (sz + 1, eI (gI G) 1769 (fun _ => 0)), (sz, eI (gI G) 400 (fun _ => 0)), (m, eO 8 [.int 0, .int 0, .ref sz, .int ((-1)), .ref (sz + 1), .ref (sz + 2), .ref (sz + 3), .int 0, .ref (sz + 4), .ref (sz + 5), .ref (sz + 6), .ref (sz + 7), .int 0, .int 0, .int 0, .int 0, .ref (sz + 8), .ref (sz + 9), .null, .int 0, .null])]) := hV
  replace hz := hz9.trans hz
  refine lv_aload_n hx hb d_Mo_init_95 rfl (lv_at hl 0 rfl) ?_
  refine lv_bipush (v := 41) hx hb d_Mo_init_96 (by decide) ?_
  refine u_newa (atype := .boolean) hx hb hts w_ac_boolean rfl hK hV 3 rfl (a0 := (41, .inl (fun _ => 0))) (fun _ => rfl) (by decide) (N' := 41) (by decide) (by decide) (Nat.le_of_ble_eq_true rfl) (Nat.le_of_ble_eq_true rfl) d_Mo_init_98 hz (fun H hV hz => ?_)
  have hV : vS G.1 cls lo s H locs (vU V [(sz + 10, eI (gZ G) 41 (fun _ => 0)), (sz + 9, eI (gI G) 300 (fun _ => 0)), (sz + 8, eI (gI G) 300 (fun _ => 0)), (sz + 7, eI (gI G) 62 (fun _ => 0)), (sz + 6, eI (gI G) 62 (fun _ => 0)), (sz + 5, eI (gI G) 1769 (fun _ => 0)), (sz + 4, eI (gI G) 600 (fun _ => 0)), (sz + 3, eI (gI G) 62 (fun _ => 0)), (sz + 2, eI (gI G) 62 (fun _ => 0)), (sz + 1, eI (gI G) 1769 (fun _ => 0)), (sz, eI (gI G) 400 (fun _ => 0)), (m, eO 8 [.int 0, .int 0, .ref sz, .int ((-1)), .ref (sz + 1), .ref (sz + 2), .ref (sz + 3), .int 0, .ref (sz + 4), .ref (sz + 5), .ref (sz + 6), .ref (sz + 7), .int 0, .int 0, .int 0, .int 0, .ref (sz + 8), .ref (sz + 9), .null, .int 0, .null])]) := hV
  have hn : [sz + 10, sz + 9, sz + 8, sz + 7, sz + 6, sz + 5, sz + 4, sz + 3, sz + 2, sz + 1, sz, m].Nodup := List.nodup_cons.mpr ⟨by simp only [List.mem_cons, List.not_mem_nil, or_false, not_or]; omega, hn⟩
  refine u_putF hx hb hts inMo tyMo tyMo_ok nmMo hown hK hV hn 11 rfl rfl 18 (by decide) w_fl_Mo_44 rfl rfl hnm rfl rfl rfl (Nat.le_of_ble_eq_true rfl) d_Mo_init_100 (fun H locs hV hz9 => ?_)
  have hV : vS G.1 cls lo s H locs (vU V [(sz + 10, eI (gZ G) 41 (fun _ => 0)), (sz + 9, eI (gI G) 300 (fun _ => 0)), (sz + 8, eI (gI G) 300 (fun _ => 0)), (sz + 7, eI (gI G) 62 (fun _ => 0)), (sz + 6, eI (gI G) 62 (fun _ => 0)), (sz + 5, eI (gI G) 1769 (fun _ => 0)), (sz + 4, eI (gI G) 600 (fun _ => 0)), (sz + 3, eI (gI G) 62 (fun _ => 0)), (sz + 2, eI (gI G) 62 (fun _ => 0)), (sz + 1, eI (gI G) 1769 (fun _ => 0)), (sz, eI (gI G) 400 (fun _ => 0)), (m, eO 8 [.int 0, .int 0, .ref sz, .int ((-1)), .ref (sz + 1), .ref (sz + 2), .ref (sz + 3), .int 0, .ref (sz + 4), .ref (sz + 5), .ref (sz + 6), .ref (sz + 7), .int 0, .int 0, .int 0, .int 0, .ref (sz + 8), .ref (sz + 9), .ref (sz + 10), .int 0, .null])]) := hV
  replace hz := hz9.trans hz
  refine lv_aload_n hx hb d_Mo_init_103 rfl (lv_at hl 0 rfl) ?_
  refine lv_sipush (v := 5000) hx hb d_Mo_init_104 (by decide) ?_
  refine u_newa (atype := .int) hx hb hts w_ac_int rfl hK hV 0 rfl (a0 := (5000, .inl (fun _ => 0))) (fun _ => rfl) (by decide) (N' := 5000) (by decide) (by decide) (Nat.le_of_ble_eq_true rfl) (Nat.le_of_ble_eq_true rfl) d_Mo_init_107 hz (fun H hV hz => ?_)
  have hV : vS G.1 cls lo s H locs (vU V [(sz + 11, eI (gI G) 5000 (fun _ => 0)), (sz + 10, eI (gZ G) 41 (fun _ => 0)), (sz + 9, eI (gI G) 300 (fun _ => 0)), (sz + 8, eI (gI G) 300 (fun _ => 0)), (sz + 7, eI (gI G) 62 (fun _ => 0)), (sz + 6, eI (gI G) 62 (fun _ => 0)), (sz + 5, eI (gI G) 1769 (fun _ => 0)), (sz + 4, eI (gI G) 600 (fun _ => 0)), (sz + 3, eI (gI G) 62 (fun _ => 0)), (sz + 2, eI (gI G) 62 (fun _ => 0)), (sz + 1, eI (gI G) 1769 (fun _ => 0)), (sz, eI (gI G) 400 (fun _ => 0)), (m, eO 8 [.int 0, .int 0, .ref sz, .int ((-1)), .ref (sz + 1), .ref (sz + 2), .ref (sz + 3), .int 0, .ref (sz + 4), .ref (sz + 5), .ref (sz + 6), .ref (sz + 7), .int 0, .int 0, .int 0, .int 0, .ref (sz + 8), .ref (sz + 9), .ref (sz + 10), .int 0, .null])]) := hV
  have hn : [sz + 11, sz + 10, sz + 9, sz + 8, sz + 7, sz + 6, sz + 5, sz + 4, sz + 3, sz + 2, sz + 1, sz, m].Nodup := List.nodup_cons.mpr ⟨by simp only [List.mem_cons, List.not_mem_nil, or_false, not_or]; omega, hn⟩
  refine u_putF hx hb hts inMo tyMo tyMo_ok nmMo hown hK hV hn 12 rfl rfl 20 (by decide) w_fl_Mo_48 rfl rfl hnm rfl rfl rfl (Nat.le_of_ble_eq_true rfl) d_Mo_init_109 (fun H locs hV hz9 => ?_)
  have hV : vS G.1 cls lo s H locs (vU V [(sz + 11, eI (gI G) 5000 (fun _ => 0)), (sz + 10, eI (gZ G) 41 (fun _ => 0)), (sz + 9, eI (gI G) 300 (fun _ => 0)), (sz + 8, eI (gI G) 300 (fun _ => 0)), (sz + 7, eI (gI G) 62 (fun _ => 0)), (sz + 6, eI (gI G) 62 (fun _ => 0)), (sz + 5, eI (gI G) 1769 (fun _ => 0)), (sz + 4, eI (gI G) 600 (fun _ => 0)), (sz + 3, eI (gI G) 62 (fun _ => 0)), (sz + 2, eI (gI G) 62 (fun _ => 0)), (sz + 1, eI (gI G) 1769 (fun _ => 0)), (sz, eI (gI G) 400 (fun _ => 0)), (m, eO 8 [.int 0, .int 0, .ref sz, .int ((-1)), .ref (sz + 1), .ref (sz + 2), .ref (sz + 3), .int 0, .ref (sz + 4), .ref (sz + 5), .ref (sz + 6), .ref (sz + 7), .int 0, .int 0, .int 0, .int 0, .ref (sz + 8), .ref (sz + 9), .ref (sz + 10), .int 0, .ref (sz + 11)])]) := hV
  replace hz := hz9.trans hz
  exact W.vret hx hb hr (v_end hV ⟨rfl, rfl, hz⟩) hV.2.1.2.2 d_Mo_init_112
