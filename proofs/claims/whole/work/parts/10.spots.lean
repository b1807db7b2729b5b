theorem d_Sp_init_0 : decode b_Sp_init 0 = .ok (.aload_n 0, 1) := by decide +kernel
theorem d_Sp_init_1 : decode b_Sp_init 1 = .ok (.invokespecial 3, 3) := by decide +kernel
theorem d_Sp_init_4 : decode b_Sp_init 4 = .ok (.aload_n 0, 1) := by decide +kernel
theorem d_Sp_init_5 : decode b_Sp_init 5 = .ok (.bipush 31, 2) := by decide +kernel
theorem d_Sp_init_7 : decode b_Sp_init 7 = .ok (.newarray .int, 2) := by decide +kernel
theorem d_Sp_init_9 : decode b_Sp_init 9 = .ok (.putfield 9, 3) := by decide +kernel
theorem d_Sp_init_12 : decode b_Sp_init 12 = .ok (.aload_n 0, 1) := by decide +kernel
theorem d_Sp_init_13 : decode b_Sp_init 13 = .ok (.bipush 31, 2) := by decide +kernel
theorem d_Sp_init_15 : decode b_Sp_init 15 = .ok (.newarray .int, 2) := by decide +kernel
theorem d_Sp_init_17 : decode b_Sp_init 17 = .ok (.putfield 15, 3) := by decide +kernel
theorem d_Sp_init_20 : decode b_Sp_init 20 = .ok (.return_, 1) := by decide +kernel
theorem d_Sp_has_0 : decode b_Sp_has 0 = .ok (.iload_n 1, 1) := by decide +kernel
theorem d_Sp_has_1 : decode b_Sp_has 1 = .ok (.iconst 1, 1) := by decide +kernel
theorem d_Sp_has_2 : decode b_Sp_has 2 = .ok (.if_icmp .lt 22, 3) := by decide +kernel
theorem d_Sp_has_5 : decode b_Sp_has 5 = .ok (.iload_n 1, 1) := by decide +kernel
theorem d_Sp_has_6 : decode b_Sp_has 6 = .ok (.bipush 30, 2) := by decide +kernel
theorem d_Sp_has_8 : decode b_Sp_has 8 = .ok (.if_icmp .gt 16, 3) := by decide +kernel
theorem d_Sp_has_11 : decode b_Sp_has 11 = .ok (.aload_n 0, 1) := by decide +kernel
theorem d_Sp_has_12 : decode b_Sp_has 12 = .ok (.getfield 9, 3) := by decide +kernel
theorem d_Sp_has_15 : decode b_Sp_has 15 = .ok (.iload_n 1, 1) := by decide +kernel
theorem d_Sp_has_16 : decode b_Sp_has 16 = .ok (.iaload, 1) := by decide +kernel
theorem d_Sp_has_17 : decode b_Sp_has 17 = .ok (.ifCond .eq 7, 3) := by decide +kernel
theorem d_Sp_has_20 : decode b_Sp_has 20 = .ok (.iconst 1, 1) := by decide +kernel
theorem d_Sp_has_21 : decode b_Sp_has 21 = .ok (.goto 4, 3) := by decide +kernel
theorem d_Sp_has_24 : decode b_Sp_has 24 = .ok (.iconst 0, 1) := by decide +kernel
theorem d_Sp_has_25 : decode b_Sp_has 25 = .ok (.ireturn, 1) := by decide +kernel
theorem d_Sp_put_0 : decode b_Sp_put 0 = .ok (.iload_n 1, 1) := by decide +kernel
theorem d_Sp_put_1 : decode b_Sp_put 1 = .ok (.iconst 1, 1) := by decide +kernel
theorem d_Sp_put_2 : decode b_Sp_put 2 = .ok (.if_icmp .lt 23, 3) := by decide +kernel
theorem d_Sp_put_5 : decode b_Sp_put 5 = .ok (.iload_n 1, 1) := by decide +kernel
theorem d_Sp_put_6 : decode b_Sp_put 6 = .ok (.bipush 30, 2) := by decide +kernel
theorem d_Sp_put_8 : decode b_Sp_put 8 = .ok (.if_icmp .gt 17, 3) := by decide +kernel
theorem d_Sp_put_11 : decode b_Sp_put 11 = .ok (.aload_n 0, 1) := by decide +kernel
theorem d_Sp_put_12 : decode b_Sp_put 12 = .ok (.getfield 9, 3) := by decide +kernel
theorem d_Sp_put_15 : decode b_Sp_put 15 = .ok (.iload_n 1, 1) := by decide +kernel
theorem d_Sp_put_16 : decode b_Sp_put 16 = .ok (.iload_n 2, 1) := by decide +kernel
theorem d_Sp_put_17 : decode b_Sp_put 17 = .ok (.iastore, 1) := by decide +kernel
theorem d_Sp_put_18 : decode b_Sp_put 18 = .ok (.aload_n 0, 1) := by decide +kernel
theorem d_Sp_put_19 : decode b_Sp_put 19 = .ok (.getfield 15, 3) := by decide +kernel
theorem d_Sp_put_22 : decode b_Sp_put 22 = .ok (.iload_n 1, 1) := by decide +kernel
theorem d_Sp_put_23 : decode b_Sp_put 23 = .ok (.iload_n 3, 1) := by decide +kernel
theorem d_Sp_put_24 : decode b_Sp_put 24 = .ok (.iastore, 1) := by decide +kernel
theorem d_Sp_put_25 : decode b_Sp_put 25 = .ok (.return_, 1) := by decide +kernel
theorem d_Sp_size_0 : decode b_Sp_size 0 = .ok (.iconst 0, 1) := by decide +kernel
theorem d_Sp_size_1 : decode b_Sp_size 1 = .ok (.istore_n 1, 1) := by decide +kernel
theorem d_Sp_size_2 : decode b_Sp_size 2 = .ok (.iconst 1, 1) := by decide +kernel
theorem d_Sp_size_3 : decode b_Sp_size 3 = .ok (.istore_n 2, 1) := by decide +kernel
theorem d_Sp_size_4 : decode b_Sp_size 4 = .ok (.iload_n 2, 1) := by decide +kernel
theorem d_Sp_size_5 : decode b_Sp_size 5 = .ok (.bipush 30, 2) := by decide +kernel
theorem d_Sp_size_7 : decode b_Sp_size 7 = .ok (.if_icmp .gt 20, 3) := by decide +kernel
theorem d_Sp_size_10 : decode b_Sp_size 10 = .ok (.aload_n 0, 1) := by decide +kernel
theorem d_Sp_size_11 : decode b_Sp_size 11 = .ok (.iload_n 2, 1) := by decide +kernel
theorem d_Sp_size_12 : decode b_Sp_size 12 = .ok (.invokevirtual 18, 3) := by decide +kernel
theorem d_Sp_size_15 : decode b_Sp_size 15 = .ok (.ifCond .eq 6, 3) := by decide +kernel
theorem d_Sp_size_18 : decode b_Sp_size 18 = .ok (.iinc 1 1, 3) := by decide +kernel
theorem d_Sp_size_21 : decode b_Sp_size 21 = .ok (.iinc 2 1, 3) := by decide +kernel
theorem d_Sp_size_24 : decode b_Sp_size 24 = .ok (.goto (-20), 3) := by decide +kernel
theorem d_Sp_size_27 : decode b_Sp_size 27 = .ok (.iload_n 1, 1) := by decide +kernel
theorem d_Sp_size_28 : decode b_Sp_size 28 = .ok (.ireturn, 1) := by decide +kernel
theorem d_Sp_copyFrom_0 : decode b_Sp_copyFrom 0 = .ok (.iconst 1, 1) := by decide +kernel
theorem d_Sp_copyFrom_1 : decode b_Sp_copyFrom 1 = .ok (.istore_n 2, 1) := by decide +kernel
theorem d_Sp_copyFrom_2 : decode b_Sp_copyFrom 2 = .ok (.iload_n 2, 1) := by decide +kernel
theorem d_Sp_copyFrom_3 : decode b_Sp_copyFrom 3 = .ok (.bipush 30, 2) := by decide +kernel
theorem d_Sp_copyFrom_5 : decode b_Sp_copyFrom 5 = .ok (.if_icmp .gt 33, 3) := by decide +kernel
theorem d_Sp_copyFrom_8 : decode b_Sp_copyFrom 8 = .ok (.aload_n 0, 1) := by decide +kernel
theorem d_Sp_copyFrom_9 : decode b_Sp_copyFrom 9 = .ok (.getfield 9, 3) := by decide +kernel
theorem d_Sp_copyFrom_12 : decode b_Sp_copyFrom 12 = .ok (.iload_n 2, 1) := by decide +kernel
theorem d_Sp_copyFrom_13 : decode b_Sp_copyFrom 13 = .ok (.aload_n 1, 1) := by decide +kernel
theorem d_Sp_copyFrom_14 : decode b_Sp_copyFrom 14 = .ok (.getfield 9, 3) := by decide +kernel
theorem d_Sp_copyFrom_17 : decode b_Sp_copyFrom 17 = .ok (.iload_n 2, 1) := by decide +kernel
theorem d_Sp_copyFrom_18 : decode b_Sp_copyFrom 18 = .ok (.iaload, 1) := by decide +kernel
theorem d_Sp_copyFrom_19 : decode b_Sp_copyFrom 19 = .ok (.iastore, 1) := by decide +kernel
theorem d_Sp_copyFrom_20 : decode b_Sp_copyFrom 20 = .ok (.aload_n 0, 1) := by decide +kernel
theorem d_Sp_copyFrom_21 : decode b_Sp_copyFrom 21 = .ok (.getfield 15, 3) := by decide +kernel
theorem d_Sp_copyFrom_24 : decode b_Sp_copyFrom 24 = .ok (.iload_n 2, 1) := by decide +kernel
theorem d_Sp_copyFrom_25 : decode b_Sp_copyFrom 25 = .ok (.aload_n 1, 1) := by decide +kernel
theorem d_Sp_copyFrom_26 : decode b_Sp_copyFrom 26 = .ok (.getfield 15, 3) := by decide +kernel
theorem d_Sp_copyFrom_29 : decode b_Sp_copyFrom 29 = .ok (.iload_n 2, 1) := by decide +kernel
theorem d_Sp_copyFrom_30 : decode b_Sp_copyFrom 30 = .ok (.iaload, 1) := by decide +kernel
theorem d_Sp_copyFrom_31 : decode b_Sp_copyFrom 31 = .ok (.iastore, 1) := by decide +kernel
theorem d_Sp_copyFrom_32 : decode b_Sp_copyFrom 32 = .ok (.iinc 2 1, 3) := by decide +kernel
theorem d_Sp_copyFrom_35 : decode b_Sp_copyFrom 35 = .ok (.goto (-33), 3) := by decide +kernel
theorem d_Sp_copyFrom_38 : decode b_Sp_copyFrom 38 = .ok (.return_, 1) := by decide +kernel

/-- what Spots.has answers -/
def spHas (fp : Nat → Int32) (x : Int32) : Bool := decide (nI 1 ≤ x) && decide (x ≤ nI 30) && !decide (fp x.toNatClampNeg = 0)
def b2i (b : Bool) : Int32 := if b then 1 else 0
theorem b2i_nar (b : Bool) : narrow .boolean (.int (b2i b)) = .int (b2i b) := by cases b <;> decide
theorem spHas_lo {fp : Nat → Int32} {x : Int32} (h : x < nI 1) : spHas fp x = false := by
  have : ¬ nI 1 ≤ x := Int32.not_le.mpr h
  simp [spHas, this]
theorem spHas_hi {fp : Nat → Int32} {x : Int32} (h : nI 30 < x) : spHas fp x = false := by
  have : ¬ x ≤ nI 30 := Int32.not_le.mpr h
  simp [spHas, this]
theorem spHas_in {fp : Nat → Int32} {j : Nat} (h1 : 1 ≤ j) (h2 : j ≤ 30) : spHas fp (nI j) = !decide (fp j = 0) := by
  have a : nI 1 ≤ nI j := nI_le h1 (by omega)
  have b : nI j ≤ nI 30 := nI_le h2 (by omega)
  simp [spHas, a, b, nI_clamp (show j < 2 ^ 31 by omega)]

set_option maxHeartbeats 4000000 in
set_option maxRecDepth 100000 in
/-- Spots.has -/
theorem c_Sp_has (l : Launch) (G : Gx) (lo : Nat) (V : Vw) (sz : Nat) (sp po me : Nat) (fp : Nat → Int32) (x : Int32) (hn : [sp, po].Nodup) : Met l y_Sp_has ws_Sp_has ({ frames := 0, cells := 0, slots := 0, locals := 0 } : Room) (vPre G lo [.ref sp, .int x] (vU V [(sp, eO 4 [.ref po, .ref me]), (po, eI (gI G) 31 fp)]) sz) (vPost G lo (fun r V' n => r = some (.int (b2i (spHas fp x))) ∧ V' = vU V [(sp, eO 4 [.ref po, .ref me]), (po, eI (gI G) 31 fp)] ∧ n = sz)) 0 0 (vL lo) := by
  refine vMet (R := RSp) (by decide) rfl (Nat.le_of_ble_eq_true rfl) ?_
  intro pg ev s mi args below meth cd hx hb hr hml hlk hnm hts hown hK hz hV ls hl
  have hl : lv_has ls 2 [(0, .ref sp), (1, .int x)] := hl
  have hV0 := hV
  obtain ⟨H, hH⟩ : ∃ H, H = s.heap := ⟨_, rfl⟩
  obtain ⟨locs, hlocs⟩ : ∃ locs : List Loc, locs = [] := ⟨_, rfl⟩
  rw [← hH, ← hlocs]
  rw [← hH] at hz
  replace hV : vS G.1 cls lo s H locs (vU V [(sp, eO 4 [.ref po, .ref me]), (po, eI (gI G) 31 fp)]) := by rw [hH, hlocs]; exact hV
  clear hH hlocs hV0
  refine lv_iload_n hx hb d_Sp_has_0 rfl (lv_at hl 1 rfl) ?_
  refine lv_iconst (v := 1) hx hb d_Sp_has_1 (by decide) ?_
  refine lv_icmp_lt (tgt := 24) hx hb d_Sp_has_2 (by decide) (fun c_1 => ?_) (fun c_1 => ?_)
  · have hE : spHas fp x = false := spHas_lo c_1
    refine lv_iconst (v := 0) hx hb d_Sp_has_24 (by decide) ?_
    exact W.zret (v := 0) hx hb hr (by decide) (v_end hV ⟨by rw [hE]; rfl, rfl, hz⟩) hV.2.1.2.2 d_Sp_has_25
  · refine lv_iload_n hx hb d_Sp_has_5 rfl (lv_at hl 1 rfl) ?_
    refine lv_bipush (v := 30) hx hb d_Sp_has_6 (by decide) ?_
    refine lv_icmp_gt (tgt := 24) hx hb d_Sp_has_8 (by decide) (fun c_2 => ?_) (fun c_2 => ?_)
    · have hE : spHas fp x = false := spHas_hi c_2
      refine lv_iconst (v := 0) hx hb d_Sp_has_24 (by decide) ?_
      exact W.zret (v := 0) hx hb hr (by decide) (v_end hV ⟨by rw [hE]; rfl, rfl, hz⟩) hV.2.1.2.2 d_Sp_has_25
    · obtain ⟨j, hj1, hj2, rfl⟩ := nI_bd (a := 1) (b := 30) (by decide) c_1 c_2 (by decide)
      refine lv_aload_n hx hb d_Sp_has_11 rfl (lv_at hl 0 rfl) ?_
      refine u_get hx hb hts inSp hown hK hV hn 0 rfl rfl 0 (by decide) w_fl_Sp_9 rfl rfl d_Sp_has_12 ?_
      refine lv_iload_n hx hb d_Sp_has_15 rfl (lv_at hl 1 rfl) ?_
      refine u_ialdN hx hb hK hV hn 1 rfl (by omega) (by decide) d_Sp_has_16 ?_
      refine lv_if_eq (tgt := 24) hx hb d_Sp_has_17 (by decide) (fun c_3 => ?_) (fun c_3 => ?_)
      · have hE : spHas fp (nI j) = false := by rw [spHas_in hj1 hj2]; simp [c_3]
        refine lv_iconst (v := 0) hx hb d_Sp_has_24 (by decide) ?_
        exact W.zret (v := 0) hx hb hr (by decide) (v_end hV ⟨by rw [hE]; rfl, rfl, hz⟩) hV.2.1.2.2 d_Sp_has_25
      · have hE : spHas fp (nI j) = true := by rw [spHas_in hj1 hj2]; simp [c_3]
        refine lv_iconst (v := 1) hx hb d_Sp_has_20 (by decide) ?_
        refine lv_goto (tgt := 25) hx hb d_Sp_has_21 (by decide) ?_
        exact W.zret (v := 1) hx hb hr (by decide) (v_end hV ⟨by rw [hE]; rfl, rfl, hz⟩) hV.2.1.2.2 d_Sp_has_25

set_option maxHeartbeats 4000000 in
set_option maxRecDepth 100000 in
/-- Spots() -/
theorem c_Sp_init (l : Launch) (G : Gx) (lo : Nat) (V : Vw) (sz : Nat) (sp : Nat) (hsp : sp < sz) : Met l y_Sp_init ws_Sp_init ({ frames := 1, cells := 2, slots := 62, locals := 12 } : Room) (vPre G lo [.ref sp] (vU V [(sp, eO 4 [.null, .null])]) sz) (vPost G lo (fun r V' k => r = none ∧ V' = vU V [(sz + 1, eI (gI G) 31 (fun _ => 0)), (sz, eI (gI G) 31 (fun _ => 0)), (sp, eO 4 [.ref sz, .ref (sz + 1)])] ∧ k = sz + 2)) 2 62 (vL lo) := by
  refine vMet (R := RSp) (by decide) rfl (Nat.le_of_ble_eq_true rfl) ?_
  intro pg ev s mi args below meth cd hx hb hr hml hlk hnm hts hown hK hz hV ls hl
  have hl : lv_has ls 1 [(0, .ref sp)] := hl
  have hV0 := hV
  obtain ⟨H, hH⟩ : ∃ H, H = s.heap := ⟨_, rfl⟩
  obtain ⟨locs, hlocs⟩ : ∃ locs : List Loc, locs = [] := ⟨_, rfl⟩
  rw [← hH, ← hlocs]
  rw [← hH] at hz
  replace hV : vS G.1 cls lo s H locs (vU V [(sp, eO 4 [.null, .null])]) := by rw [hH, hlocs]; exact hV
  clear hH hlocs hV0
  have hn : [sp].Nodup := by simp
  refine lv_aload_n hx hb d_Sp_init_0 rfl (lv_at hl 0 rfl) ?_
  refine W.objInit hx hb hown (hts _ w_ml_Sp_3) (hts _ w_im_Ob_init) (hts _ w_co_Ob_init) rfl (by rw [hml]; exact hl.1) rfl d_Sp_init_1 (Nat.le_of_ble_eq_true rfl) (Nat.le_of_ble_eq_true rfl) ?_
  refine W.eq (g2 := F0 mi 4 ls []) rfl ?_
  refine lv_aload_n hx hb d_Sp_init_4 rfl (lv_at hl 0 rfl) ?_
  refine lv_bipush (v := 31) hx hb d_Sp_init_5 (by decide) ?_
  refine u_newa (atype := .int) hx hb hts w_ac_int rfl hK hV 0 rfl (a0 := (31, .inl (fun _ => 0))) (fun _ => rfl) (by decide) (N' := 31) (by decide) (by decide) (Nat.le_of_ble_eq_true rfl) (Nat.le_of_ble_eq_true rfl) d_Sp_init_7 hz (fun H hV hz => ?_)
  have hV : vS G.1 cls lo s H locs (vU V [(sz, eI (gI G) 31 (fun _ => 0)), (sp, eO 4 [.null, .null])]) := hV
  have hn : [sz, sp].Nodup := List.nodup_cons.mpr ⟨by simp only [List.mem_cons, List.not_mem_nil, or_false, not_or]; omega, hn⟩
  refine u_putF hx hb hts inSp tySp tySp_ok nmSp hown hK hV hn 1 rfl rfl 0 (by decide) w_fl_Sp_9 rfl rfl hnm rfl rfl rfl (Nat.le_of_ble_eq_true rfl) d_Sp_init_9 (fun H locs hV hz9 => ?_)
  have hV : vS G.1 cls lo s H locs (vU V [(sz, eI (gI G) 31 (fun _ => 0)), (sp, eO 4 [.ref sz, .null])]) := hV
  replace hz := hz9.trans hz
  refine lv_aload_n hx hb d_Sp_init_12 rfl (lv_at hl 0 rfl) ?_
  refine lv_bipush (v := 31) hx hb d_Sp_init_13 (by decide) ?_
  refine u_newa (atype := .int) hx hb hts w_ac_int rfl hK hV 0 rfl (a0 := (31, .inl (fun _ => 0))) (fun _ => rfl) (by decide) (N' := 31) (by decide) (by decide) (Nat.le_of_ble_eq_true rfl) (Nat.le_of_ble_eq_true rfl) d_Sp_init_15 hz (fun H hV hz => ?_)
  have hV : vS G.1 cls lo s H locs (vU V [(sz + 1, eI (gI G) 31 (fun _ => 0)), (sz, eI (gI G) 31 (fun _ => 0)), (sp, eO 4 [.ref sz, .null])]) := hV
  have hn : [sz + 1, sz, sp].Nodup := List.nodup_cons.mpr ⟨by simp only [List.mem_cons, List.not_mem_nil, or_false, not_or]; omega, hn⟩
  refine u_putF hx hb hts inSp tySp tySp_ok nmSp hown hK hV hn 2 rfl rfl 1 (by decide) w_fl_Sp_15 rfl rfl hnm rfl rfl rfl (Nat.le_of_ble_eq_true rfl) d_Sp_init_17 (fun H locs hV hz9 => ?_)
  have hV : vS G.1 cls lo s H locs (vU V [(sz + 1, eI (gI G) 31 (fun _ => 0)), (sz, eI (gI G) 31 (fun _ => 0)), (sp, eO 4 [.ref sz, .ref (sz + 1)])]) := hV
  replace hz := hz9.trans hz
  exact W.vret hx hb hr (v_end hV ⟨rfl, rfl, hz⟩) hV.2.1.2.2 d_Sp_init_20

set_option maxHeartbeats 4000000 in
set_option maxRecDepth 100000 in
/-- Spots.put -/
theorem c_Sp_put (l : Launch) (G : Gx) (lo : Nat) (V : Vw) (sz : Nat) (sp po me : Nat) (fp fm : Nat → Int32) (j : Nat) (x y : Int32) (hn : [sp, po, me].Nodup) (hj1 : 1 ≤ j) (hj2 : j ≤ 30) : Met l y_Sp_put ws_Sp_put ({ frames := 0, cells := 0, slots := 0, locals := 0 } : Room) (vPre G lo [.ref sp, .int (nI j), .int x, .int y] (vU V [(sp, eO 4 [.ref po, .ref me]), (po, eI (gI G) 31 fp), (me, eI (gI G) 31 fm)]) sz) (vPost G lo (fun r V' k => r = none ∧ V' = vU V [(sp, eO 4 [.ref po, .ref me]), (po, eI (gI G) 31 (upd fp j x)), (me, eI (gI G) 31 (upd fm j y))] ∧ k = sz)) 0 0 (vL lo) := by
  refine vMet (R := RSp) (by decide) rfl (Nat.le_of_ble_eq_true rfl) ?_
  intro pg ev s mi args below meth cd hx hb hr hml hlk hnm hts hown hK hz hV ls hl
  have hl : lv_has ls 4 [(0, .ref sp), (1, .int (nI j)), (2, .int x), (3, .int y)] := hl
  have hV0 := hV
  obtain ⟨H, hH⟩ : ∃ H, H = s.heap := ⟨_, rfl⟩
  obtain ⟨locs, hlocs⟩ : ∃ locs : List Loc, locs = [] := ⟨_, rfl⟩
  rw [← hH, ← hlocs]
  rw [← hH] at hz
  replace hV : vS G.1 cls lo s H locs (vU V [(sp, eO 4 [.ref po, .ref me]), (po, eI (gI G) 31 fp), (me, eI (gI G) 31 fm)]) := by rw [hH, hlocs]; exact hV
  clear hH hlocs hV0
  refine lv_iload_n hx hb d_Sp_put_0 rfl (lv_at hl 1 rfl) ?_
  refine lv_iconst (v := 1) hx hb d_Sp_put_1 (by decide) ?_
  refine lv_icmp_lt (tgt := 25) hx hb d_Sp_put_2 (by decide) (fun c_1 => absurd c_1 (nI_nlt (a := j) (b := 1) hj1 (by omega))) (fun c_1 => ?_)
  replace c_1 : ¬ j < 1 := fun z9 => c_1 ((nI_ltI (a := j) (b := 1) (by omega) (by omega)).mpr z9)
  refine lv_iload_n hx hb d_Sp_put_5 rfl (lv_at hl 1 rfl) ?_
  refine lv_bipush (v := 30) hx hb d_Sp_put_6 (by decide) ?_
  refine lv_icmp_gt (tgt := 25) hx hb d_Sp_put_8 (by decide) (fun c_2 => absurd c_2 (nI_nlt (a := 30) (b := j) hj2 (by decide))) (fun c_2 => ?_)
  replace c_2 : ¬ 30 < j := fun z9 => c_2 ((nI_ltI (a := 30) (b := j) (by omega) (by omega)).mpr z9)
  refine lv_aload_n hx hb d_Sp_put_11 rfl (lv_at hl 0 rfl) ?_
  refine u_get hx hb hts inSp hown hK hV hn 0 rfl rfl 0 (by decide) w_fl_Sp_9 rfl rfl d_Sp_put_12 ?_
  refine lv_iload_n hx hb d_Sp_put_15 rfl (lv_at hl 1 rfl) ?_
  refine lv_iload_n hx hb d_Sp_put_16 rfl (lv_at hl 2 rfl) ?_
  refine u_iastN hx hb hK hV hn 1 rfl (by omega) (by decide) d_Sp_put_17 (fun H locs hV hz9 => ?_)
  have hV : vS G.1 cls lo s H locs (vU V [(sp, eO 4 [.ref po, .ref me]), (po, eI (gI G) 31 (upd fp j x)), (me, eI (gI G) 31 fm)]) := hV
  replace hz := hz9.trans hz
  refine lv_aload_n hx hb d_Sp_put_18 rfl (lv_at hl 0 rfl) ?_
  refine u_get hx hb hts inSp hown hK hV hn 0 rfl rfl 1 (by decide) w_fl_Sp_15 rfl rfl d_Sp_put_19 ?_
  refine lv_iload_n hx hb d_Sp_put_22 rfl (lv_at hl 1 rfl) ?_
  refine lv_iload_n hx hb d_Sp_put_23 rfl (lv_at hl 3 rfl) ?_
  refine u_iastN hx hb hK hV hn 2 rfl (by omega) (by decide) d_Sp_put_24 (fun H locs hV hz9 => ?_)
  have hV : vS G.1 cls lo s H locs (vU V [(sp, eO 4 [.ref po, .ref me]), (po, eI (gI G) 31 (upd fp j x)), (me, eI (gI G) 31 (upd fm j y))]) := hV
  replace hz := hz9.trans hz
  exact W.vret hx hb hr (v_end hV ⟨rfl, rfl, hz⟩) hV.2.1.2.2 d_Sp_put_25

/-- how many of 1 .. k -/
def cnt (f : Nat → Bool) : Nat → Nat
  | 0 => 0
  | k + 1 => cnt f k + (if f (k + 1) then 1 else 0)
theorem cnt_le (f : Nat → Bool) : ∀ k, cnt f k ≤ k
  | 0 => Nat.le_refl 0
  | k + 1 => by
    have := cnt_le f k
    unfold cnt
    split <;> omega
theorem cnt_y {f : Nat → Bool} {k : Nat} (h : f (k + 1) = true) : cnt f (k + 1) = cnt f k + 1 := by simp [cnt, h]
theorem cnt_n {f : Nat → Bool} {k : Nat} (h : f (k + 1) = false) : cnt f (k + 1) = cnt f k := by simp [cnt, h]

set_option maxHeartbeats 4000000 in
set_option maxRecDepth 100000 in
/-- Spots.size -/
theorem c_Sp_size (l : Launch) (G : Gx) (lo : Nat) (V : Vw) (sz : Nat) (sp po me : Nat) (fp : Nat → Int32) (hn : [sp, po].Nodup) : Met l y_Sp_size ws_Sp_size ({ frames := 1, cells := 0, slots := 0, locals := 21 } : Room) (vPre G lo [.ref sp] (vU V [(sp, eO 4 [.ref po, .ref me]), (po, eI (gI G) 31 fp)]) sz) (vPost G lo (fun r V' k => r = some (.int (nI (cnt (fun j => spHas fp (nI j)) 30))) ∧ V' = vU V [(sp, eO 4 [.ref po, .ref me]), (po, eI (gI G) 31 fp)] ∧ k = sz)) 0 0 (vL lo) := by
  refine vMet (R := RSp) (by decide) rfl (Nat.le_of_ble_eq_true rfl) ?_
  intro pg ev s mi args below meth cd hx hb hr hml hlk hnm hts hown hK hz hV ls hl
  have hl : lv_has ls 3 [(0, .ref sp)] := hl
  have hV0 := hV
  obtain ⟨H, hH⟩ : ∃ H, H = s.heap := ⟨_, rfl⟩
  obtain ⟨locs, hlocs⟩ : ∃ locs : List Loc, locs = [] := ⟨_, rfl⟩
  rw [← hH, ← hlocs]
  rw [← hH] at hz
  replace hV : vS G.1 cls lo s H locs (vU V [(sp, eO 4 [.ref po, .ref me]), (po, eI (gI G) 31 fp)]) := by rw [hH, hlocs]; exact hV
  clear hH hlocs hV0
  refine lv_iconst (v := 0) hx hb d_Sp_size_0 (by decide) ?_
  refine lv_istore_n (lv' := [(1, .int 0), (0, .ref sp)]) hx hb d_Sp_size_1 rfl hl (by decide) rfl (fun ls hl => ?_)
  refine lv_iconst (v := 1) hx hb d_Sp_size_2 (by decide) ?_
  refine lv_istore_n (lv' := [(2, .int 1), (1, .int 0), (0, .ref sp)]) hx hb d_Sp_size_3 rfl hl (by decide) rfl (fun ls hl => ?_)
  have loop : ∀ (k : Nat) (i : Nat), 30 - i < k → (i ≤ 30) → ∀ (H : Heap) (locs : List Loc) (ls : Array Slot), H.size = sz → vS G.1 cls lo s H locs (vU V [(sp, eO 4 [.ref po, .ref me]), (po, eI (gI G) 31 fp)]) → lv_has ls 3 [(0, .ref sp), (1, .int (nI (cnt (fun j => spHas fp (nI j)) i))), (2, .int (nI (i + 1)))] → W pg l ev ({ frames := 1, cells := 0, slots := 0, locals := 21 } : Room) s mi args below meth cd H locs 0 0 (MQ below (vPost G lo (fun r V' k => r = some (.int (nI (cnt (fun j => spHas fp (nI j)) 30))) ∧ V' = vU V [(sp, eO 4 [.ref po, .ref me]), (po, eI (gI G) 31 fp)] ∧ k = sz)) args s 0 0 (vL lo)) (F0 mi 4 ls []) := by
    intro k
    induction k with
    | zero => intro i hk; exact absurd hk (by omega)
    | succ k ih =>
      intro i hk hi H locs ls hz hV hl
      refine lv_iload_n hx hb d_Sp_size_4 rfl (lv_at hl 2 rfl) ?_
      refine lv_bipush (v := 30) hx hb d_Sp_size_5 (by decide) ?_
      refine lv_icmp_gt (tgt := 27) hx hb d_Sp_size_7 (by decide) (fun c_1 => ?_) (fun c_1 => ?_)
      · replace c_1 : 30 < i + 1 := (nI_ltI (a := 30) (b := i + 1) (by omega) (by omega)).mp c_1
        refine lv_iload_n hx hb d_Sp_size_27 rfl (lv_at hl 1 rfl) ?_
        exact W.iret (v := nI (cnt (fun j => spHas fp (nI j)) i)) hx hb hr (v_end hV ⟨by rw [show i = 30 by omega], rfl, hz⟩) hV.2.1.2.2 d_Sp_size_28
      · replace c_1 : ¬ 30 < i + 1 := fun z9 => c_1 ((nI_ltI (a := 30) (b := i + 1) (by omega) (by omega)).mpr z9)
        have hc9 := cnt_le (fun j => spHas fp (nI j)) i
        refine lv_aload_n hx hb d_Sp_size_10 rfl (lv_at hl 0 rfl) ?_
        refine lv_iload_n hx hb d_Sp_size_11 rfl (lv_at hl 2 rfl) ?_
        refine v_call (va_runV (As := [.int (nI (i + 1))]) (rest := []) ⟨hx, hb, hml, hown, hts⟩ (c_Sp_has l G lo _ _ sp po me fp (nI (i + 1)) hn) (kwV 1 hts w_co_Sp_has rfl rfl w_it_Sp w_ml_Sp_18 w_im_Sp_has w_se_Sp__Sp_has (by decide +kernel) ⟨by decide, by decide⟩) (u_preV hK hV hn [0, 1] rfl hz 0 rfl rfl) rfl rfl hl.1 rfl (lv_room (Nat.le_of_ble_eq_true rfl)) d_Sp_size_12 ⟨(Nat.le_of_ble_eq_true rfl), (Nat.le_of_ble_eq_true rfl)⟩) hV (fun r9 V9 H locs hp hV hle => ?_)
        obtain ⟨rfl, rfl, hz⟩ := hp
        replace hV := uu_same hV hn [0, 1] rfl
        rcases tf (spHas fp (nI (i + 1))) with d_2 | d_2
        · have hV : vS G.1 cls lo s H locs (vU V [(sp, eO 4 [.ref po, .ref me]), (po, eI (gI G) 31 fp)]) := hV
          refine W.eq (g2 := F0 mi 15 ls [.int 1]) (by rw [d_2]; rfl) ?_
          refine lv_if_eq (tgt := 21) hx hb d_Sp_size_15 (by decide) (fun c_3 => absurd c_3 (by decide)) (fun _ => ?_)
          refine lv_iinc (v := nI (cnt (fun j => spHas fp (nI j)) (i + 1))) (lv' := [(1, .int (nI (cnt (fun j => spHas fp (nI j)) (i + 1)))), (0, .ref sp), (2, .int (nI (i + 1)))]) hx hb d_Sp_size_18 hl (k := 1) rfl (by rw [cnt_y (f := fun j => spHas fp (nI j)) (k := i) d_2]; exact nI_add _ 1) (by decide) rfl (fun ls hl => ?_)
          refine lv_iinc (v := nI (i + 2)) (lv' := [(2, .int (nI (i + 2))), (1, .int (nI (cnt (fun j => spHas fp (nI j)) (i + 1)))), (0, .ref sp)]) hx hb d_Sp_size_21 hl (k := 2) rfl (nI_add (i + 1) 1) (by decide) rfl (fun ls hl => ?_)
          refine lv_goto (tgt := 4) hx hb d_Sp_size_24 (by decide) ?_
          exact ih (i + 1) (by omega) (by omega) H locs ls hz hV (lv_sub hl [2, 1, 0] rfl)
        · have hV : vS G.1 cls lo s H locs (vU V [(sp, eO 4 [.ref po, .ref me]), (po, eI (gI G) 31 fp)]) := hV
          refine W.eq (g2 := F0 mi 15 ls [.int 0]) (by rw [d_2]; rfl) ?_
          refine lv_if_eq (tgt := 21) hx hb d_Sp_size_15 (by decide) (fun _ => ?_) (fun c_4 => absurd c_4 (by decide))
          have hl : lv_has ls 3 [(0, .ref sp), (1, .int (nI (cnt (fun j => spHas fp (nI j)) (i + 1)))), (2, .int (nI (i + 1)))] := by rw [cnt_n (f := fun j => spHas fp (nI j)) (k := i) d_2]; exact hl
          refine lv_iinc (v := nI (i + 2)) (lv' := [(2, .int (nI (i + 2))), (0, .ref sp), (1, .int (nI (cnt (fun j => spHas fp (nI j)) (i + 1))))]) hx hb d_Sp_size_21 hl (k := 2) rfl (nI_add (i + 1) 1) (by decide) rfl (fun ls hl => ?_)
          refine lv_goto (tgt := 4) hx hb d_Sp_size_24 (by decide) ?_
          exact ih (i + 1) (by omega) (by omega) H locs ls hz hV (lv_sub hl [1, 2, 0] rfl)
  exact loop 31 0 (by omega) (by omega) H locs ls hz hV (lv_sub hl [2, 1, 0] rfl)

/-- places 1 .. i as in g, the others as in f -/
def cp1 {α : Type} (g f : Nat → α) (i : Nat) : Nat → α := fun j => if 1 ≤ j ∧ j ≤ i then g j else f j
theorem cp1_0 {α : Type} (g f : Nat → α) : cp1 g f 0 = f := by
  funext j
  simp only [cp1]
  rw [if_neg (by omega)]
theorem cp1_s (g f : Nat → Int32) (i : Nat) : upd (cp1 g f i) (i + 1) (g (i + 1)) = cp1 g f (i + 1) := by
  funext j
  simp only [cp1, upd]
  by_cases h : j = i + 1
  · subst h
    simp
  · simp only [h, if_false]
    by_cases h2 : 1 ≤ j ∧ j ≤ i
    · rw [if_pos h2, if_pos (by omega)]
    · rw [if_neg h2, if_neg (by omega)]
theorem cp1_q (g f : Nat → Option Nat) (i : Nat) : va_up (cp1 g f i) (i + 1) (g (i + 1)) = cp1 g f (i + 1) := by
  funext j
  simp only [cp1, va_up]
  by_cases h : j = i + 1
  · subst h
    simp
  · simp only [h, if_false]
    by_cases h2 : 1 ≤ j ∧ j ≤ i
    · rw [if_pos h2, if_pos (by omega)]
    · rw [if_neg h2, if_neg (by omega)]

set_option maxHeartbeats 4000000 in
set_option maxRecDepth 100000 in
/-- Spots.copyFrom -/
theorem c_Sp_copyFrom (l : Launch) (G : Gx) (lo : Nat) (V : Vw) (sz : Nat) (sp po me s2 p2 m2 : Nat) (fp fm gp gm : Nat → Int32) (hn : [sp, po, me, s2, p2, m2].Nodup) : Met l y_Sp_copyFrom ws_Sp_copyFrom ({ frames := 0, cells := 0, slots := 0, locals := 0 } : Room) (vPre G lo [.ref sp, .ref s2] (vU V [(sp, eO 4 [.ref po, .ref me]), (po, eI (gI G) 31 fp), (me, eI (gI G) 31 fm), (s2, eO 4 [.ref p2, .ref m2]), (p2, eI (gI G) 31 gp), (m2, eI (gI G) 31 gm)]) sz) (vPost G lo (fun r V' k => r = none ∧ V' = vU V [(sp, eO 4 [.ref po, .ref me]), (po, eI (gI G) 31 (cp1 gp fp 30)), (me, eI (gI G) 31 (cp1 gm fm 30)), (s2, eO 4 [.ref p2, .ref m2]), (p2, eI (gI G) 31 gp), (m2, eI (gI G) 31 gm)] ∧ k = sz)) 0 0 (vL lo) := by
  refine vMet (R := RSp) (by decide) rfl (Nat.le_of_ble_eq_true rfl) ?_
  intro pg ev s mi args below meth cd hx hb hr hml hlk hnm hts hown hK hz hV ls hl
  have hl : lv_has ls 3 [(0, .ref sp), (1, .ref s2)] := hl
  have hV0 := hV
  obtain ⟨H, hH⟩ : ∃ H, H = s.heap := ⟨_, rfl⟩
  obtain ⟨locs, hlocs⟩ : ∃ locs : List Loc, locs = [] := ⟨_, rfl⟩
  rw [← hH, ← hlocs]
  rw [← hH] at hz
  replace hV : vS G.1 cls lo s H locs (vU V [(sp, eO 4 [.ref po, .ref me]), (po, eI (gI G) 31 fp), (me, eI (gI G) 31 fm), (s2, eO 4 [.ref p2, .ref m2]), (p2, eI (gI G) 31 gp), (m2, eI (gI G) 31 gm)]) := by rw [hH, hlocs]; exact hV
  clear hH hlocs hV0
  refine lv_iconst (v := 1) hx hb d_Sp_copyFrom_0 (by decide) ?_
  refine lv_istore_n (lv' := [(2, .int 1), (0, .ref sp), (1, .ref s2)]) hx hb d_Sp_copyFrom_1 rfl hl (by decide) rfl (fun ls hl => ?_)
  have loop : ∀ (k : Nat) (i : Nat), 30 - i < k → (i ≤ 30) → ∀ (H : Heap) (locs : List Loc) (ls : Array Slot), H.size = sz → vS G.1 cls lo s H locs (vU V [(sp, eO 4 [.ref po, .ref me]), (po, eI (gI G) 31 (cp1 gp fp i)), (me, eI (gI G) 31 (cp1 gm fm i)), (s2, eO 4 [.ref p2, .ref m2]), (p2, eI (gI G) 31 gp), (m2, eI (gI G) 31 gm)]) → lv_has ls 3 [(0, .ref sp), (1, .ref s2), (2, .int (nI (i + 1)))] → W pg l ev ({ frames := 0, cells := 0, slots := 0, locals := 0 } : Room) s mi args below meth cd H locs 0 0 (MQ below (vPost G lo (fun r V' k => r = none ∧ V' = vU V [(sp, eO 4 [.ref po, .ref me]), (po, eI (gI G) 31 (cp1 gp fp 30)), (me, eI (gI G) 31 (cp1 gm fm 30)), (s2, eO 4 [.ref p2, .ref m2]), (p2, eI (gI G) 31 gp), (m2, eI (gI G) 31 gm)] ∧ k = sz)) args s 0 0 (vL lo)) (F0 mi 2 ls []) := by
    intro k
    induction k with
    | zero => intro i hk; exact absurd hk (by omega)
    | succ k ih =>
      intro i hk hi H locs ls hz hV hl
      refine lv_iload_n hx hb d_Sp_copyFrom_2 rfl (lv_at hl 2 rfl) ?_
      refine lv_bipush (v := 30) hx hb d_Sp_copyFrom_3 (by decide) ?_
      refine lv_icmp_gt (tgt := 38) hx hb d_Sp_copyFrom_5 (by decide) (fun c_1 => ?_) (fun c_1 => ?_)
      · replace c_1 : 30 < i + 1 := (nI_ltI (a := 30) (b := i + 1) (by omega) (by omega)).mp c_1
        exact W.vret hx hb hr (v_end hV ⟨rfl, by rw [show i = 30 by omega], hz⟩) hV.2.1.2.2 d_Sp_copyFrom_38
      · replace c_1 : ¬ 30 < i + 1 := fun z9 => c_1 ((nI_ltI (a := 30) (b := i + 1) (by omega) (by omega)).mpr z9)
        refine lv_aload_n hx hb d_Sp_copyFrom_8 rfl (lv_at hl 0 rfl) ?_
        refine u_get hx hb hts inSp hown hK hV hn 0 rfl rfl 0 (by decide) w_fl_Sp_9 rfl rfl d_Sp_copyFrom_9 ?_
        refine lv_iload_n hx hb d_Sp_copyFrom_12 rfl (lv_at hl 2 rfl) ?_
        refine lv_aload_n hx hb d_Sp_copyFrom_13 rfl (lv_at hl 1 rfl) ?_
        refine u_get hx hb hts inSp hown hK hV hn 3 rfl rfl 0 (by decide) w_fl_Sp_9 rfl rfl d_Sp_copyFrom_14 ?_
        refine lv_iload_n hx hb d_Sp_copyFrom_17 rfl (lv_at hl 2 rfl) ?_
        refine u_ialdN hx hb hK hV hn 4 rfl (by omega) (by decide) d_Sp_copyFrom_18 ?_
        refine u_iastN hx hb hK hV hn 1 rfl (by omega) (by decide) d_Sp_copyFrom_19 (fun H locs hV hz9 => ?_)
        have hV : vS G.1 cls lo s H locs (vU V [(sp, eO 4 [.ref po, .ref me]), (po, eI (gI G) 31 (upd (cp1 gp fp i) (i + 1) (gp (i + 1)))), (me, eI (gI G) 31 (cp1 gm fm i)), (s2, eO 4 [.ref p2, .ref m2]), (p2, eI (gI G) 31 gp), (m2, eI (gI G) 31 gm)]) := hV
        replace hz := hz9.trans hz
        rw [cp1_s] at hV
        refine lv_aload_n hx hb d_Sp_copyFrom_20 rfl (lv_at hl 0 rfl) ?_
        refine u_get hx hb hts inSp hown hK hV hn 0 rfl rfl 1 (by decide) w_fl_Sp_15 rfl rfl d_Sp_copyFrom_21 ?_
        refine lv_iload_n hx hb d_Sp_copyFrom_24 rfl (lv_at hl 2 rfl) ?_
        refine lv_aload_n hx hb d_Sp_copyFrom_25 rfl (lv_at hl 1 rfl) ?_
        refine u_get hx hb hts inSp hown hK hV hn 3 rfl rfl 1 (by decide) w_fl_Sp_15 rfl rfl d_Sp_copyFrom_26 ?_
        refine lv_iload_n hx hb d_Sp_copyFrom_29 rfl (lv_at hl 2 rfl) ?_
        refine u_ialdN hx hb hK hV hn 5 rfl (by omega) (by decide) d_Sp_copyFrom_30 ?_
        refine u_iastN hx hb hK hV hn 2 rfl (by omega) (by decide) d_Sp_copyFrom_31 (fun H locs hV hz9 => ?_)
        have hV : vS G.1 cls lo s H locs (vU V [(sp, eO 4 [.ref po, .ref me]), (po, eI (gI G) 31 (cp1 gp fp (i + 1))), (me, eI (gI G) 31 (upd (cp1 gm fm i) (i + 1) (gm (i + 1)))), (s2, eO 4 [.ref p2, .ref m2]), (p2, eI (gI G) 31 gp), (m2, eI (gI G) 31 gm)]) := hV
        replace hz := hz9.trans hz
        rw [cp1_s] at hV
        refine lv_iinc (v := nI (i + 2)) (lv' := [(2, .int (nI (i + 2))), (0, .ref sp), (1, .ref s2)]) hx hb d_Sp_copyFrom_32 hl (k := 2) rfl (nI_add (i + 1) 1) (by decide) rfl (fun ls hl => ?_)
        refine lv_goto (tgt := 2) hx hb d_Sp_copyFrom_35 (by decide) ?_
        exact ih (i + 1) (by omega) (by omega) H locs ls hz hV (lv_sub hl [1, 2, 0] rfl)
  have hV : vS G.1 cls lo s H locs (vU V [(sp, eO 4 [.ref po, .ref me]), (po, eI (gI G) 31 (cp1 gp fp 0)), (me, eI (gI G) 31 (cp1 gm fm 0)), (s2, eO 4 [.ref p2, .ref m2]), (p2, eI (gI G) 31 gp), (m2, eI (gI G) 31 gm)]) := by rw [cp1_0, cp1_0]; exact hV
  exact loop 31 0 (by omega) (by omega) H locs ls hz hV (lv_sub hl [1, 2, 0] rfl)
