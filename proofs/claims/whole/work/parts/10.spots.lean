theorem d_Sp_init_0 : decode b_Sp_init 0 = .ok (.aload_n 0, 1) := by decide +kernel
theorem d_Sp_init_1 : decode b_Sp_init 1 = .ok (.invokespecial 3, 3) := by decide +kernel
theorem d_Sp_init_4 : decode b_Sp_init 4 = .ok (.aload_n 0, 1) := by decide +kernel
theorem d_Sp_init_5 : decode b_Sp_init 5 = .ok (.bipush 31, 2) := by decide +kernel
theorem d_Sp_init_7 : decode b_Sp_init 7 = .ok (.newarray .int, 2) := by decide +kernel
theorem d_Sp_init_9 : decode b_Sp_init 9 = .ok (.putfield 9, 3) := by decide +kernel
theorem d_Sp_init_12 : decode b_Sp_init 12 = .ok (.aload_n 0, 1) := by decide +kernel
theorem d_Sp_init_13 : decode b_Sp_init 13 = .ok (.bipush 31, 2) := by decide +kernel
theorem d_Sp_init_15 : decode b_Sp_init 15 = .ok (.newarray .int, 2) := by decide +kernel
theorem d_Sp_init_17 : decode b_Sp_init 17 = .ok (.putfield 15, 3) := by decide +kernel
theorem d_Sp_init_20 : decode b_Sp_init 20 = .ok (.return_, 1) := by decide +kernel
theorem d_Sp_has_0 : decode b_Sp_has 0 = .ok (.iload_n 1, 1) := by decide +kernel
theorem d_Sp_has_1 : decode b_Sp_has 1 = .ok (.iconst 1, 1) := by decide +kernel
theorem d_Sp_has_2 : decode b_Sp_has 2 = .ok (.if_icmp .lt 22, 3) := by decide +kernel
theorem d_Sp_has_5 : decode b_Sp_has 5 = .ok (.iload_n 1, 1) := by decide +kernel
theorem d_Sp_has_6 : decode b_Sp_has 6 = .ok (.bipush 30, 2) := by decide +kernel
theorem d_Sp_has_8 : decode b_Sp_has 8 = .ok (.if_icmp .gt 16, 3) := by decide +kernel
theorem d_Sp_has_11 : decode b_Sp_has 11 = .ok (.aload_n 0, 1) := by decide +kernel
theorem d_Sp_has_12 : decode b_Sp_has 12 = .ok (.getfield 9, 3) := by decide +kernel
theorem d_Sp_has_15 : decode b_Sp_has 15 = .ok (.iload_n 1, 1) := by decide +kernel
theorem d_Sp_has_16 : decode b_Sp_has 16 = .ok (.iaload, 1) := by decide +kernel
theorem d_Sp_has_17 : decode b_Sp_has 17 = .ok (.ifCond .eq 7, 3) := by decide +kernel
theorem d_Sp_has_20 : decode b_Sp_has 20 = .ok (.iconst 1, 1) := by decide +kernel
theorem d_Sp_has_21 : decode b_Sp_has 21 = .ok (.goto 4, 3) := by decide +kernel
theorem d_Sp_has_24 : decode b_Sp_has 24 = .ok (.iconst 0, 1) := by decide +kernel
theorem d_Sp_has_25 : decode b_Sp_has 25 = .ok (.ireturn, 1) := by decide +kernel
theorem d_Sp_put_0 : decode b_Sp_put 0 = .ok (.iload_n 1, 1) := by decide +kernel
theorem d_Sp_put_1 : decode b_Sp_put 1 = .ok (.iconst 1, 1) := by decide +kernel
theorem d_Sp_put_2 : decode b_Sp_put 2 = .ok (.if_icmp .lt 23, 3) := by decide +kernel
theorem d_Sp_put_5 : decode b_Sp_put 5 = .ok (.iload_n 1, 1) := by decide +kernel
theorem d_Sp_put_6 : decode b_Sp_put 6 = .ok (.bipush 30, 2) := by decide +kernel
theorem d_Sp_put_8 : decode b_Sp_put 8 = .ok (.if_icmp .gt 17, 3) := by decide +kernel
theorem d_Sp_put_11 : decode b_Sp_put 11 = .ok (.aload_n 0, 1) := by decide +kernel
theorem d_Sp_put_12 : decode b_Sp_put 12 = .ok (.getfield 9, 3) := by decide +kernel
theorem d_Sp_put_15 : decode b_Sp_put 15 = .ok (.iload_n 1, 1) := by decide +kernel
theorem d_Sp_put_16 : decode b_Sp_put 16 = .ok (.iload_n 2, 1) := by decide +kernel
theorem d_Sp_put_17 : decode b_Sp_put 17 = .ok (.iastore, 1) := by decide +kernel
theorem d_Sp_put_18 : decode b_Sp_put 18 = .ok (.aload_n 0, 1) := by decide +kernel
theorem d_Sp_put_19 : decode b_Sp_put 19 = .ok (.getfield 15, 3) := by decide +kernel
theorem d_Sp_put_22 : decode b_Sp_put 22 = .ok (.iload_n 1, 1) := by decide +kernel
theorem d_Sp_put_23 : decode b_Sp_put 23 = .ok (.iload_n 3, 1) := by decide +kernel
theorem d_Sp_put_24 : decode b_Sp_put 24 = .ok (.iastore, 1) := by decide +kernel
theorem d_Sp_put_25 : decode b_Sp_put 25 = .ok (.return_, 1) := by decide +kernel
theorem d_Sp_size_0 : decode b_Sp_size 0 = .ok (.iconst 0, 1) := by decide +kernel
theorem d_Sp_size_1 : decode b_Sp_size 1 = .ok (.istore_n 1, 1) := by decide +kernel
theorem d_Sp_size_2 : decode b_Sp_size 2 = .ok (.iconst 1, 1) := by decide +kernel
theorem d_Sp_size_3 : decode b_Sp_size 3 = .ok (.istore_n 2, 1) := by decide +kernel
theorem d_Sp_size_4 : decode b_Sp_size 4 = .ok (.iload_n 2, 1) := by decide +kernel
theorem d_Sp_size_5 : decode b_Sp_size 5 = .ok (.bipush 30, 2) := by decide +kernel
theorem d_Sp_size_7 : decode b_Sp_size 7 = .ok (.if_icmp .gt 20, 3) := by decide +kernel
theorem d_Sp_size_10 : decode b_Sp_size 10 = .ok (.aload_n 0, 1) := by decide +kernel
theorem d_Sp_size_11 : decode b_Sp_size 11 = .ok (.iload_n 2, 1) := by decide +kernel
theorem d_Sp_size_12 : decode b_Sp_size 12 = .ok (.invokevirtual 18, 3) := by decide +kernel
theorem d_Sp_size_15 : decode b_Sp_size 15 = .ok (.ifCond .eq 6, 3) := by decide +kernel
theorem d_Sp_size_18 : decode b_Sp_size 18 = .ok (.iinc 1 1, 3) := by decide +kernel
theorem d_Sp_size_21 : decode b_Sp_size 21 = .ok (.iinc 2 1, 3) := by decide +kernel
theorem d_Sp_size_24 : decode b_Sp_size 24 = .ok (.goto (-20), 3) := by decide +kernel
theorem d_Sp_size_27 : decode b_Sp_size 27 = .ok (.iload_n 1, 1) := by decide +kernel
theorem d_Sp_size_28 : decode b_Sp_size 28 = .ok (.ireturn, 1) := by decide +kernel
theorem d_Sp_copyFrom_0 : decode b_Sp_copyFrom 0 = .ok (.iconst 1, 1) := by decide +kernel
theorem d_Sp_copyFrom_1 : decode b_Sp_copyFrom 1 = .ok (.istore_n 2, 1) := by decide +kernel
theorem d_Sp_copyFrom_2 : decode b_Sp_copyFrom 2 = .ok (.iload_n 2, 1) := by decide +kernel
theorem d_Sp_copyFrom_3 : decode b_Sp_copyFrom 3 = .ok (.bipush 30, 2) := by decide +kernel
theorem d_Sp_copyFrom_5 : decode b_Sp_copyFrom 5 = .ok (.if_icmp .gt 33, 3) := by decide +kernel
theorem d_Sp_copyFrom_8 : decode b_Sp_copyFrom 8 = .ok (.aload_n 0, 1) := by decide +kernel
theorem d_Sp_copyFrom_9 : decode b_Sp_copyFrom 9 = .ok (.getfield 9, 3) := by decide +kernel
theorem d_Sp_copyFrom_12 : decode b_Sp_copyFrom 12 = .ok (.iload_n 2, 1) := by decide +kernel
theorem d_Sp_copyFrom_13 : decode b_Sp_copyFrom 13 = .ok (.aload_n 1, 1) := by decide +kernel
theorem d_Sp_copyFrom_14 : decode b_Sp_copyFrom 14 = .ok (.getfield 9, 3) := by decide +kernel
theorem d_Sp_copyFrom_17 : decode b_Sp_copyFrom 17 = .ok (.iload_n 2, 1) := by decide +kernel
theorem d_Sp_copyFrom_18 : decode b_Sp_copyFrom 18 = .ok (.iaload, 1) := by decide +kernel
theorem d_Sp_copyFrom_19 : decode b_Sp_copyFrom 19 = .ok (.iastore, 1) := by decide +kernel
theorem d_Sp_copyFrom_20 : decode b_Sp_copyFrom 20 = .ok (.aload_n 0, 1) := by decide +kernel
theorem d_Sp_copyFrom_21 : decode b_Sp_copyFrom 21 = .ok (.getfield 15, 3) := by decide +kernel
theorem d_Sp_copyFrom_24 : decode b_Sp_copyFrom 24 = .ok (.iload_n 2, 1) := by decide +kernel
theorem d_Sp_copyFrom_25 : decode b_Sp_copyFrom 25 = .ok (.aload_n 1, 1) := by decide +kernel
theorem d_Sp_copyFrom_26 : decode b_Sp_copyFrom 26 = .ok (.getfield 15, 3) := by decide +kernel
theorem d_Sp_copyFrom_29 : decode b_Sp_copyFrom 29 = .ok (.iload_n 2, 1) := by decide +kernel
theorem d_Sp_copyFrom_30 : decode b_Sp_copyFrom 30 = .ok (.iaload, 1) := by decide +kernel
theorem d_Sp_copyFrom_31 : decode b_Sp_copyFrom 31 = .ok (.iastore, 1) := by decide +kernel
theorem d_Sp_copyFrom_32 : decode b_Sp_copyFrom 32 = .ok (.iinc 2 1, 3) := by decide +kernel
theorem d_Sp_copyFrom_35 : decode b_Sp_copyFrom 35 = .ok (.goto (-33), 3) := by decide +kernel
theorem d_Sp_copyFrom_38 : decode b_Sp_copyFrom 38 = .ok (.return_, 1) := by decide +kernel

/-- what Spots.has answers -/
def spHas (fp : Nat → Int32) (x : Int32) : Bool := decide (nI 1 ≤ x) && decide (x ≤ nI 30) && !decide (fp x.toNatClampNeg = 0)
def b2i (b : Bool) : Int32 := if b then 1 else 0
theorem b2i_nar (b : Bool) : narrow .boolean (.int (b2i b)) = .int (b2i b) := by cases b <;> decide
theorem spHas_lo {fp : Nat → Int32} {x : Int32} (h : x < nI 1) : spHas fp x = false := by
  have : ¬ nI 1 ≤ x := Int32.not_le.mpr h
  simp [spHas, this]
theorem spHas_hi {fp : Nat → Int32} {x : Int32} (h : nI 30 < x) : spHas fp x = false := by
  have : ¬ x ≤ nI 30 := Int32.not_le.mpr h
  simp [spHas, this]
theorem spHas_in {fp : Nat → Int32} {j : Nat} (h1 : 1 ≤ j) (h2 : j ≤ 30) : spHas fp (nI j) = !decide (fp j = 0) := by
  have a : nI 1 ≤ nI j := nI_le h1 (by omega)
  have b : nI j ≤ nI 30 := nI_le h2 (by omega)
  simp [spHas, a, b, nI_clamp (show j < 2 ^ 31 by omega)]

set_option maxHeartbeats 4000000 in
set_option maxRecDepth 100000 in
/-- Spots.has -/
theorem c_Sp_has (l : Launch) (G : Gx) (lo : Nat) (V : Vw) (sz : Nat) (sp po me : Nat) (fp : Nat → Int32) (x : Int32) (hn : [sp, po].Nodup) : Met l y_Sp_has ws_Sp_has ({ frames := 0, cells := 0, slots := 0, locals := 0 } : Room) (vPre G lo [.ref sp, .int x] (vU V [(sp, eO 4 [.ref po, .ref me]), (po, eI (gI G) 31 fp)]) sz) (vPost G lo (fun r V' n => r = some (.int (b2i (spHas fp x))) ∧ V' = vU V [(sp, eO 4 [.ref po, .ref me]), (po, eI (gI G) 31 fp)] ∧ n = sz)) 0 0 (vL lo) := by
  refine vMet (R := RSp) (by decide) rfl (Nat.le_of_ble_eq_true rfl) ?_
  intro p e s m args below meth c hx hb hr hml hlk hnm hts hown hK hz hV ls hl
  have hl : lv_has ls 2 [(0, .ref sp), (1, .int x)] := hl
  have hV0 := hV
  obtain ⟨H, hH⟩ : ∃ H, H = s.heap := ⟨_, rfl⟩
  obtain ⟨locs, hlocs⟩ : ∃ locs : List Loc, locs = [] := ⟨_, rfl⟩
  rw [← hH, ← hlocs]
  rw [← hH] at hz
  replace hV : vS G.1 cls lo s H locs (vU V [(sp, eO 4 [.ref po, .ref me]), (po, eI (gI G) 31 fp)]) := by rw [hH, hlocs]; exact hV
  clear hH hlocs hV0
  refine lv_iload_n hx hb d_Sp_has_0 rfl (lv_at hl 1 rfl) ?_
  refine lv_iconst (v := 1) hx hb d_Sp_has_1 (by decide) ?_
  refine lv_icmp_lt (tgt := 24) hx hb d_Sp_has_2 (by decide) (fun c_1 => ?_) (fun c_1 => ?_)
  · have hE : spHas fp x = false := spHas_lo c_1
    refine lv_iconst (v := 0) hx hb d_Sp_has_24 (by decide) ?_
    exact W.zret (v := 0) hx hb hr (by decide) (v_end hV ⟨by rw [hE]; rfl, rfl, hz⟩) hV.2.1.2.2 d_Sp_has_25
  · refine lv_iload_n hx hb d_Sp_has_5 rfl (lv_at hl 1 rfl) ?_
    refine lv_bipush (v := 30) hx hb d_Sp_has_6 (by decide) ?_
    refine lv_icmp_gt (tgt := 24) hx hb d_Sp_has_8 (by decide) (fun c_2 => ?_) (fun c_2 => ?_)
    · have hE : spHas fp x = false := spHas_hi c_2
      refine lv_iconst (v := 0) hx hb d_Sp_has_24 (by decide) ?_
      exact W.zret (v := 0) hx hb hr (by decide) (v_end hV ⟨by rw [hE]; rfl, rfl, hz⟩) hV.2.1.2.2 d_Sp_has_25
    · obtain ⟨j, hj1, hj2, rfl⟩ := nI_bd (a := 1) (b := 30) (by decide) c_1 c_2 (by decide)
      refine lv_aload_n hx hb d_Sp_has_11 rfl (lv_at hl 0 rfl) ?_
      refine u_get hx hb hts inSp hown hK hV hn 0 rfl rfl 0 (by decide) w_fl_Sp_9 rfl rfl d_Sp_has_12 ?_
      refine lv_iload_n hx hb d_Sp_has_15 rfl (lv_at hl 1 rfl) ?_
      refine u_ialdN hx hb hK hV hn 1 rfl (by omega) (by decide) d_Sp_has_16 ?_
      refine lv_if_eq (tgt := 24) hx hb d_Sp_has_17 (by decide) (fun c_3 => ?_) (fun c_3 => ?_)
      · have hE : spHas fp (nI j) = false := by rw [spHas_in hj1 hj2]; simp [c_3]
        refine lv_iconst (v := 0) hx hb d_Sp_has_24 (by decide) ?_
        exact W.zret (v := 0) hx hb hr (by decide) (v_end hV ⟨by rw [hE]; rfl, rfl, hz⟩) hV.2.1.2.2 d_Sp_has_25
      · have hE : spHas fp (nI j) = true := by rw [spHas_in hj1 hj2]; simp [c_3]
        refine lv_iconst (v := 1) hx hb d_Sp_has_20 (by decide) ?_
        refine lv_goto (tgt := 25) hx hb d_Sp_has_21 (by decide) ?_
        exact W.zret (v := 1) hx hb hr (by decide) (v_end hV ⟨by rw [hE]; rfl, rfl, hz⟩) hV.2.1.2.2 d_Sp_has_25
