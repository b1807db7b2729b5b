theorem d_Tn_init_0 : decode b_Tn_init 0 = .ok (.aload_n 0, 1) := by decide +kernel
theorem d_Tn_init_1 : decode b_Tn_init 1 = .ok (.invokespecial 3, 3) := by decide +kernel
theorem d_Tn_init_4 : decode b_Tn_init 4 = .ok (.aload_n 0, 1) := by decide +kernel
theorem d_Tn_init_5 : decode b_Tn_init 5 = .ok (.bipush 20, 2) := by decide +kernel
theorem d_Tn_init_7 : decode b_Tn_init 7 = .ok (.newarray .int, 2) := by decide +kernel
theorem d_Tn_init_9 : decode b_Tn_init 9 = .ok (.putfield 9, 3) := by decide +kernel
theorem d_Tn_init_12 : decode b_Tn_init 12 = .ok (.aload_n 0, 1) := by decide +kernel
theorem d_Tn_init_13 : decode b_Tn_init 13 = .ok (.bipush 20, 2) := by decide +kernel
theorem d_Tn_init_15 : decode b_Tn_init 15 = .ok (.newarray .int, 2) := by decide +kernel
theorem d_Tn_init_17 : decode b_Tn_init 17 = .ok (.putfield 15, 3) := by decide +kernel
theorem d_Tn_init_20 : decode b_Tn_init 20 = .ok (.aload_n 0, 1) := by decide +kernel
theorem d_Tn_init_21 : decode b_Tn_init 21 = .ok (.bipush 20, 2) := by decide +kernel
theorem d_Tn_init_23 : decode b_Tn_init 23 = .ok (.newarray .int, 2) := by decide +kernel
theorem d_Tn_init_25 : decode b_Tn_init 25 = .ok (.putfield 18, 3) := by decide +kernel
theorem d_Tn_init_28 : decode b_Tn_init 28 = .ok (.return_, 1) := by decide +kernel
theorem d_Tn_has_0 : decode b_Tn_has 0 = .ok (.iconst 0, 1) := by decide +kernel
theorem d_Tn_has_1 : decode b_Tn_has 1 = .ok (.istore 4, 2) := by decide +kernel
theorem d_Tn_has_3 : decode b_Tn_has 3 = .ok (.iload 4, 2) := by decide +kernel
theorem d_Tn_has_5 : decode b_Tn_has 5 = .ok (.aload_n 0, 1) := by decide +kernel
theorem d_Tn_has_6 : decode b_Tn_has 6 = .ok (.getfield 21, 3) := by decide +kernel
theorem d_Tn_has_9 : decode b_Tn_has 9 = .ok (.if_icmp .ge 44, 3) := by decide +kernel
theorem d_Tn_has_12 : decode b_Tn_has 12 = .ok (.aload_n 0, 1) := by decide +kernel
theorem d_Tn_has_13 : decode b_Tn_has 13 = .ok (.getfield 9, 3) := by decide +kernel
theorem d_Tn_has_16 : decode b_Tn_has 16 = .ok (.iload 4, 2) := by decide +kernel
theorem d_Tn_has_18 : decode b_Tn_has 18 = .ok (.iaload, 1) := by decide +kernel
theorem d_Tn_has_19 : decode b_Tn_has 19 = .ok (.iload_n 1, 1) := by decide +kernel
theorem d_Tn_has_20 : decode b_Tn_has 20 = .ok (.if_icmp .ne 27, 3) := by decide +kernel
theorem d_Tn_has_23 : decode b_Tn_has 23 = .ok (.aload_n 0, 1) := by decide +kernel
theorem d_Tn_has_24 : decode b_Tn_has 24 = .ok (.getfield 15, 3) := by decide +kernel
theorem d_Tn_has_27 : decode b_Tn_has 27 = .ok (.iload 4, 2) := by decide +kernel
theorem d_Tn_has_29 : decode b_Tn_has 29 = .ok (.iaload, 1) := by decide +kernel
theorem d_Tn_has_30 : decode b_Tn_has 30 = .ok (.iload_n 2, 1) := by decide +kernel
theorem d_Tn_has_31 : decode b_Tn_has 31 = .ok (.if_icmp .ne 16, 3) := by decide +kernel
theorem d_Tn_has_34 : decode b_Tn_has 34 = .ok (.aload_n 0, 1) := by decide +kernel
theorem d_Tn_has_35 : decode b_Tn_has 35 = .ok (.getfield 18, 3) := by decide +kernel
theorem d_Tn_has_38 : decode b_Tn_has 38 = .ok (.iload 4, 2) := by decide +kernel
theorem d_Tn_has_40 : decode b_Tn_has 40 = .ok (.iaload, 1) := by decide +kernel
theorem d_Tn_has_41 : decode b_Tn_has 41 = .ok (.iload_n 3, 1) := by decide +kernel
theorem d_Tn_has_42 : decode b_Tn_has 42 = .ok (.if_icmp .ne 5, 3) := by decide +kernel
theorem d_Tn_has_45 : decode b_Tn_has 45 = .ok (.iconst 1, 1) := by decide +kernel
theorem d_Tn_has_46 : decode b_Tn_has 46 = .ok (.ireturn, 1) := by decide +kernel
theorem d_Tn_has_47 : decode b_Tn_has 47 = .ok (.iinc 4 1, 3) := by decide +kernel
theorem d_Tn_has_50 : decode b_Tn_has 50 = .ok (.goto (-47), 3) := by decide +kernel
theorem d_Tn_has_53 : decode b_Tn_has 53 = .ok (.iconst 0, 1) := by decide +kernel
theorem d_Tn_has_54 : decode b_Tn_has 54 = .ok (.ireturn, 1) := by decide +kernel
theorem d_Tn_add_0 : decode b_Tn_add 0 = .ok (.aload_n 0, 1) := by decide +kernel
theorem d_Tn_add_1 : decode b_Tn_add 1 = .ok (.iload_n 1, 1) := by decide +kernel
theorem d_Tn_add_2 : decode b_Tn_add 2 = .ok (.iload_n 2, 1) := by decide +kernel
theorem d_Tn_add_3 : decode b_Tn_add 3 = .ok (.iload_n 3, 1) := by decide +kernel
theorem d_Tn_add_4 : decode b_Tn_add 4 = .ok (.invokevirtual 25, 3) := by decide +kernel
theorem d_Tn_add_7 : decode b_Tn_add 7 = .ok (.ifCond .eq 4, 3) := by decide +kernel
theorem d_Tn_add_10 : decode b_Tn_add 10 = .ok (.return_, 1) := by decide +kernel
theorem d_Tn_add_11 : decode b_Tn_add 11 = .ok (.aload_n 0, 1) := by decide +kernel
theorem d_Tn_add_12 : decode b_Tn_add 12 = .ok (.getfield 21, 3) := by decide +kernel
theorem d_Tn_add_15 : decode b_Tn_add 15 = .ok (.bipush 20, 2) := by decide +kernel
theorem d_Tn_add_17 : decode b_Tn_add 17 = .ok (.if_icmp .lt 9, 3) := by decide +kernel
theorem d_Tn_add_20 : decode b_Tn_add 20 = .ok (.aload_n 0, 1) := by decide +kernel
theorem d_Tn_add_21 : decode b_Tn_add 21 = .ok (.iconst 1, 1) := by decide +kernel
theorem d_Tn_add_22 : decode b_Tn_add 22 = .ok (.putfield 29, 3) := by decide +kernel
theorem d_Tn_add_25 : decode b_Tn_add 25 = .ok (.return_, 1) := by decide +kernel
theorem d_Tn_add_26 : decode b_Tn_add 26 = .ok (.aload_n 0, 1) := by decide +kernel
theorem d_Tn_add_27 : decode b_Tn_add 27 = .ok (.getfield 9, 3) := by decide +kernel
theorem d_Tn_add_30 : decode b_Tn_add 30 = .ok (.aload_n 0, 1) := by decide +kernel
theorem d_Tn_add_31 : decode b_Tn_add 31 = .ok (.getfield 21, 3) := by decide +kernel
theorem d_Tn_add_34 : decode b_Tn_add 34 = .ok (.iload_n 1, 1) := by decide +kernel
theorem d_Tn_add_35 : decode b_Tn_add 35 = .ok (.iastore, 1) := by decide +kernel
theorem d_Tn_add_36 : decode b_Tn_add 36 = .ok (.aload_n 0, 1) := by decide +kernel
theorem d_Tn_add_37 : decode b_Tn_add 37 = .ok (.getfield 15, 3) := by decide +kernel
theorem d_Tn_add_40 : decode b_Tn_add 40 = .ok (.aload_n 0, 1) := by decide +kernel
theorem d_Tn_add_41 : decode b_Tn_add 41 = .ok (.getfield 21, 3) := by decide +kernel
theorem d_Tn_add_44 : decode b_Tn_add 44 = .ok (.iload_n 2, 1) := by decide +kernel
theorem d_Tn_add_45 : decode b_Tn_add 45 = .ok (.iastore, 1) := by decide +kernel
theorem d_Tn_add_46 : decode b_Tn_add 46 = .ok (.aload_n 0, 1) := by decide +kernel
theorem d_Tn_add_47 : decode b_Tn_add 47 = .ok (.getfield 18, 3) := by decide +kernel
theorem d_Tn_add_50 : decode b_Tn_add 50 = .ok (.aload_n 0, 1) := by decide +kernel
theorem d_Tn_add_51 : decode b_Tn_add 51 = .ok (.getfield 21, 3) := by decide +kernel
theorem d_Tn_add_54 : decode b_Tn_add 54 = .ok (.iload_n 3, 1) := by decide +kernel
theorem d_Tn_add_55 : decode b_Tn_add 55 = .ok (.iastore, 1) := by decide +kernel
theorem d_Tn_add_56 : decode b_Tn_add 56 = .ok (.aload_n 0, 1) := by decide +kernel
theorem d_Tn_add_57 : decode b_Tn_add 57 = .ok (.dup, 1) := by decide +kernel
theorem d_Tn_add_58 : decode b_Tn_add 58 = .ok (.getfield 21, 3) := by decide +kernel
theorem d_Tn_add_61 : decode b_Tn_add 61 = .ok (.iconst 1, 1) := by decide +kernel
theorem d_Tn_add_62 : decode b_Tn_add 62 = .ok (.iadd, 1) := by decide +kernel
theorem d_Tn_add_63 : decode b_Tn_add 63 = .ok (.putfield 21, 3) := by decide +kernel
theorem d_Tn_add_66 : decode b_Tn_add 66 = .ok (.return_, 1) := by decide +kernel
theorem d_Tn_copyFrom_0 : decode b_Tn_copyFrom 0 = .ok (.aload_n 0, 1) := by decide +kernel
theorem d_Tn_copyFrom_1 : decode b_Tn_copyFrom 1 = .ok (.aload_n 1, 1) := by decide +kernel
theorem d_Tn_copyFrom_2 : decode b_Tn_copyFrom 2 = .ok (.getfield 21, 3) := by decide +kernel
theorem d_Tn_copyFrom_5 : decode b_Tn_copyFrom 5 = .ok (.putfield 21, 3) := by decide +kernel
theorem d_Tn_copyFrom_8 : decode b_Tn_copyFrom 8 = .ok (.aload_n 0, 1) := by decide +kernel
theorem d_Tn_copyFrom_9 : decode b_Tn_copyFrom 9 = .ok (.iconst 0, 1) := by decide +kernel
theorem d_Tn_copyFrom_10 : decode b_Tn_copyFrom 10 = .ok (.putfield 29, 3) := by decide +kernel
theorem d_Tn_copyFrom_13 : decode b_Tn_copyFrom 13 = .ok (.iconst 0, 1) := by decide +kernel
theorem d_Tn_copyFrom_14 : decode b_Tn_copyFrom 14 = .ok (.istore_n 2, 1) := by decide +kernel
theorem d_Tn_copyFrom_15 : decode b_Tn_copyFrom 15 = .ok (.iload_n 2, 1) := by decide +kernel
theorem d_Tn_copyFrom_16 : decode b_Tn_copyFrom 16 = .ok (.aload_n 0, 1) := by decide +kernel
theorem d_Tn_copyFrom_17 : decode b_Tn_copyFrom 17 = .ok (.getfield 21, 3) := by decide +kernel
theorem d_Tn_copyFrom_20 : decode b_Tn_copyFrom 20 = .ok (.if_icmp .ge 45, 3) := by decide +kernel
theorem d_Tn_copyFrom_23 : decode b_Tn_copyFrom 23 = .ok (.aload_n 0, 1) := by decide +kernel
theorem d_Tn_copyFrom_24 : decode b_Tn_copyFrom 24 = .ok (.getfield 9, 3) := by decide +kernel
theorem d_Tn_copyFrom_27 : decode b_Tn_copyFrom 27 = .ok (.iload_n 2, 1) := by decide +kernel
theorem d_Tn_copyFrom_28 : decode b_Tn_copyFrom 28 = .ok (.aload_n 1, 1) := by decide +kernel
theorem d_Tn_copyFrom_29 : decode b_Tn_copyFrom 29 = .ok (.getfield 9, 3) := by decide +kernel
theorem d_Tn_copyFrom_32 : decode b_Tn_copyFrom 32 = .ok (.iload_n 2, 1) := by decide +kernel
theorem d_Tn_copyFrom_33 : decode b_Tn_copyFrom 33 = .ok (.iaload, 1) := by decide +kernel
theorem d_Tn_copyFrom_34 : decode b_Tn_copyFrom 34 = .ok (.iastore, 1) := by decide +kernel
theorem d_Tn_copyFrom_35 : decode b_Tn_copyFrom 35 = .ok (.aload_n 0, 1) := by decide +kernel
theorem d_Tn_copyFrom_36 : decode b_Tn_copyFrom 36 = .ok (.getfield 15, 3) := by decide +kernel
theorem d_Tn_copyFrom_39 : decode b_Tn_copyFrom 39 = .ok (.iload_n 2, 1) := by decide +kernel
theorem d_Tn_copyFrom_40 : decode b_Tn_copyFrom 40 = .ok (.aload_n 1, 1) := by decide +kernel
theorem d_Tn_copyFrom_41 : decode b_Tn_copyFrom 41 = .ok (.getfield 15, 3) := by decide +kernel
theorem d_Tn_copyFrom_44 : decode b_Tn_copyFrom 44 = .ok (.iload_n 2, 1) := by decide +kernel
theorem d_Tn_copyFrom_45 : decode b_Tn_copyFrom 45 = .ok (.iaload, 1) := by decide +kernel
theorem d_Tn_copyFrom_46 : decode b_Tn_copyFrom 46 = .ok (.iastore, 1) := by decide +kernel
theorem d_Tn_copyFrom_47 : decode b_Tn_copyFrom 47 = .ok (.aload_n 0, 1) := by decide +kernel
theorem d_Tn_copyFrom_48 : decode b_Tn_copyFrom 48 = .ok (.getfield 18, 3) := by decide +kernel
theorem d_Tn_copyFrom_51 : decode b_Tn_copyFrom 51 = .ok (.iload_n 2, 1) := by decide +kernel
theorem d_Tn_copyFrom_52 : decode b_Tn_copyFrom 52 = .ok (.aload_n 1, 1) := by decide +kernel
theorem d_Tn_copyFrom_53 : decode b_Tn_copyFrom 53 = .ok (.getfield 18, 3) := by decide +kernel
theorem d_Tn_copyFrom_56 : decode b_Tn_copyFrom 56 = .ok (.iload_n 2, 1) := by decide +kernel
theorem d_Tn_copyFrom_57 : decode b_Tn_copyFrom 57 = .ok (.iaload, 1) := by decide +kernel
theorem d_Tn_copyFrom_58 : decode b_Tn_copyFrom 58 = .ok (.iastore, 1) := by decide +kernel
theorem d_Tn_copyFrom_59 : decode b_Tn_copyFrom 59 = .ok (.iinc 2 1, 3) := by decide +kernel
theorem d_Tn_copyFrom_62 : decode b_Tn_copyFrom 62 = .ok (.goto (-47), 3) := by decide +kernel
theorem d_Tn_copyFrom_65 : decode b_Tn_copyFrom 65 = .ok (.return_, 1) := by decide +kernel

set_option maxHeartbeats 4000000 in
set_option maxRecDepth 100000 in
/-- Turns.has -/
theorem c_Tn_has (l : Launch) (G : Gx) (lo : Nat) (V : Vw) (sz : Nat) (tn af ao a3 : Nat) (fr ov tt : Nat → Int32) (L : List Tri) (of : Bool) (hn : [tn, af, ao, a3].Nodup) (hO : tnOk fr ov tt L) (hL : L.length ≤ 20) (a b c : Nat) (ha : a < 41) (hb1 : b < 41) (hc : c < 41) : Met l y_Tn_has ws_Tn_has ({ frames := 0, cells := 0, slots := 0, locals := 0 } : Room) (vPre G lo [.ref tn, .int (nI a), .int (nI b), .int (nI c)] (vU V [(tn, eO 6 [.ref af, .ref ao, .ref a3, .int (nI L.length), .int (b2i of)]), (af, eI (gI G) 20 fr), (ao, eI (gI G) 20 ov), (a3, eI (gI G) 20 tt)]) sz) (vPost G lo (fun r V' k => r = some (.int (b2i (decide ((a, b, c) ∈ L)))) ∧ V' = vU V [(tn, eO 6 [.ref af, .ref ao, .ref a3, .int (nI L.length), .int (b2i of)]), (af, eI (gI G) 20 fr), (ao, eI (gI G) 20 ov), (a3, eI (gI G) 20 tt)] ∧ k = sz)) 0 0 (vL lo) := by
  refine vMet (R := RTn) (by decide) rfl (Nat.le_of_ble_eq_true rfl) ?_
  intro pg ev s mi args below meth cd hx hb hr hml hlk hnm hts hown hK hz hV ls hl
  have hl : lv_has ls 5 [(0, .ref tn), (1, .int (nI a)), (2, .int (nI b)), (3, .int (nI c))] := hl
  have hV0 := hV
  obtain ⟨H, hH⟩ : ∃ H, H = s.heap := ⟨_, rfl⟩
  obtain ⟨locs, hlocs⟩ : ∃ locs : List Loc, locs = [] := ⟨_, rfl⟩
  rw [← hH, ← hlocs]
  rw [← hH] at hz
  replace hV : vS G.1 cls lo s H locs (vU V [(tn, eO 6 [.ref af, .ref ao, .ref a3, .int (nI L.length), .int (b2i of)]), (af, eI (gI G) 20 fr), (ao, eI (gI G) 20 ov), (a3, eI (gI G) 20 tt)]) := by rw [hH, hlocs]; exact hV
  clear hH hlocs hV0
  refine lv_iconst (v := 0) hx hb d_Tn_has_0 (by decide) ?_
  refine lv_istore (lv' := [(4, .int 0), (0, .ref tn), (1, .int (nI a)), (2, .int (nI b)), (3, .int (nI c))]) hx hb d_Tn_has_1 hl (by decide) rfl (fun ls hl => ?_)
  have loop : ∀ (k : Nat) (i : Nat), L.length - i < k → (i ≤ L.length) → (∀ j, j < i → ¬ L.getD j z3 = (a, b, c)) → ∀ (H : Heap) (locs : List Loc) (ls : Array Slot), H.size = sz → vS G.1 cls lo s H locs (vU V [(tn, eO 6 [.ref af, .ref ao, .ref a3, .int (nI L.length), .int (b2i of)]), (af, eI (gI G) 20 fr), (ao, eI (gI G) 20 ov), (a3, eI (gI G) 20 tt)]) → lv_has ls 5 [(0, .ref tn), (1, .int (nI a)), (2, .int (nI b)), (3, .int (nI c)), (4, .int (nI i))] → W pg l ev ({ frames := 0, cells := 0, slots := 0, locals := 0 } : Room) s mi args below meth cd H locs 0 0 (MQ below (vPost G lo (fun r V' k => r = some (.int (b2i (decide ((a, b, c) ∈ L)))) ∧ V' = vU V [(tn, eO 6 [.ref af, .ref ao, .ref a3, .int (nI L.length), .int (b2i of)]), (af, eI (gI G) 20 fr), (ao, eI (gI G) 20 ov), (a3, eI (gI G) 20 tt)] ∧ k = sz)) args s 0 0 (vL lo)) (F0 mi 3 ls []) := by
    intro k
    induction k with
    | zero => intro i hk; exact absurd hk (by omega)
    | succ k ih =>
      intro i hk hi hno H locs ls hz hV hl
      refine lv_iload hx hb d_Tn_has_3 (lv_at hl 4 rfl) ?_
      refine lv_aload_n hx hb d_Tn_has_5 rfl (lv_at hl 0 rfl) ?_
      refine u_get hx hb hts inTn hown hK hV hn 0 rfl rfl 3 (by decide) w_fl_Tn_21 rfl rfl d_Tn_has_6 ?_
      refine lv_icmp_ge (tgt := 53) hx hb d_Tn_has_9 (by decide) (fun c_1 => ?_) (fun c_1 => ?_)
      · replace c_1 : L.length ≤ i := (nI_leI (a := L.length) (b := i) (by omega) (by omega)).mp c_1
        have hE : ¬ (a, b, c) ∈ L := fun z => by
          obtain ⟨j, hj, hx9⟩ := mem_getD.mp z
          exact hno j (by omega) hx9
        refine lv_iconst (v := 0) hx hb d_Tn_has_53 (by decide) ?_
        exact W.zret (v := 0) hx hb hr (by decide) (v_end hV ⟨by rw [decide_eq_false hE]; rfl, rfl, hz⟩) hV.2.1.2.2 d_Tn_has_54
      · replace c_1 : ¬ L.length ≤ i := fun z9 => c_1 ((nI_leI (a := L.length) (b := i) (by omega) (by omega)).mpr z9)
        obtain ⟨o1, o2, o3, o4, o5, o6⟩ := hO i (by omega)
        refine lv_aload_n hx hb d_Tn_has_12 rfl (lv_at hl 0 rfl) ?_
        refine u_get hx hb hts inTn hown hK hV hn 0 rfl rfl 0 (by decide) w_fl_Tn_9 rfl rfl d_Tn_has_13 ?_
        refine lv_iload hx hb d_Tn_has_16 (lv_at hl 4 rfl) ?_
        refine u_ialdN hx hb hK hV hn 1 rfl (by omega) (by decide) d_Tn_has_18 ?_
        rw [o1]
        refine lv_iload_n hx hb d_Tn_has_19 rfl (lv_at hl 1 rfl) ?_
        refine lv_icmp_ne (tgt := 47) hx hb d_Tn_has_20 (by decide) (fun c_2 => ?_) (fun c_2 => ?_)
        · replace c_2 : ¬ (L.getD i z3).1 = a := fun z9 => c_2 ((nI_eq (a := (L.getD i z3).1) (b := a) (by omega) (by omega)).mpr z9)
          have hne : ¬ L.getD i z3 = (a, b, c) := fun z => c_2 (by rw [z])
          refine lv_iinc (v := nI (i + 1)) (lv' := [(4, .int (nI (i + 1))), (0, .ref tn), (1, .int (nI a)), (2, .int (nI b)), (3, .int (nI c))]) hx hb d_Tn_has_47 hl (k := 4) rfl (nI_add i 1) (by decide) rfl (fun ls hl => ?_)
          refine lv_goto (tgt := 3) hx hb d_Tn_has_50 (by decide) ?_
          exact ih (i + 1) (by omega) (by omega) (fun j hj => by rcases Nat.lt_or_ge j i with q | q; exact hno j q; rw [show j = i by omega]; exact hne) H locs ls hz hV (lv_sub hl [1, 2, 3, 4, 0] rfl)
        · replace c_2 : (L.getD i z3).1 = a := (nI_eq (a := (L.getD i z3).1) (b := a) (by omega) (by omega)).mp c_2
          refine lv_aload_n hx hb d_Tn_has_23 rfl (lv_at hl 0 rfl) ?_
          refine u_get hx hb hts inTn hown hK hV hn 0 rfl rfl 1 (by decide) w_fl_Tn_15 rfl rfl d_Tn_has_24 ?_
          refine lv_iload hx hb d_Tn_has_27 (lv_at hl 4 rfl) ?_
          refine u_ialdN hx hb hK hV hn 2 rfl (by omega) (by decide) d_Tn_has_29 ?_
          rw [o2]
          refine lv_iload_n hx hb d_Tn_has_30 rfl (lv_at hl 2 rfl) ?_
          refine lv_icmp_ne (tgt := 47) hx hb d_Tn_has_31 (by decide) (fun c_3 => ?_) (fun c_3 => ?_)
          · replace c_3 : ¬ (L.getD i z3).2.1 = b := fun z9 => c_3 ((nI_eq (a := (L.getD i z3).2.1) (b := b) (by omega) (by omega)).mpr z9)
            have hne : ¬ L.getD i z3 = (a, b, c) := fun z => c_3 (by rw [z])
            refine lv_iinc (v := nI (i + 1)) (lv' := [(4, .int (nI (i + 1))), (0, .ref tn), (1, .int (nI a)), (2, .int (nI b)), (3, .int (nI c))]) hx hb d_Tn_has_47 hl (k := 4) rfl (nI_add i 1) (by decide) rfl (fun ls hl => ?_)
            refine lv_goto (tgt := 3) hx hb d_Tn_has_50 (by decide) ?_
            exact ih (i + 1) (by omega) (by omega) (fun j hj => by rcases Nat.lt_or_ge j i with q | q; exact hno j q; rw [show j = i by omega]; exact hne) H locs ls hz hV (lv_sub hl [1, 2, 3, 4, 0] rfl)
          · replace c_3 : (L.getD i z3).2.1 = b := (nI_eq (a := (L.getD i z3).2.1) (b := b) (by omega) (by omega)).mp c_3
            refine lv_aload_n hx hb d_Tn_has_34 rfl (lv_at hl 0 rfl) ?_
            refine u_get hx hb hts inTn hown hK hV hn 0 rfl rfl 2 (by decide) w_fl_Tn_18 rfl rfl d_Tn_has_35 ?_
            refine lv_iload hx hb d_Tn_has_38 (lv_at hl 4 rfl) ?_
            refine u_ialdN hx hb hK hV hn 3 rfl (by omega) (by decide) d_Tn_has_40 ?_
            rw [o3]
            refine lv_iload_n hx hb d_Tn_has_41 rfl (lv_at hl 3 rfl) ?_
            refine lv_icmp_ne (tgt := 47) hx hb d_Tn_has_42 (by decide) (fun c_4 => ?_) (fun c_4 => ?_)
            · replace c_4 : ¬ (L.getD i z3).2.2 = c := fun z9 => c_4 ((nI_eq (a := (L.getD i z3).2.2) (b := c) (by omega) (by omega)).mpr z9)
              have hne : ¬ L.getD i z3 = (a, b, c) := fun z => c_4 (by rw [z])
              refine lv_iinc (v := nI (i + 1)) (lv' := [(4, .int (nI (i + 1))), (0, .ref tn), (1, .int (nI a)), (2, .int (nI b)), (3, .int (nI c))]) hx hb d_Tn_has_47 hl (k := 4) rfl (nI_add i 1) (by decide) rfl (fun ls hl => ?_)
              refine lv_goto (tgt := 3) hx hb d_Tn_has_50 (by decide) ?_
              exact ih (i + 1) (by omega) (by omega) (fun j hj => by rcases Nat.lt_or_ge j i with q | q; exact hno j q; rw [show j = i by omega]; exact hne) H locs ls hz hV (lv_sub hl [1, 2, 3, 4, 0] rfl)
            · replace c_4 : (L.getD i z3).2.2 = c := (nI_eq (a := (L.getD i z3).2.2) (b := c) (by omega) (by omega)).mp c_4
              have hE : (a, b, c) ∈ L := mem_getD.mpr ⟨i, by omega, Prod.ext c_2 (Prod.ext c_3 c_4)⟩
              refine lv_iconst (v := 1) hx hb d_Tn_has_45 (by decide) ?_
              exact W.zret (v := 1) hx hb hr (by decide) (v_end hV ⟨by rw [decide_eq_true hE]; rfl, rfl, hz⟩) hV.2.1.2.2 d_Tn_has_46
  exact loop (L.length + 1) 0 (by omega) (by omega) (fun j hj => absurd hj (by omega)) H locs ls hz hV (lv_sub hl [1, 2, 3, 4, 0] rfl)

set_option maxHeartbeats 4000000 in
set_option maxRecDepth 100000 in
/-- Turns.add -/
theorem c_Tn_add (l : Launch) (G : Gx) (lo : Nat) (V : Vw) (sz : Nat) (tn af ao a3 : Nat) (fr ov tt : Nat → Int32) (L : List Tri) (of : Bool) (hn : [tn, af, ao, a3].Nodup) (hO : tnOk fr ov tt L) (hL : L.length ≤ 20) (a b c : Nat) (ha : a < 41) (hb1 : b < 41) (hc : c < 41) : Met l y_Tn_add ws_Tn_add ({ frames := 1, cells := 0, slots := 0, locals := 24 } : Room) (vPre G lo [.ref tn, .int (nI a), .int (nI b), .int (nI c)] (vU V [(tn, eO 6 [.ref af, .ref ao, .ref a3, .int (nI L.length), .int (b2i of)]), (af, eI (gI G) 20 fr), (ao, eI (gI G) 20 ov), (a3, eI (gI G) 20 tt)]) sz) (vPost G lo (fun r V' k => r = none ∧ (∃ (fr2 ov2 tt2 : Nat → Int32) (L2 : List Tri) (of2 : Bool), V' = vU V [(tn, eO 6 [.ref af, .ref ao, .ref a3, .int (nI L2.length), .int (b2i of2)]), (af, eI (gI G) 20 fr2), (ao, eI (gI G) 20 ov2), (a3, eI (gI G) 20 tt2)] ∧ tnOk fr2 ov2 tt2 L2 ∧ (L2, of2) = tnAdd (L, of) (a, b, c)) ∧ k = sz)) 0 0 (vL lo) := by
  refine vMet (R := RTn) (by decide) rfl (Nat.le_of_ble_eq_true rfl) ?_
  intro pg ev s mi args below meth cd hx hb hr hml hlk hnm hts hown hK hz hV ls hl
  have hl : lv_has ls 4 [(0, .ref tn), (1, .int (nI a)), (2, .int (nI b)), (3, .int (nI c))] := hl
  have hV0 := hV
  obtain ⟨H, hH⟩ : ∃ H, H = s.heap := ⟨_, rfl⟩
  obtain ⟨locs, hlocs⟩ : ∃ locs : List Loc, locs = [] := ⟨_, rfl⟩
  rw [← hH, ← hlocs]
  rw [← hH] at hz
  replace hV : vS G.1 cls lo s H locs (vU V [(tn, eO 6 [.ref af, .ref ao, .ref a3, .int (nI L.length), .int (b2i of)]), (af, eI (gI G) 20 fr), (ao, eI (gI G) 20 ov), (a3, eI (gI G) 20 tt)]) := by rw [hH, hlocs]; exact hV
  clear hH hlocs hV0
  refine lv_aload_n hx hb d_Tn_add_0 rfl (lv_at hl 0 rfl) ?_
  refine lv_iload_n hx hb d_Tn_add_1 rfl (lv_at hl 1 rfl) ?_
  refine lv_iload_n hx hb d_Tn_add_2 rfl (lv_at hl 2 rfl) ?_
  refine lv_iload_n hx hb d_Tn_add_3 rfl (lv_at hl 3 rfl) ?_
  refine v_call (va_runV (As := [.int (nI a), .int (nI b), .int (nI c)]) (rest := []) ⟨hx, hb, hml, hown, hts⟩ (c_Tn_has l G lo _ _ tn af ao a3 fr ov tt L of hn hO hL a b c (by omega) (by omega) (by omega)) (kwV 3 hts w_co_Tn_has rfl rfl w_it_Tn w_ml_Tn_25 w_im_Tn_has w_se_Tn__Tn_has (by decide +kernel) ⟨by decide, by decide⟩) (u_preV hK hV hn [0, 1, 2, 3] rfl hz 0 rfl rfl) rfl rfl hl.1 rfl (lv_room (Nat.le_of_ble_eq_true rfl)) d_Tn_add_4 ⟨(Nat.le_of_ble_eq_true rfl), (Nat.le_of_ble_eq_true rfl)⟩) hV (fun r9 V9 H locs hp hV hle => ?_)
  obtain ⟨rfl, rfl, hz⟩ := hp
  replace hV := uu_same hV hn [0, 1, 2, 3] rfl
  rcases Classical.em ((a, b, c) ∈ L) with m_1 | m_1
  · have hV : vS G.1 cls lo s H locs (vU V [(tn, eO 6 [.ref af, .ref ao, .ref a3, .int (nI L.length), .int (b2i of)]), (af, eI (gI G) 20 fr), (ao, eI (gI G) 20 ov), (a3, eI (gI G) 20 tt)]) := hV
    refine W.eq (g2 := F0 mi 7 ls [.int 1]) (by rw [decide_eq_true m_1]; rfl) ?_
    refine lv_if_eq (tgt := 11) hx hb d_Tn_add_7 (by decide) (fun c_2 => absurd c_2 (by decide)) (fun _ => ?_)
    exact W.vret hx hb hr (v_end hV ⟨rfl, ⟨fr, ov, tt, L, of, rfl, hO, by simp [tnAdd, m_1]⟩, hz⟩) hV.2.1.2.2 d_Tn_add_10
  · have hV : vS G.1 cls lo s H locs (vU V [(tn, eO 6 [.ref af, .ref ao, .ref a3, .int (nI L.length), .int (b2i of)]), (af, eI (gI G) 20 fr), (ao, eI (gI G) 20 ov), (a3, eI (gI G) 20 tt)]) := hV
    refine W.eq (g2 := F0 mi 7 ls [.int 0]) (by rw [decide_eq_false m_1]; rfl) ?_
    refine lv_if_eq (tgt := 11) hx hb d_Tn_add_7 (by decide) (fun _ => ?_) (fun c_3 => absurd c_3 (by decide))
    refine lv_aload_n hx hb d_Tn_add_11 rfl (lv_at hl 0 rfl) ?_
    refine u_get hx hb hts inTn hown hK hV hn 0 rfl rfl 3 (by decide) w_fl_Tn_21 rfl rfl d_Tn_add_12 ?_
    refine lv_bipush (v := 20) hx hb d_Tn_add_15 (by decide) ?_
    refine lv_icmp_lt (tgt := 26) hx hb d_Tn_add_17 (by decide) (fun c_4 => ?_) (fun c_4 => ?_)
    · replace c_4 : L.length < 20 := (nI_ltI (a := L.length) (b := 20) (by omega) (by omega)).mp c_4
      refine lv_aload_n hx hb d_Tn_add_26 rfl (lv_at hl 0 rfl) ?_
      refine u_get hx hb hts inTn hown hK hV hn 0 rfl rfl 0 (by decide) w_fl_Tn_9 rfl rfl d_Tn_add_27 ?_
      refine lv_aload_n hx hb d_Tn_add_30 rfl (lv_at hl 0 rfl) ?_
      refine u_get hx hb hts inTn hown hK hV hn 0 rfl rfl 3 (by decide) w_fl_Tn_21 rfl rfl d_Tn_add_31 ?_
      refine lv_iload_n hx hb d_Tn_add_34 rfl (lv_at hl 1 rfl) ?_
      refine u_iastN hx hb hK hV hn 1 rfl (by omega) (by decide) d_Tn_add_35 (fun H locs hV hz9 => ?_)
      have hV : vS G.1 cls lo s H locs (vU V [(tn, eO 6 [.ref af, .ref ao, .ref a3, .int (nI L.length), .int (b2i of)]), (af, eI (gI G) 20 (upd fr L.length (nI a))), (ao, eI (gI G) 20 ov), (a3, eI (gI G) 20 tt)]) := hV
      replace hz := hz9.trans hz
      refine lv_aload_n hx hb d_Tn_add_36 rfl (lv_at hl 0 rfl) ?_
      refine u_get hx hb hts inTn hown hK hV hn 0 rfl rfl 1 (by decide) w_fl_Tn_15 rfl rfl d_Tn_add_37 ?_
      refine lv_aload_n hx hb d_Tn_add_40 rfl (lv_at hl 0 rfl) ?_
      refine u_get hx hb hts inTn hown hK hV hn 0 rfl rfl 3 (by decide) w_fl_Tn_21 rfl rfl d_Tn_add_41 ?_
      refine lv_iload_n hx hb d_Tn_add_44 rfl (lv_at hl 2 rfl) ?_
      refine u_iastN hx hb hK hV hn 2 rfl (by omega) (by decide) d_Tn_add_45 (fun H locs hV hz9 => ?_)
      have hV : vS G.1 cls lo s H locs (vU V [(tn, eO 6 [.ref af, .ref ao, .ref a3, .int (nI L.length), .int (b2i of)]), (af, eI (gI G) 20 (upd fr L.length (nI a))), (ao, eI (gI G) 20 (upd ov L.length (nI b))), (a3, eI (gI G) 20 tt)]) := hV
      replace hz := hz9.trans hz
      refine lv_aload_n hx hb d_Tn_add_46 rfl (lv_at hl 0 rfl) ?_
      refine u_get hx hb hts inTn hown hK hV hn 0 rfl rfl 2 (by decide) w_fl_Tn_18 rfl rfl d_Tn_add_47 ?_
      refine lv_aload_n hx hb d_Tn_add_50 rfl (lv_at hl 0 rfl) ?_
      refine u_get hx hb hts inTn hown hK hV hn 0 rfl rfl 3 (by decide) w_fl_Tn_21 rfl rfl d_Tn_add_51 ?_
      refine lv_iload_n hx hb d_Tn_add_54 rfl (lv_at hl 3 rfl) ?_
      refine u_iastN hx hb hK hV hn 3 rfl (by omega) (by decide) d_Tn_add_55 (fun H locs hV hz9 => ?_)
      have hV : vS G.1 cls lo s H locs (vU V [(tn, eO 6 [.ref af, .ref ao, .ref a3, .int (nI L.length), .int (b2i of)]), (af, eI (gI G) 20 (upd fr L.length (nI a))), (ao, eI (gI G) 20 (upd ov L.length (nI b))), (a3, eI (gI G) 20 (upd tt L.length (nI c)))]) := hV
      replace hz := hz9.trans hz
      refine lv_aload_n hx hb d_Tn_add_56 rfl (lv_at hl 0 rfl) ?_
      refine lv_dup hx hb d_Tn_add_57 rfl ?_
      refine u_get hx hb hts inTn hown hK hV hn 0 rfl rfl 3 (by decide) w_fl_Tn_21 rfl rfl d_Tn_add_58 ?_
      refine lv_iconst (v := 1) hx hb d_Tn_add_61 (by decide) ?_
      refine e_iadd (v := nI (L.length + 1)) hx hb d_Tn_add_62 (nI_add L.length 1) ?_
      refine u_put hx hb hts inTn tyTn tyTn_ok nmTn hown hK hV hn 0 rfl rfl 3 (by decide) w_fl_Tn_21 rfl rfl rfl rfl (Nat.le_of_ble_eq_true rfl) d_Tn_add_63 (fun H locs hV hz9 => ?_)
      have hV : vS G.1 cls lo s H locs (vU V [(tn, eO 6 [.ref af, .ref ao, .ref a3, .int (nI (L.length + 1)), .int (b2i of)]), (af, eI (gI G) 20 (upd fr L.length (nI a))), (ao, eI (gI G) 20 (upd ov L.length (nI b))), (a3, eI (gI G) 20 (upd tt L.length (nI c)))]) := hV
      replace hz := hz9.trans hz
      exact W.vret hx hb hr (v_end hV ⟨rfl, ⟨_, _, _, L ++ [(a, b, c)], of, by rw [List.length_append]; rfl, tnOk_add hO ha hb1 hc, by simp [tnAdd, m_1, show ¬ 20 ≤ L.length by omega]⟩, hz⟩) hV.2.1.2.2 d_Tn_add_66
    · replace c_4 : ¬ L.length < 20 := fun z9 => c_4 ((nI_ltI (a := L.length) (b := 20) (by omega) (by omega)).mpr z9)
      refine lv_aload_n hx hb d_Tn_add_20 rfl (lv_at hl 0 rfl) ?_
      refine lv_iconst (v := 1) hx hb d_Tn_add_21 (by decide) ?_
      refine u_put hx hb hts inTn tyTn tyTn_ok nmTn hown hK hV hn 0 rfl rfl 4 (by decide) w_fl_Tn_29 rfl rfl rfl rfl (Nat.le_of_ble_eq_true rfl) d_Tn_add_22 (fun H locs hV hz9 => ?_)
      have hV : vS G.1 cls lo s H locs (vU V [(tn, eO 6 [.ref af, .ref ao, .ref a3, .int (nI L.length), .int 1]), (af, eI (gI G) 20 fr), (ao, eI (gI G) 20 ov), (a3, eI (gI G) 20 tt)]) := hV
      replace hz := hz9.trans hz
      exact W.vret hx hb hr (v_end hV ⟨rfl, ⟨fr, ov, tt, L, true, rfl, hO, by simp [tnAdd, m_1, show 20 ≤ L.length by omega]⟩, hz⟩) hV.2.1.2.2 d_Tn_add_25

set_option maxHeartbeats 4000000 in
set_option maxRecDepth 100000 in
/-- Turns() -/
theorem c_Tn_init (l : Launch) (G : Gx) (lo : Nat) (V : Vw) (sz : Nat) (tn : Nat) (htn : tn < sz) : Met l y_Tn_init ws_Tn_init ({ frames := 1, cells := 3, slots := 60, locals := 12 } : Room) (vPre G lo [.ref tn] (vU V [(tn, eO 6 [.null, .null, .null, .int 0, .int 0])]) sz) (vPost G lo (fun r V' k => r = none ∧ V' = vU V [(sz + 2, eI (gI G) 20 (fun _ => 0)), (sz + 1, eI (gI G) 20 (fun _ => 0)), (sz, eI (gI G) 20 (fun _ => 0)), (tn, eO 6 [.ref sz, .ref (sz + 1), .ref (sz + 2), .int 0, .int 0])] ∧ k = sz + 3)) 3 60 (vL lo) := by
  refine vMet (R := RTn) (by decide) rfl (Nat.le_of_ble_eq_true rfl) ?_
  intro pg ev s mi args below meth cd hx hb hr hml hlk hnm hts hown hK hz hV ls hl
  have hl : lv_has ls 1 [(0, .ref tn)] := hl
  have hV0 := hV
  obtain ⟨H, hH⟩ : ∃ H, H = s.heap := ⟨_, rfl⟩
  obtain ⟨locs, hlocs⟩ : ∃ locs : List Loc, locs = [] := ⟨_, rfl⟩
  rw [← hH, ← hlocs]
  rw [← hH] at hz
  replace hV : vS G.1 cls lo s H locs (vU V [(tn, eO 6 [.null, .null, .null, .int 0, .int 0])]) := by rw [hH, hlocs]; exact hV
  clear hH hlocs hV0
  have hn : [tn].Nodup := by simp
  refine lv_aload_n hx hb d_Tn_init_0 rfl (lv_at hl 0 rfl) ?_
  refine W.objInit hx hb hown (hts _ w_ml_Tn_3) (hts _ w_im_Ob_init) (hts _ w_co_Ob_init) rfl (by rw [hml]; exact hl.1) rfl d_Tn_init_1 (Nat.le_of_ble_eq_true rfl) (Nat.le_of_ble_eq_true rfl) ?_
  refine W.eq (g2 := F0 mi 4 ls []) rfl ?_
  refine lv_aload_n hx hb d_Tn_init_4 rfl (lv_at hl 0 rfl) ?_
  refine lv_bipush (v := 20) hx hb d_Tn_init_5 (by decide) ?_
  refine u_newa (atype := .int) hx hb hts w_ac_int rfl hK hV 0 rfl (a0 := (20, .inl (fun _ => 0))) (fun _ => rfl) (by decide) (N' := 20) (by decide) (by decide) (Nat.le_of_ble_eq_true rfl) (Nat.le_of_ble_eq_true rfl) d_Tn_init_7 hz (fun H hV hz => ?_)
  have hV : vS G.1 cls lo s H locs (vU V [(sz, eI (gI G) 20 (fun _ => 0)), (tn, eO 6 [.null, .null, .null, .int 0, .int 0])]) := hV
  have hn : [sz, tn].Nodup := List.nodup_cons.mpr ⟨by simp only [List.mem_cons, List.not_mem_nil, or_false, not_or]; omega, hn⟩
  refine u_putF hx hb hts inTn tyTn tyTn_ok nmTn hown hK hV hn 1 rfl rfl 0 (by decide) w_fl_Tn_9 rfl rfl hnm rfl rfl rfl (Nat.le_of_ble_eq_true rfl) d_Tn_init_9 (fun H locs hV hz9 => ?_)
  have hV : vS G.1 cls lo s H locs (vU V [(sz, eI (gI G) 20 (fun _ => 0)), (tn, eO 6 [.ref sz, .null, .null, .int 0, .int 0])]) := hV
  replace hz := hz9.trans hz
  refine lv_aload_n hx hb d_Tn_init_12 rfl (lv_at hl 0 rfl) ?_
  refine lv_bipush (v := 20) hx hb d_Tn_init_13 (by decide) ?_
  refine u_newa (atype := .int) hx hb hts w_ac_int rfl hK hV 0 rfl (a0 := (20, .inl (fun _ => 0))) (fun _ => rfl) (by decide) (N' := 20) (by decide) (by decide) (Nat.le_of_ble_eq_true rfl) (Nat.le_of_ble_eq_true rfl) d_Tn_init_15 hz (fun H hV hz => ?_)
  have hV : vS G.1 cls lo s H locs (vU V [(sz + 1, eI (gI G) 20 (fun _ => 0)), (sz, eI (gI G) 20 (fun _ => 0)), (tn, eO 6 [.ref sz, .null, .null, .int 0, .int 0])]) := hV
  have hn : [sz + 1, sz, tn].Nodup := List.nodup_cons.mpr ⟨by simp only [List.mem_cons, List.not_mem_nil, or_false, not_or]; omega, hn⟩
  refine u_putF hx hb hts inTn tyTn tyTn_ok nmTn hown hK hV hn 2 rfl rfl 1 (by decide) w_fl_Tn_15 rfl rfl hnm rfl rfl rfl (Nat.le_of_ble_eq_true rfl) d_Tn_init_17 (fun H locs hV hz9 => ?_)
  have hV : vS G.1 cls lo s H locs (vU V [(sz + 1, eI (gI G) 20 (fun _ => 0)), (sz, eI (gI G) 20 (fun _ => 0)), (tn, eO 6 [.ref sz, .ref (sz + 1), .null, .int 0, .int 0])]) := hV
  replace hz := hz9.trans hz
  refine lv_aload_n hx hb d_Tn_init_20 rfl (lv_at hl 0 rfl) ?_
  refine lv_bipush (v := 20) hx hb d_Tn_init_21 (by decide) ?_
  refine u_newa (atype := .int) hx hb hts w_ac_int rfl hK hV 0 rfl (a0 := (20, .inl (fun _ => 0))) (fun _ => rfl) (by decide) (N' := 20) (by decide) (by decide) (Nat.le_of_ble_eq_true rfl) (Nat.le_of_ble_eq_true rfl) d_Tn_init_23 hz (fun H hV hz => ?_)
  have hV : vS G.1 cls lo s H locs (vU V [(sz + 2, eI (gI G) 20 (fun _ => 0)), (sz + 1, eI (gI G) 20 (fun _ => 0)), (sz, eI (gI G) 20 (fun _ => 0)), (tn, eO 6 [.ref sz, .ref (sz + 1), .null, .int 0, .int 0])]) := hV
  have hn : [sz + 2, sz + 1, sz, tn].Nodup := List.nodup_cons.mpr ⟨by simp only [List.mem_cons, List.not_mem_nil, or_false, not_or]; omega, hn⟩
  refine u_putF hx hb hts inTn tyTn tyTn_ok nmTn hown hK hV hn 3 rfl rfl 2 (by decide) w_fl_Tn_18 rfl rfl hnm rfl rfl rfl (Nat.le_of_ble_eq_true rfl) d_Tn_init_25 (fun H locs hV hz9 => ?_)
  have hV : vS G.1 cls lo s H locs (vU V [(sz + 2, eI (gI G) 20 (fun _ => 0)), (sz + 1, eI (gI G) 20 (fun _ => 0)), (sz, eI (gI G) 20 (fun _ => 0)), (tn, eO 6 [.ref sz, .ref (sz + 1), .ref (sz + 2), .int 0, .int 0])]) := hV
  replace hz := hz9.trans hz
  exact W.vret hx hb hr (v_end hV ⟨rfl, rfl, hz⟩) hV.2.1.2.2 d_Tn_init_28

/-- places below i as in g, the others as in f -/
def cp0 (g f : Nat → Int32) (i : Nat) : Nat → Int32 := fun j => if j < i then g j else f j
theorem cp0_0 (g f : Nat → Int32) : cp0 g f 0 = f := by
  funext j
  simp [cp0]
theorem cp0_s (g f : Nat → Int32) (i : Nat) : upd (cp0 g f i) i (g i) = cp0 g f (i + 1) := by
  funext j
  simp only [cp0, upd]
  by_cases h : j = i
  · subst h
    simp
  · simp only [h, if_false]
    by_cases h2 : j < i
    · rw [if_pos h2, if_pos (by omega)]
    · rw [if_neg h2, if_neg (by omega)]
theorem tnOk_cp {f1 f2 f3 g1 g2 g3 : Nat → Int32} {L : List Tri} {i : Nat} (h : tnOk g1 g2 g3 L) (hi : L.length ≤ i) : tnOk (cp0 g1 f1 i) (cp0 g2 f2 i) (cp0 g3 f3 i) L := by
  intro j hj
  have := h j hj
  simpa [cp0, show j < i by omega] using this

set_option maxHeartbeats 4000000 in
set_option maxRecDepth 100000 in
/-- Turns.copyFrom -/
theorem c_Tn_copyFrom (l : Launch) (G : Gx) (lo : Nat) (V : Vw) (sz : Nat) (tn af ao a3 t2 b1 b2 b3 : Nat) (fr ov tt g1 g2 g3 : Nat → Int32) (L L2 : List Tri) (of of2 : Bool) (hn : [tn, af, ao, a3, t2, b1, b2, b3].Nodup) (hO : tnOk g1 g2 g3 L2) (hL2 : L2.length ≤ 20) : Met l y_Tn_copyFrom ws_Tn_copyFrom ({ frames := 0, cells := 0, slots := 0, locals := 0 } : Room) (vPre G lo [.ref tn, .ref t2] (vU V [(tn, eO 6 [.ref af, .ref ao, .ref a3, .int (nI L.length), .int (b2i of)]), (af, eI (gI G) 20 fr), (ao, eI (gI G) 20 ov), (a3, eI (gI G) 20 tt), (t2, eO 6 [.ref b1, .ref b2, .ref b3, .int (nI L2.length), .int (b2i of2)]), (b1, eI (gI G) 20 g1), (b2, eI (gI G) 20 g2), (b3, eI (gI G) 20 g3)]) sz) (vPost G lo (fun r V' k => r = none ∧ (∃ f1 f2 f3 : Nat → Int32, V' = vU V [(tn, eO 6 [.ref af, .ref ao, .ref a3, .int (nI L2.length), .int (b2i false)]), (af, eI (gI G) 20 f1), (ao, eI (gI G) 20 f2), (a3, eI (gI G) 20 f3), (t2, eO 6 [.ref b1, .ref b2, .ref b3, .int (nI L2.length), .int (b2i of2)]), (b1, eI (gI G) 20 g1), (b2, eI (gI G) 20 g2), (b3, eI (gI G) 20 g3)] ∧ tnOk f1 f2 f3 L2) ∧ k = sz)) 0 0 (vL lo) := by
  refine vMet (R := RTn) (by decide) rfl (Nat.le_of_ble_eq_true rfl) ?_
  intro pg ev s mi args below meth cd hx hb hr hml hlk hnm hts hown hK hz hV ls hl
  have hl : lv_has ls 3 [(0, .ref tn), (1, .ref t2)] := hl
  have hV0 := hV
  obtain ⟨H, hH⟩ : ∃ H, H = s.heap := ⟨_, rfl⟩
  obtain ⟨locs, hlocs⟩ : ∃ locs : List Loc, locs = [] := ⟨_, rfl⟩
  rw [← hH, ← hlocs]
  rw [← hH] at hz
  replace hV : vS G.1 cls lo s H locs (vU V [(tn, eO 6 [.ref af, .ref ao, .ref a3, .int (nI L.length), .int (b2i of)]), (af, eI (gI G) 20 fr), (ao, eI (gI G) 20 ov), (a3, eI (gI G) 20 tt), (t2, eO 6 [.ref b1, .ref b2, .ref b3, .int (nI L2.length), .int (b2i of2)]), (b1, eI (gI G) 20 g1), (b2, eI (gI G) 20 g2), (b3, eI (gI G) 20 g3)]) := by rw [hH, hlocs]; exact hV
  clear hH hlocs hV0
  refine lv_aload_n hx hb d_Tn_copyFrom_0 rfl (lv_at hl 0 rfl) ?_
  refine lv_aload_n hx hb d_Tn_copyFrom_1 rfl (lv_at hl 1 rfl) ?_
  refine u_get hx hb hts inTn hown hK hV hn 4 rfl rfl 3 (by decide) w_fl_Tn_21 rfl rfl d_Tn_copyFrom_2 ?_
  refine u_put hx hb hts inTn tyTn tyTn_ok nmTn hown hK hV hn 0 rfl rfl 3 (by decide) w_fl_Tn_21 rfl rfl rfl rfl (Nat.le_of_ble_eq_true rfl) d_Tn_copyFrom_5 (fun H locs hV hz9 => ?_)
  have hV : vS G.1 cls lo s H locs (vU V [(tn, eO 6 [.ref af, .ref ao, .ref a3, .int (nI L2.length), .int (b2i of)]), (af, eI (gI G) 20 fr), (ao, eI (gI G) 20 ov), (a3, eI (gI G) 20 tt), (t2, eO 6 [.ref b1, .ref b2, .ref b3, .int (nI L2.length), .int (b2i of2)]), (b1, eI (gI G) 20 g1), (b2, eI (gI G) 20 g2), (b3, eI (gI G) 20 g3)]) := hV
  replace hz := hz9.trans hz
  refine lv_aload_n hx hb d_Tn_copyFrom_8 rfl (lv_at hl 0 rfl) ?_
  refine lv_iconst (v := 0) hx hb d_Tn_copyFrom_9 (by decide) ?_
  refine u_put hx hb hts inTn tyTn tyTn_ok nmTn hown hK hV hn 0 rfl rfl 4 (by decide) w_fl_Tn_29 rfl rfl rfl rfl (Nat.le_of_ble_eq_true rfl) d_Tn_copyFrom_10 (fun H locs hV hz9 => ?_)
  have hV : vS G.1 cls lo s H locs (vU V [(tn, eO 6 [.ref af, .ref ao, .ref a3, .int (nI L2.length), .int 0]), (af, eI (gI G) 20 fr), (ao, eI (gI G) 20 ov), (a3, eI (gI G) 20 tt), (t2, eO 6 [.ref b1, .ref b2, .ref b3, .int (nI L2.length), .int (b2i of2)]), (b1, eI (gI G) 20 g1), (b2, eI (gI G) 20 g2), (b3, eI (gI G) 20 g3)]) := hV
  replace hz := hz9.trans hz
  refine lv_iconst (v := 0) hx hb d_Tn_copyFrom_13 (by decide) ?_
  refine lv_istore_n (lv' := [(2, .int 0), (0, .ref tn), (1, .ref t2)]) hx hb d_Tn_copyFrom_14 rfl hl (by decide) rfl (fun ls hl => ?_)
  have loop : ∀ (k : Nat) (i : Nat), L2.length - i < k → (i ≤ L2.length) → ∀ (H : Heap) (locs : List Loc) (ls : Array Slot), H.size = sz → vS G.1 cls lo s H locs (vU V [(tn, eO 6 [.ref af, .ref ao, .ref a3, .int (nI L2.length), .int 0]), (af, eI (gI G) 20 (cp0 g1 fr i)), (ao, eI (gI G) 20 (cp0 g2 ov i)), (a3, eI (gI G) 20 (cp0 g3 tt i)), (t2, eO 6 [.ref b1, .ref b2, .ref b3, .int (nI L2.length), .int (b2i of2)]), (b1, eI (gI G) 20 g1), (b2, eI (gI G) 20 g2), (b3, eI (gI G) 20 g3)]) → lv_has ls 3 [(0, .ref tn), (1, .ref t2), (2, .int (nI i))] → W pg l ev ({ frames := 0, cells := 0, slots := 0, locals := 0 } : Room) s mi args below meth cd H locs 0 0 (MQ below (vPost G lo (fun r V' k => r = none ∧ (∃ f1 f2 f3 : Nat → Int32, V' = vU V [(tn, eO 6 [.ref af, .ref ao, .ref a3, .int (nI L2.length), .int (b2i false)]), (af, eI (gI G) 20 f1), (ao, eI (gI G) 20 f2), (a3, eI (gI G) 20 f3), (t2, eO 6 [.ref b1, .ref b2, .ref b3, .int (nI L2.length), .int (b2i of2)]), (b1, eI (gI G) 20 g1), (b2, eI (gI G) 20 g2), (b3, eI (gI G) 20 g3)] ∧ tnOk f1 f2 f3 L2) ∧ k = sz)) args s 0 0 (vL lo)) (F0 mi 15 ls []) := by
    intro k
    induction k with
    | zero => intro i hk; exact absurd hk (by omega)
    | succ k ih =>
      intro i hk hi H locs ls hz hV hl
      refine lv_iload_n hx hb d_Tn_copyFrom_15 rfl (lv_at hl 2 rfl) ?_
      refine lv_aload_n hx hb d_Tn_copyFrom_16 rfl (lv_at hl 0 rfl) ?_
      refine u_get hx hb hts inTn hown hK hV hn 0 rfl rfl 3 (by decide) w_fl_Tn_21 rfl rfl d_Tn_copyFrom_17 ?_
      refine lv_icmp_ge (tgt := 65) hx hb d_Tn_copyFrom_20 (by decide) (fun c_1 => ?_) (fun c_1 => ?_)
      · replace c_1 : L2.length ≤ i := (nI_leI (a := L2.length) (b := i) (by omega) (by omega)).mp c_1
        exact W.vret hx hb hr (v_end hV ⟨rfl, ⟨_, _, _, rfl, tnOk_cp hO (by omega)⟩, hz⟩) hV.2.1.2.2 d_Tn_copyFrom_65
      · replace c_1 : ¬ L2.length ≤ i := fun z9 => c_1 ((nI_leI (a := L2.length) (b := i) (by omega) (by omega)).mpr z9)
        refine lv_aload_n hx hb d_Tn_copyFrom_23 rfl (lv_at hl 0 rfl) ?_
        refine u_get hx hb hts inTn hown hK hV hn 0 rfl rfl 0 (by decide) w_fl_Tn_9 rfl rfl d_Tn_copyFrom_24 ?_
        refine lv_iload_n hx hb d_Tn_copyFrom_27 rfl (lv_at hl 2 rfl) ?_
        refine lv_aload_n hx hb d_Tn_copyFrom_28 rfl (lv_at hl 1 rfl) ?_
        refine u_get hx hb hts inTn hown hK hV hn 4 rfl rfl 0 (by decide) w_fl_Tn_9 rfl rfl d_Tn_copyFrom_29 ?_
        refine lv_iload_n hx hb d_Tn_copyFrom_32 rfl (lv_at hl 2 rfl) ?_
        refine u_ialdN hx hb hK hV hn 5 rfl (by omega) (by decide) d_Tn_copyFrom_33 ?_
        refine u_iastN hx hb hK hV hn 1 rfl (by omega) (by decide) d_Tn_copyFrom_34 (fun H locs hV hz9 => ?_)
        have hV : vS G.1 cls lo s H locs (vU V [(tn, eO 6 [.ref af, .ref ao, .ref a3, .int (nI L2.length), .int 0]), (af, eI (gI G) 20 (upd (cp0 g1 fr i) i (g1 i))), (ao, eI (gI G) 20 (cp0 g2 ov i)), (a3, eI (gI G) 20 (cp0 g3 tt i)), (t2, eO 6 [.ref b1, .ref b2, .ref b3, .int (nI L2.length), .int (b2i of2)]), (b1, eI (gI G) 20 g1), (b2, eI (gI G) 20 g2), (b3, eI (gI G) 20 g3)]) := hV
        replace hz := hz9.trans hz
        rw [cp0_s] at hV
        refine lv_aload_n hx hb d_Tn_copyFrom_35 rfl (lv_at hl 0 rfl) ?_
        refine u_get hx hb hts inTn hown hK hV hn 0 rfl rfl 1 (by decide) w_fl_Tn_15 rfl rfl d_Tn_copyFrom_36 ?_
        refine lv_iload_n hx hb d_Tn_copyFrom_39 rfl (lv_at hl 2 rfl) ?_
        refine lv_aload_n hx hb d_Tn_copyFrom_40 rfl (lv_at hl 1 rfl) ?_
        refine u_get hx hb hts inTn hown hK hV hn 4 rfl rfl 1 (by decide) w_fl_Tn_15 rfl rfl d_Tn_copyFrom_41 ?_
        refine lv_iload_n hx hb d_Tn_copyFrom_44 rfl (lv_at hl 2 rfl) ?_
        refine u_ialdN hx hb hK hV hn 6 rfl (by omega) (by decide) d_Tn_copyFrom_45 ?_
        refine u_iastN hx hb hK hV hn 2 rfl (by omega) (by decide) d_Tn_copyFrom_46 (fun H locs hV hz9 => ?_)
        have hV : vS G.1 cls lo s H locs (vU V [(tn, eO 6 [.ref af, .ref ao, .ref a3, .int (nI L2.length), .int 0]), (af, eI (gI G) 20 (cp0 g1 fr (i + 1))), (ao, eI (gI G) 20 (upd (cp0 g2 ov i) i (g2 i))), (a3, eI (gI G) 20 (cp0 g3 tt i)), (t2, eO 6 [.ref b1, .ref b2, .ref b3, .int (nI L2.length), .int (b2i of2)]), (b1, eI (gI G) 20 g1), (b2, eI (gI G) 20 g2), (b3, eI (gI G) 20 g3)]) := hV
        replace hz := hz9.trans hz
        rw [cp0_s] at hV
        refine lv_aload_n hx hb d_Tn_copyFrom_47 rfl (lv_at hl 0 rfl) ?_
        refine u_get hx hb hts inTn hown hK hV hn 0 rfl rfl 2 (by decide) w_fl_Tn_18 rfl rfl d_Tn_copyFrom_48 ?_
        refine lv_iload_n hx hb d_Tn_copyFrom_51 rfl (lv_at hl 2 rfl) ?_
        refine lv_aload_n hx hb d_Tn_copyFrom_52 rfl (lv_at hl 1 rfl) ?_
        refine u_get hx hb hts inTn hown hK hV hn 4 rfl rfl 2 (by decide) w_fl_Tn_18 rfl rfl d_Tn_copyFrom_53 ?_
        refine lv_iload_n hx hb d_Tn_copyFrom_56 rfl (lv_at hl 2 rfl) ?_
        refine u_ialdN hx hb hK hV hn 7 rfl (by omega) (by decide) d_Tn_copyFrom_57 ?_
        refine u_iastN hx hb hK hV hn 3 rfl (by omega) (by decide) d_Tn_copyFrom_58 (fun H locs hV hz9 => ?_)
        have hV : vS G.1 cls lo s H locs (vU V [(tn, eO 6 [.ref af, .ref ao, .ref a3, .int (nI L2.length), .int 0]), (af, eI (gI G) 20 (cp0 g1 fr (i + 1))), (ao, eI (gI G) 20 (cp0 g2 ov (i + 1))), (a3, eI (gI G) 20 (upd (cp0 g3 tt i) i (g3 i))), (t2, eO 6 [.ref b1, .ref b2, .ref b3, .int (nI L2.length), .int (b2i of2)]), (b1, eI (gI G) 20 g1), (b2, eI (gI G) 20 g2), (b3, eI (gI G) 20 g3)]) := hV
        replace hz := hz9.trans hz
        rw [cp0_s] at hV
        refine lv_iinc (v := nI (i + 1)) (lv' := [(2, .int (nI (i + 1))), (0, .ref tn), (1, .ref t2)]) hx hb d_Tn_copyFrom_59 hl (k := 2) rfl (nI_add i 1) (by decide) rfl (fun ls hl => ?_)
        refine lv_goto (tgt := 15) hx hb d_Tn_copyFrom_62 (by decide) ?_
        exact ih (i + 1) (by omega) (by omega) H locs ls hz hV (lv_sub hl [1, 2, 0] rfl)
  have hV : vS G.1 cls lo s H locs (vU V [(tn, eO 6 [.ref af, .ref ao, .ref a3, .int (nI L2.length), .int 0]), (af, eI (gI G) 20 (cp0 g1 fr 0)), (ao, eI (gI G) 20 (cp0 g2 ov 0)), (a3, eI (gI G) 20 (cp0 g3 tt 0)), (t2, eO 6 [.ref b1, .ref b2, .ref b3, .int (nI L2.length), .int (b2i of2)]), (b1, eI (gI G) 20 g1), (b2, eI (gI G) 20 g2), (b3, eI (gI G) 20 g3)]) := by rw [cp0_0, cp0_0, cp0_0]; exact hV
  exact loop (L2.length + 1) 0 (by omega) (by omega) H locs ls hz hV (lv_sub hl [1, 2, 0] rfl)
