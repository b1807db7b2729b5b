theorem nm_bd {o : Option (List Nat × Nat)} (h : nmV o) (i : Nat) : (nmL o).getD i 0 < 128 := by
  by_cases hi : i < (nmL o).length
  · rw [getD_in hi]
    have := (nmL_V h).2 _ (List.getElem_mem (l := nmL o) (n := i) hi)
    omega
  · rw [List.getD_eq_getElem?_getD, List.getElem?_eq_none (by omega)]; decide
theorem sameN_spec {R T : PcR} (hv : pcV R) (h : sameN R T = true) : 0 < (nmL R.2.2.2.2).length ∧ (nmL T.2.2.2.2).length = (nmL R.2.2.2.2).length ∧ nmA T.2.2.2.2 = nmA R.2.2.2.2 ∧ ∀ i, (nmL R.2.2.2.2).getD i 0 = (nmL T.2.2.2.2).getD i 0 := by
  simp only [sameN, Bool.and_eq_true, decide_eq_true_eq] at h
  rw [← h.2]
  refine ⟨?_, rfl, rfl, fun i => rfl⟩
  have h3 := hv.2.2.2.2
  obtain ⟨x, hx⟩ := Option.isSome_iff_exists.mp h.1
  rw [hx] at h3 ⊢
  exact h3.1
theorem sameN_yes {R T : PcR} (hR : pcV R) (hT : pcV T) (h1 : 0 < (nmL R.2.2.2.2).length) (h2 : (nmL T.2.2.2.2).length = (nmL R.2.2.2.2).length) (h3 : nmA T.2.2.2.2 = nmA R.2.2.2.2) (h4 : ∀ i, i < (nmL R.2.2.2.2).length → (nmL R.2.2.2.2).getD i 0 = (nmL T.2.2.2.2).getD i 0) : sameN R T = true := by
  have g1 := hR.2.2.2.2
  have g2 := hT.2.2.2.2
  rcases eR : R.2.2.2.2 with _ | ⟨a, c⟩
  · rw [eR] at h1; simp [nmL] at h1
  · rcases eT : T.2.2.2.2 with _ | ⟨b, d⟩
    · rw [eR, eT] at h2; rw [eR] at h1; simp only [nmL] at h1 h2; simp at h2; rw [← h2] at h1; simp at h1
    · rw [eR] at g1 h1
      rw [eT] at g2
      rw [eR, eT] at h2 h3 h4
      simp only [nmL, nmA] at h1 h2 h3 h4
      have e1 : d = c := (nI_eq (by have := g2.2.2.2; omega) (by have := g1.2.2.2; omega)).mp h3
      have e2 : a = b := by
        apply List.ext_getElem h2.symm
        intro i i1 i2
        have := h4 i i1
        rw [getD_in i1, getD_in i2] at this
        exact this
      simp only [sameN, eR, eT, e1, e2, Option.isSome_some, decide_true, Bool.and_self]

set_option maxHeartbeats 4000000 in
set_option maxRecDepth 100000 in
/-- hasTwin -/
theorem c_Mo_hasTwin (l : Launch) (G : Gx) (lo : Nat) (V : Vw) (sz : Nat) (m pa : Nat) (u0 u1 u2 u3 u5 u6 u7 u8 u9 u10 u11 u12 u13 u14 u15 u16 u17 u18 u19 u20 : Value) (P : Nat → Int32) (Q : Nat → Option PcR) (R : PcR) (hn : [m, pa].Nodup) (hM : mpA P Q) (j : Nat) (hj1 : 1 ≤ j) (hj2 : j ≤ 60) (hR : mpR P (29 * j) R) (hRv : pcV R) : Met l y_Mo_hasTwin ws_Mo_hasTwin ({ frames := 2, cells := 0, slots := 0, locals := 60 } : Room) (vPre G lo [.ref m, .int (nI j)] (vU V [(m, eO 8 [u0, u1, u2, u3, .ref pa, u5, u6, u7, u8, u9, u10, u11, u12, u13, u14, u15, u16, u17, u18, u19, u20]), (pa, eI (gI G) 1769 P)]) sz) (vPost G lo (fun r V' k => r = some (.int (b2i (sameQ Q R (j - 1)))) ∧ V' = vU V [(m, eO 8 [u0, u1, u2, u3, .ref pa, u5, u6, u7, u8, u9, u10, u11, u12, u13, u14, u15, u16, u17, u18, u19, u20]), (pa, eI (gI G) 1769 P)] ∧ k = sz)) 0 0 (vL lo) := by
  refine vMet (R := RMo) (by decide) rfl (Nat.le_of_ble_eq_true rfl) ?_
  intro pg ev s mi args below meth cd hx hb hr hml hlk hnm hts hown hK hz hV ls hl
  have hl : lv_has ls 7 [(0, .ref m), (1, .int (nI j))] := hl
  have hV0 := hV
  obtain ⟨H, hH⟩ : ∃ H, H = s.heap := ⟨_, rfl⟩
  obtain ⟨locs, hlocs⟩ : ∃ locs : List Loc, locs = [] := ⟨_, rfl⟩
  rw [← hH, ← hlocs]
  rw [← hH] at hz
  replace hV : vS G.1 cls lo s H locs (vU V [(m, eO 8 [u0, u1, u2, u3, .ref pa, u5, u6, u7, u8, u9, u10, u11, u12, u13, u14, u15, u16, u17, u18, u19, u20]), (pa, eI (gI G) 1769 P)]) := by rw [hH, hlocs]; exact hV
  clear hH hlocs hV0
  obtain ⟨r0, r1, r2, r3, r4, r5, r6, r7, rh, r17, r18, r19, r20, rl⟩ := hR
  have hnl := nm_len hRv.2.2.2.2
  refine lv_iload_n hx hb d_Mo_hasTwin_0 rfl (lv_at hl 1 rfl) ?_
  refine lv_bipush (v := 29) hx hb d_Mo_hasTwin_1 (by decide) ?_
  refine e_imul (v := nI (29 * j)) hx hb d_Mo_hasTwin_3 (by rw [Nat.mul_comm 29 j]; exact nI_mul j 29) ?_
  refine lv_istore_n (lv' := [(2, .int (nI (29 * j))), (0, .ref m), (1, .int (nI j))]) hx hb d_Mo_hasTwin_4 rfl hl (by decide) rfl (fun ls hl => ?_)
  refine lv_iconst (v := 1) hx hb d_Mo_hasTwin_5 (by decide) ?_
  refine lv_istore_n (lv' := [(3, .int 1), (2, .int (nI (29 * j))), (0, .ref m), (1, .int (nI j))]) hx hb d_Mo_hasTwin_6 rfl hl (by decide) rfl (fun ls hl => ?_)
  have loop : ∀ (k : Nat) (i : Nat), j - i < k → (i + 1 ≤ j) → (sameQ Q R i = false) → ∀ (H : Heap) (locs : List Loc) (ls : Array Slot), H.size = sz → vS G.1 cls lo s H locs (vU V [(m, eO 8 [u0, u1, u2, u3, .ref pa, u5, u6, u7, u8, u9, u10, u11, u12, u13, u14, u15, u16, u17, u18, u19, u20]), (pa, eI (gI G) 1769 P)]) → lv_has ls 7 [(0, .ref m), (1, .int (nI j)), (2, .int (nI (29 * j))), (3, .int (nI (i + 1)))] → W pg l ev ({ frames := 2, cells := 0, slots := 0, locals := 60 } : Room) s mi args below meth cd H locs 0 0 (MQ below (vPost G lo (fun r V' k => r = some (.int (b2i (sameQ Q R (j - 1)))) ∧ V' = vU V [(m, eO 8 [u0, u1, u2, u3, .ref pa, u5, u6, u7, u8, u9, u10, u11, u12, u13, u14, u15, u16, u17, u18, u19, u20]), (pa, eI (gI G) 1769 P)] ∧ k = sz)) args s 0 0 (vL lo)) (F0 mi 7 ls []) := by
    intro k
    induction k with
    | zero => intro i hk; exact absurd hk (by omega)
    | succ k ih =>
      intro i hk hi hno H locs ls hz hV hl
      refine lv_iload_n hx hb d_Mo_hasTwin_7 rfl (lv_at hl 3 rfl) ?_
      refine lv_iload_n hx hb d_Mo_hasTwin_8 rfl (lv_at hl 1 rfl) ?_
      refine lv_icmp_ge (tgt := 165) hx hb d_Mo_hasTwin_9 (by decide) (fun c_1 => ?_) (fun c_1 => ?_)
      · replace c_1 : j ≤ i + 1 := (nI_leI (a := j) (b := i + 1) (by omega) (by omega)).mp c_1
        refine lv_iconst (v := 0) hx hb d_Mo_hasTwin_165 (by decide) ?_
        exact W.zret (v := 0) hx hb hr (by decide) (v_end hV ⟨by rw [show j - 1 = i by omega, hno]; rfl, rfl, hz⟩) hV.2.1.2.2 d_Mo_hasTwin_166
      · replace c_1 : ¬ j ≤ i + 1 := fun z9 => c_1 ((nI_leI (a := j) (b := i + 1) (by omega) (by omega)).mpr z9)
        refine lv_iload_n hx hb d_Mo_hasTwin_12 rfl (lv_at hl 3 rfl) ?_
        refine lv_bipush (v := 29) hx hb d_Mo_hasTwin_13 (by decide) ?_
        refine e_imul (v := nI (29 * (i + 1))) hx hb d_Mo_hasTwin_15 (by rw [Nat.mul_comm 29 (i + 1)]; exact nI_mul (i + 1) 29) ?_
        refine lv_istore (lv' := [(4, .int (nI (29 * (i + 1)))), (0, .ref m), (1, .int (nI j)), (2, .int (nI (29 * j))), (3, .int (nI (i + 1)))]) hx hb d_Mo_hasTwin_16 hl (by decide) rfl (fun ls hl => ?_)
        refine lv_aload_n hx hb d_Mo_hasTwin_18 rfl (lv_at hl 1 rfl) ?_
        refine lv_iload_n hx hb d_Mo_hasTwin_19 rfl (lv_at hl 4 rfl) ?_
        refine v_call (va_runV (As := [.int (nI (i + 1))]) (rest := []) ⟨hx, hb, hml, hown, hts⟩ (c_Mo_isPiece l G lo _ _ m pa u0 u1 u2 u3 u5 u6 u7 u8 u9 u10 u11 u12 u13 u14 u15 u16 u17 u18 u19 u20 P Q hn hM (nI (i + 1))) (kwV 1 hts w_co_Mo_isPiece rfl rfl w_it_Mo w_ml_Mo_129 w_im_Mo_isPiece w_se_Mo__Mo_isPiece (by decide +kernel) ⟨(Nat.le_of_ble_eq_true rfl), (Nat.le_of_ble_eq_true rfl)⟩) (u_preV hK hV hn [0, 1] rfl hz 0 rfl rfl) rfl rfl hl.1 rfl (lv_room (Nat.le_of_ble_eq_true rfl)) d_Mo_hasTwin_20 ⟨(Nat.le_of_ble_eq_true rfl), (Nat.le_of_ble_eq_true rfl)⟩) hV (fun r9 V9 H locs hp hV hle => ?_)
        obtain ⟨rfl, rfl, hz⟩ := hp
        replace hV := uu_same hV hn [0, 1] rfl
        rcases tf ((qF Q (nI (i + 1))).isSome) with d_2 | d_2
        · obtain ⟨T, hQ, hT, hTv⟩ := mpA_s hM (j := i + 1) (by omega) (by omega) d_2
          obtain ⟨t0, t1, t2, t3, t4, t5, t6, t7, th, t17, t18, t19, t20, tl⟩ := hT
          have hnt := nm_len hTv.2.2.2.2
          have hV : vS G.1 cls lo s H locs (vU V [(m, eO 8 [u0, u1, u2, u3, .ref pa, u5, u6, u7, u8, u9, u10, u11, u12, u13, u14, u15, u16, u17, u18, u19, u20]), (pa, eI (gI G) 1769 P)]) := hV
          refine W.eq (g2 := F0 mi 23 ls [.int 1]) (by rw [d_2]; rfl) ?_
          refine lv_if_eq (tgt := 86) hx hb d_Mo_hasTwin_23 (by decide) (fun c_3 => absurd c_3 (by decide)) (fun _ => ?_)
          refine lv_aload_n hx hb d_Mo_hasTwin_26 rfl (lv_at hl 1 rfl) ?_
          refine u_get hx hb hts inMo hown hK hV hn 0 rfl rfl 4 (by decide) w_fl_Mo_17 rfl rfl d_Mo_hasTwin_27 ?_
          refine lv_iload_n hx hb d_Mo_hasTwin_30 rfl (lv_at hl 3 rfl) ?_
          refine lv_bipush (v := 20) hx hb d_Mo_hasTwin_31 (by decide) ?_
          refine e_iadd (v := nI (29 * j + 20)) hx hb d_Mo_hasTwin_33 (nI_add (29 * j) 20) ?_
          refine u_ialdN hx hb hK hV hn 1 rfl (by omega) (by decide) d_Mo_hasTwin_34 ?_
          rw [r20]
          refine lv_if_le (tgt := 86) hx hb d_Mo_hasTwin_35 (by decide) (fun c_4 => ?_) (fun c_4 => ?_)
          · replace c_4 : (nmL R.2.2.2.2).length ≤ 0 := (nI_leI (a := (nmL R.2.2.2.2).length) (b := 0) (by omega) (by omega)).mp c_4
            have hsn : sameN R T = false := by
              cases hs9 : sameN R T with
              | false => rfl
              | true => have hs8 := sameN_spec hRv hs9; exact absurd hs8.1 (by omega)
            have hno2 : sameQ Q R (i + 1) = false := by rw [sameQ_s hQ, hno, hsn]; rfl
            refine lv_iconst (v := 0) hx hb d_Mo_hasTwin_86 (by decide) ?_
            refine lv_istore (lv' := [(5, .int 0), (4, .int (nI (29 * (i + 1)))), (0, .ref m), (1, .int (nI j)), (2, .int (nI (29 * j))), (3, .int (nI (i + 1)))]) hx hb d_Mo_hasTwin_87 hl (by decide) rfl (fun ls hl => ?_)
            refine lv_iconst (v := 0) hx hb d_Mo_hasTwin_89 (by decide) ?_
            refine lv_istore (lv' := [(6, .int 0), (5, .int 0), (4, .int (nI (29 * (i + 1)))), (0, .ref m), (1, .int (nI j)), (2, .int (nI (29 * j))), (3, .int (nI (i + 1)))]) hx hb d_Mo_hasTwin_90 hl (by decide) rfl (fun ls hl => ?_)
            refine lv_iload hx hb d_Mo_hasTwin_92 (lv_at hl 0 rfl) ?_
            refine lv_aload_n hx hb d_Mo_hasTwin_94 rfl (lv_at hl 3 rfl) ?_
            refine u_get hx hb hts inMo hown hK hV hn 0 rfl rfl 4 (by decide) w_fl_Mo_17 rfl rfl d_Mo_hasTwin_95 ?_
            refine lv_iload_n hx hb d_Mo_hasTwin_98 rfl (lv_at hl 5 rfl) ?_
            refine lv_bipush (v := 20) hx hb d_Mo_hasTwin_99 (by decide) ?_
            refine e_iadd (v := nI (29 * j + 20)) hx hb d_Mo_hasTwin_101 (nI_add (29 * j) 20) ?_
            refine u_ialdN hx hb hK hV hn 1 rfl (by omega) (by decide) d_Mo_hasTwin_102 ?_
            rw [r20]
            refine lv_icmp_ge (tgt := 152) hx hb d_Mo_hasTwin_103 (by decide) (fun c_5 => ?_) (fun c_5 => ?_)
            · replace c_5 : (nmL R.2.2.2.2).length ≤ 0 := (nI_leI (a := (nmL R.2.2.2.2).length) (b := 0) (by omega) (by omega)).mp c_5
              refine lv_iload hx hb d_Mo_hasTwin_152 (lv_at hl 1 rfl) ?_
              refine lv_if_eq (tgt := 159) hx hb d_Mo_hasTwin_154 (by decide) (fun _ => ?_) (fun c_6 => absurd c_6 (by decide))
              refine lv_iinc (v := nI (i + 2)) (lv' := [(3, .int (nI (i + 2))), (6, .int 0), (5, .int 0), (4, .int (nI (29 * (i + 1)))), (0, .ref m), (1, .int (nI j)), (2, .int (nI (29 * j)))]) hx hb d_Mo_hasTwin_159 hl (k := 6) rfl (nI_add (i + 1) 1) (by decide) rfl (fun ls hl => ?_)
              refine lv_goto (tgt := 7) hx hb d_Mo_hasTwin_162 (by decide) ?_
              exact ih (i + 1) (by omega) (by omega) hno2 H locs ls hz hV (lv_sub hl [4, 5, 6, 0] rfl)
            · replace c_5 : ¬ (nmL R.2.2.2.2).length ≤ 0 := fun z9 => c_5 ((nI_leI (a := (nmL R.2.2.2.2).length) (b := 0) (by omega) (by omega)).mpr z9)
              refine lv_iload hx hb d_Mo_hasTwin_106 (lv_at hl 1 rfl) ?_
              refine lv_if_eq (tgt := 152) hx hb d_Mo_hasTwin_108 (by decide) (fun _ => ?_) (fun c_7 => absurd c_7 (by decide))
              refine lv_iload hx hb d_Mo_hasTwin_152 (lv_at hl 1 rfl) ?_
              refine lv_if_eq (tgt := 159) hx hb d_Mo_hasTwin_154 (by decide) (fun _ => ?_) (fun c_8 => absurd c_8 (by decide))
              refine lv_iinc (v := nI (i + 2)) (lv' := [(3, .int (nI (i + 2))), (6, .int 0), (5, .int 0), (4, .int (nI (29 * (i + 1)))), (0, .ref m), (1, .int (nI j)), (2, .int (nI (29 * j)))]) hx hb d_Mo_hasTwin_159 hl (k := 6) rfl (nI_add (i + 1) 1) (by decide) rfl (fun ls hl => ?_)
              refine lv_goto (tgt := 7) hx hb d_Mo_hasTwin_162 (by decide) ?_
              exact ih (i + 1) (by omega) (by omega) hno2 H locs ls hz hV (lv_sub hl [4, 5, 6, 0] rfl)
          · replace c_4 : ¬ (nmL R.2.2.2.2).length ≤ 0 := fun z9 => c_4 ((nI_leI (a := (nmL R.2.2.2.2).length) (b := 0) (by omega) (by omega)).mpr z9)
            refine lv_aload_n hx hb d_Mo_hasTwin_38 rfl (lv_at hl 1 rfl) ?_
            refine u_get hx hb hts inMo hown hK hV hn 0 rfl rfl 4 (by decide) w_fl_Mo_17 rfl rfl d_Mo_hasTwin_39 ?_
            refine lv_iload hx hb d_Mo_hasTwin_42 (lv_at hl 0 rfl) ?_
            refine lv_bipush (v := 20) hx hb d_Mo_hasTwin_44 (by decide) ?_
            refine e_iadd (v := nI (29 * (i + 1) + 20)) hx hb d_Mo_hasTwin_46 (nI_add (29 * (i + 1)) 20) ?_
            refine u_ialdN hx hb hK hV hn 1 rfl (by omega) (by decide) d_Mo_hasTwin_47 ?_
            rw [t20]
            refine lv_aload_n hx hb d_Mo_hasTwin_48 rfl (lv_at hl 1 rfl) ?_
            refine u_get hx hb hts inMo hown hK hV hn 0 rfl rfl 4 (by decide) w_fl_Mo_17 rfl rfl d_Mo_hasTwin_49 ?_
            refine lv_iload_n hx hb d_Mo_hasTwin_52 rfl (lv_at hl 3 rfl) ?_
            refine lv_bipush (v := 20) hx hb d_Mo_hasTwin_53 (by decide) ?_
            refine e_iadd (v := nI (29 * j + 20)) hx hb d_Mo_hasTwin_55 (nI_add (29 * j) 20) ?_
            refine u_ialdN hx hb hK hV hn 1 rfl (by omega) (by decide) d_Mo_hasTwin_56 ?_
            rw [r20]
            refine lv_icmp_ne (tgt := 86) hx hb d_Mo_hasTwin_57 (by decide) (fun c_9 => ?_) (fun c_9 => ?_)
            · replace c_9 : ¬ (nmL T.2.2.2.2).length = (nmL R.2.2.2.2).length := fun z9 => c_9 ((nI_eq (a := (nmL T.2.2.2.2).length) (b := (nmL R.2.2.2.2).length) (by omega) (by omega)).mpr z9)
              have hsn : sameN R T = false := by
                cases hs9 : sameN R T with
                | false => rfl
                | true => have hs8 := sameN_spec hRv hs9; exact absurd hs8.2.1 c_9
              have hno2 : sameQ Q R (i + 1) = false := by rw [sameQ_s hQ, hno, hsn]; rfl
              refine lv_iconst (v := 0) hx hb d_Mo_hasTwin_86 (by decide) ?_
              refine lv_istore (lv' := [(5, .int 0), (4, .int (nI (29 * (i + 1)))), (0, .ref m), (1, .int (nI j)), (2, .int (nI (29 * j))), (3, .int (nI (i + 1)))]) hx hb d_Mo_hasTwin_87 hl (by decide) rfl (fun ls hl => ?_)
              refine lv_iconst (v := 0) hx hb d_Mo_hasTwin_89 (by decide) ?_
              refine lv_istore (lv' := [(6, .int 0), (5, .int 0), (4, .int (nI (29 * (i + 1)))), (0, .ref m), (1, .int (nI j)), (2, .int (nI (29 * j))), (3, .int (nI (i + 1)))]) hx hb d_Mo_hasTwin_90 hl (by decide) rfl (fun ls hl => ?_)
              refine lv_iload hx hb d_Mo_hasTwin_92 (lv_at hl 0 rfl) ?_
              refine lv_aload_n hx hb d_Mo_hasTwin_94 rfl (lv_at hl 3 rfl) ?_
              refine u_get hx hb hts inMo hown hK hV hn 0 rfl rfl 4 (by decide) w_fl_Mo_17 rfl rfl d_Mo_hasTwin_95 ?_
              refine lv_iload_n hx hb d_Mo_hasTwin_98 rfl (lv_at hl 5 rfl) ?_
              refine lv_bipush (v := 20) hx hb d_Mo_hasTwin_99 (by decide) ?_
              refine e_iadd (v := nI (29 * j + 20)) hx hb d_Mo_hasTwin_101 (nI_add (29 * j) 20) ?_
              refine u_ialdN hx hb hK hV hn 1 rfl (by omega) (by decide) d_Mo_hasTwin_102 ?_
              rw [r20]
              refine lv_icmp_ge (tgt := 152) hx hb d_Mo_hasTwin_103 (by decide) (fun c_10 => ?_) (fun c_10 => ?_)
              · replace c_10 : (nmL R.2.2.2.2).length ≤ 0 := (nI_leI (a := (nmL R.2.2.2.2).length) (b := 0) (by omega) (by omega)).mp c_10
                refine lv_iload hx hb d_Mo_hasTwin_152 (lv_at hl 1 rfl) ?_
                refine lv_if_eq (tgt := 159) hx hb d_Mo_hasTwin_154 (by decide) (fun _ => ?_) (fun c_11 => absurd c_11 (by decide))
                refine lv_iinc (v := nI (i + 2)) (lv' := [(3, .int (nI (i + 2))), (6, .int 0), (5, .int 0), (4, .int (nI (29 * (i + 1)))), (0, .ref m), (1, .int (nI j)), (2, .int (nI (29 * j)))]) hx hb d_Mo_hasTwin_159 hl (k := 6) rfl (nI_add (i + 1) 1) (by decide) rfl (fun ls hl => ?_)
                refine lv_goto (tgt := 7) hx hb d_Mo_hasTwin_162 (by decide) ?_
                exact ih (i + 1) (by omega) (by omega) hno2 H locs ls hz hV (lv_sub hl [4, 5, 6, 0] rfl)
              · replace c_10 : ¬ (nmL R.2.2.2.2).length ≤ 0 := fun z9 => c_10 ((nI_leI (a := (nmL R.2.2.2.2).length) (b := 0) (by omega) (by omega)).mpr z9)
                refine lv_iload hx hb d_Mo_hasTwin_106 (lv_at hl 1 rfl) ?_
                refine lv_if_eq (tgt := 152) hx hb d_Mo_hasTwin_108 (by decide) (fun _ => ?_) (fun c_12 => absurd c_12 (by decide))
                refine lv_iload hx hb d_Mo_hasTwin_152 (lv_at hl 1 rfl) ?_
                refine lv_if_eq (tgt := 159) hx hb d_Mo_hasTwin_154 (by decide) (fun _ => ?_) (fun c_13 => absurd c_13 (by decide))
                refine lv_iinc (v := nI (i + 2)) (lv' := [(3, .int (nI (i + 2))), (6, .int 0), (5, .int 0), (4, .int (nI (29 * (i + 1)))), (0, .ref m), (1, .int (nI j)), (2, .int (nI (29 * j)))]) hx hb d_Mo_hasTwin_159 hl (k := 6) rfl (nI_add (i + 1) 1) (by decide) rfl (fun ls hl => ?_)
                refine lv_goto (tgt := 7) hx hb d_Mo_hasTwin_162 (by decide) ?_
                exact ih (i + 1) (by omega) (by omega) hno2 H locs ls hz hV (lv_sub hl [4, 5, 6, 0] rfl)
            · replace c_9 : (nmL T.2.2.2.2).length = (nmL R.2.2.2.2).length := (nI_eq (a := (nmL T.2.2.2.2).length) (b := (nmL R.2.2.2.2).length) (by omega) (by omega)).mp c_9
              have el := c_9
              refine lv_aload_n hx hb d_Mo_hasTwin_60 rfl (lv_at hl 1 rfl) ?_
              refine u_get hx hb hts inMo hown hK hV hn 0 rfl rfl 4 (by decide) w_fl_Mo_17 rfl rfl d_Mo_hasTwin_61 ?_
              refine lv_iload hx hb d_Mo_hasTwin_64 (lv_at hl 0 rfl) ?_
              refine lv_bipush (v := 19) hx hb d_Mo_hasTwin_66 (by decide) ?_
              refine e_iadd (v := nI (29 * (i + 1) + 19)) hx hb d_Mo_hasTwin_68 (nI_add (29 * (i + 1)) 19) ?_
              refine u_ialdN hx hb hK hV hn 1 rfl (by omega) (by decide) d_Mo_hasTwin_69 ?_
              rw [t19]
              refine lv_aload_n hx hb d_Mo_hasTwin_70 rfl (lv_at hl 1 rfl) ?_
              refine u_get hx hb hts inMo hown hK hV hn 0 rfl rfl 4 (by decide) w_fl_Mo_17 rfl rfl d_Mo_hasTwin_71 ?_
              refine lv_iload_n hx hb d_Mo_hasTwin_74 rfl (lv_at hl 3 rfl) ?_
              refine lv_bipush (v := 19) hx hb d_Mo_hasTwin_75 (by decide) ?_
              refine e_iadd (v := nI (29 * j + 19)) hx hb d_Mo_hasTwin_77 (nI_add (29 * j) 19) ?_
              refine u_ialdN hx hb hK hV hn 1 rfl (by omega) (by decide) d_Mo_hasTwin_78 ?_
              rw [r19]
              refine lv_icmp_ne (tgt := 86) hx hb d_Mo_hasTwin_79 (by decide) (fun c_14 => ?_) (fun c_14 => ?_)
              · have hsn : sameN R T = false := by
                  cases hs9 : sameN R T with
                  | false => rfl
                  | true => have hs8 := sameN_spec hRv hs9; exact absurd hs8.2.2.1 c_14
                have hno2 : sameQ Q R (i + 1) = false := by rw [sameQ_s hQ, hno, hsn]; rfl
                refine lv_iconst (v := 0) hx hb d_Mo_hasTwin_86 (by decide) ?_
                refine lv_istore (lv' := [(5, .int 0), (4, .int (nI (29 * (i + 1)))), (0, .ref m), (1, .int (nI j)), (2, .int (nI (29 * j))), (3, .int (nI (i + 1)))]) hx hb d_Mo_hasTwin_87 hl (by decide) rfl (fun ls hl => ?_)
                refine lv_iconst (v := 0) hx hb d_Mo_hasTwin_89 (by decide) ?_
                refine lv_istore (lv' := [(6, .int 0), (5, .int 0), (4, .int (nI (29 * (i + 1)))), (0, .ref m), (1, .int (nI j)), (2, .int (nI (29 * j))), (3, .int (nI (i + 1)))]) hx hb d_Mo_hasTwin_90 hl (by decide) rfl (fun ls hl => ?_)
                refine lv_iload hx hb d_Mo_hasTwin_92 (lv_at hl 0 rfl) ?_
                refine lv_aload_n hx hb d_Mo_hasTwin_94 rfl (lv_at hl 3 rfl) ?_
                refine u_get hx hb hts inMo hown hK hV hn 0 rfl rfl 4 (by decide) w_fl_Mo_17 rfl rfl d_Mo_hasTwin_95 ?_
                refine lv_iload_n hx hb d_Mo_hasTwin_98 rfl (lv_at hl 5 rfl) ?_
                refine lv_bipush (v := 20) hx hb d_Mo_hasTwin_99 (by decide) ?_
                refine e_iadd (v := nI (29 * j + 20)) hx hb d_Mo_hasTwin_101 (nI_add (29 * j) 20) ?_
                refine u_ialdN hx hb hK hV hn 1 rfl (by omega) (by decide) d_Mo_hasTwin_102 ?_
                rw [r20]
                refine lv_icmp_ge (tgt := 152) hx hb d_Mo_hasTwin_103 (by decide) (fun c_15 => ?_) (fun c_15 => ?_)
                · replace c_15 : (nmL R.2.2.2.2).length ≤ 0 := (nI_leI (a := (nmL R.2.2.2.2).length) (b := 0) (by omega) (by omega)).mp c_15
                  refine lv_iload hx hb d_Mo_hasTwin_152 (lv_at hl 1 rfl) ?_
                  refine lv_if_eq (tgt := 159) hx hb d_Mo_hasTwin_154 (by decide) (fun _ => ?_) (fun c_16 => absurd c_16 (by decide))
                  refine lv_iinc (v := nI (i + 2)) (lv' := [(3, .int (nI (i + 2))), (6, .int 0), (5, .int 0), (4, .int (nI (29 * (i + 1)))), (0, .ref m), (1, .int (nI j)), (2, .int (nI (29 * j)))]) hx hb d_Mo_hasTwin_159 hl (k := 6) rfl (nI_add (i + 1) 1) (by decide) rfl (fun ls hl => ?_)
                  refine lv_goto (tgt := 7) hx hb d_Mo_hasTwin_162 (by decide) ?_
                  exact ih (i + 1) (by omega) (by omega) hno2 H locs ls hz hV (lv_sub hl [4, 5, 6, 0] rfl)
                · replace c_15 : ¬ (nmL R.2.2.2.2).length ≤ 0 := fun z9 => c_15 ((nI_leI (a := (nmL R.2.2.2.2).length) (b := 0) (by omega) (by omega)).mpr z9)
                  refine lv_iload hx hb d_Mo_hasTwin_106 (lv_at hl 1 rfl) ?_
                  refine lv_if_eq (tgt := 152) hx hb d_Mo_hasTwin_108 (by decide) (fun _ => ?_) (fun c_17 => absurd c_17 (by decide))
                  refine lv_iload hx hb d_Mo_hasTwin_152 (lv_at hl 1 rfl) ?_
                  refine lv_if_eq (tgt := 159) hx hb d_Mo_hasTwin_154 (by decide) (fun _ => ?_) (fun c_18 => absurd c_18 (by decide))
                  refine lv_iinc (v := nI (i + 2)) (lv' := [(3, .int (nI (i + 2))), (6, .int 0), (5, .int 0), (4, .int (nI (29 * (i + 1)))), (0, .ref m), (1, .int (nI j)), (2, .int (nI (29 * j)))]) hx hb d_Mo_hasTwin_159 hl (k := 6) rfl (nI_add (i + 1) 1) (by decide) rfl (fun ls hl => ?_)
                  refine lv_goto (tgt := 7) hx hb d_Mo_hasTwin_162 (by decide) ?_
                  exact ih (i + 1) (by omega) (by omega) hno2 H locs ls hz hV (lv_sub hl [4, 5, 6, 0] rfl)
              · have ea := c_14
                refine lv_iconst (v := 1) hx hb d_Mo_hasTwin_82 (by decide) ?_
                refine lv_goto (tgt := 87) hx hb d_Mo_hasTwin_83 (by decide) ?_
                refine lv_istore (lv' := [(5, .int 1), (4, .int (nI (29 * (i + 1)))), (0, .ref m), (1, .int (nI j)), (2, .int (nI (29 * j))), (3, .int (nI (i + 1)))]) hx hb d_Mo_hasTwin_87 hl (by decide) rfl (fun ls hl => ?_)
                refine lv_iconst (v := 0) hx hb d_Mo_hasTwin_89 (by decide) ?_
                refine lv_istore (lv' := [(6, .int 0), (5, .int 1), (4, .int (nI (29 * (i + 1)))), (0, .ref m), (1, .int (nI j)), (2, .int (nI (29 * j))), (3, .int (nI (i + 1)))]) hx hb d_Mo_hasTwin_90 hl (by decide) rfl (fun ls hl => ?_)
                have ihO := @ih
                have inner : ∀ (k : Nat) (k0 : Nat), (nmL R.2.2.2.2).length - k0 < k → (k0 ≤ (nmL R.2.2.2.2).length) → (∀ i9, i9 < k0 → (nmL R.2.2.2.2).getD i9 0 = (nmL T.2.2.2.2).getD i9 0) → ∀ (H : Heap) (locs : List Loc) (ls : Array Slot), H.size = sz → vS G.1 cls lo s H locs (vU V [(m, eO 8 [u0, u1, u2, u3, .ref pa, u5, u6, u7, u8, u9, u10, u11, u12, u13, u14, u15, u16, u17, u18, u19, u20]), (pa, eI (gI G) 1769 P)]) → lv_has ls 7 [(0, .ref m), (1, .int (nI j)), (2, .int (nI (29 * j))), (3, .int (nI (i + 1))), (4, .int (nI (29 * (i + 1)))), (5, .int 1), (6, .int (nI k0))] → W pg l ev ({ frames := 2, cells := 0, slots := 0, locals := 60 } : Room) s mi args below meth cd H locs 0 0 (MQ below (vPost G lo (fun r V' k => r = some (.int (b2i (sameQ Q R (j - 1)))) ∧ V' = vU V [(m, eO 8 [u0, u1, u2, u3, .ref pa, u5, u6, u7, u8, u9, u10, u11, u12, u13, u14, u15, u16, u17, u18, u19, u20]), (pa, eI (gI G) 1769 P)] ∧ k = sz)) args s 0 0 (vL lo)) (F0 mi 92 ls []) := by
                  intro k
                  induction k with
                  | zero => intro k0 hk1; exact absurd hk1 (by omega)
                  | succ k ih =>
                    intro k0 hk1 hk0 hk9 H locs ls hz hV hl
                    refine lv_iload hx hb d_Mo_hasTwin_92 (lv_at hl 6 rfl) ?_
                    refine lv_aload_n hx hb d_Mo_hasTwin_94 rfl (lv_at hl 0 rfl) ?_
                    refine u_get hx hb hts inMo hown hK hV hn 0 rfl rfl 4 (by decide) w_fl_Mo_17 rfl rfl d_Mo_hasTwin_95 ?_
                    refine lv_iload_n hx hb d_Mo_hasTwin_98 rfl (lv_at hl 2 rfl) ?_
                    refine lv_bipush (v := 20) hx hb d_Mo_hasTwin_99 (by decide) ?_
                    refine e_iadd (v := nI (29 * j + 20)) hx hb d_Mo_hasTwin_101 (nI_add (29 * j) 20) ?_
                    refine u_ialdN hx hb hK hV hn 1 rfl (by omega) (by decide) d_Mo_hasTwin_102 ?_
                    rw [r20]
                    refine lv_icmp_ge (tgt := 152) hx hb d_Mo_hasTwin_103 (by decide) (fun c_19 => ?_) (fun c_19 => ?_)
                    · replace c_19 : (nmL R.2.2.2.2).length ≤ k0 := (nI_leI (a := (nmL R.2.2.2.2).length) (b := k0) (by omega) (by omega)).mp c_19
                      have hsn : sameN R T = true := sameN_yes hRv hTv (by omega) el ea (fun i9 hi9 => hk9 i9 (by omega))
                      have hy9 : sameQ Q R (i + 1) = true := by rw [sameQ_s hQ, hsn]; simp
                      refine lv_iload hx hb d_Mo_hasTwin_152 (lv_at hl 5 rfl) ?_
                      refine lv_if_eq (tgt := 159) hx hb d_Mo_hasTwin_154 (by decide) (fun c_20 => absurd c_20 (by decide)) (fun _ => ?_)
                      refine lv_iconst (v := 1) hx hb d_Mo_hasTwin_157 (by decide) ?_
                      exact W.zret (v := 1) hx hb hr (by decide) (v_end hV ⟨by rw [sameQ_mono hy9 (j - 1) (by omega)]; rfl, rfl, hz⟩) hV.2.1.2.2 d_Mo_hasTwin_158
                    · replace c_19 : ¬ (nmL R.2.2.2.2).length ≤ k0 := fun z9 => c_19 ((nI_leI (a := (nmL R.2.2.2.2).length) (b := k0) (by omega) (by omega)).mpr z9)
                      refine lv_iload hx hb d_Mo_hasTwin_106 (lv_at hl 5 rfl) ?_
                      refine lv_if_eq (tgt := 152) hx hb d_Mo_hasTwin_108 (by decide) (fun c_21 => absurd c_21 (by decide)) (fun _ => ?_)
                      refine lv_aload_n hx hb d_Mo_hasTwin_111 rfl (lv_at hl 0 rfl) ?_
                      refine u_get hx hb hts inMo hown hK hV hn 0 rfl rfl 4 (by decide) w_fl_Mo_17 rfl rfl d_Mo_hasTwin_112 ?_
                      refine lv_iload_n hx hb d_Mo_hasTwin_115 rfl (lv_at hl 2 rfl) ?_
                      refine lv_bipush (v := 21) hx hb d_Mo_hasTwin_116 (by decide) ?_
                      refine e_iadd (v := nI (29 * j + 21)) hx hb d_Mo_hasTwin_118 (nI_add (29 * j) 21) ?_
                      refine lv_iload hx hb d_Mo_hasTwin_119 (lv_at hl 6 rfl) ?_
                      refine e_iadd (v := nI (29 * j + 21 + k0)) hx hb d_Mo_hasTwin_121 (nI_add (29 * j + 21) k0) ?_
                      refine u_ialdN hx hb hK hV hn 1 rfl (by omega) (by decide) d_Mo_hasTwin_122 ?_
                      have b1 := nm_bd hRv.2.2.2.2 k0
                      have b2 := nm_bd hTv.2.2.2.2 k0
                      rw [rl k0 (by omega)]
                      refine lv_aload_n hx hb d_Mo_hasTwin_123 rfl (lv_at hl 0 rfl) ?_
                      refine u_get hx hb hts inMo hown hK hV hn 0 rfl rfl 4 (by decide) w_fl_Mo_17 rfl rfl d_Mo_hasTwin_124 ?_
                      refine lv_iload hx hb d_Mo_hasTwin_127 (lv_at hl 4 rfl) ?_
                      refine lv_bipush (v := 21) hx hb d_Mo_hasTwin_129 (by decide) ?_
                      refine e_iadd (v := nI (29 * (i + 1) + 21)) hx hb d_Mo_hasTwin_131 (nI_add (29 * (i + 1)) 21) ?_
                      refine lv_iload hx hb d_Mo_hasTwin_132 (lv_at hl 6 rfl) ?_
                      refine e_iadd (v := nI (29 * (i + 1) + 21 + k0)) hx hb d_Mo_hasTwin_134 (nI_add (29 * (i + 1) + 21) k0) ?_
                      refine u_ialdN hx hb hK hV hn 1 rfl (by omega) (by decide) d_Mo_hasTwin_135 ?_
                      rw [tl k0 (by omega)]
                      refine lv_icmp_ne (tgt := 143) hx hb d_Mo_hasTwin_136 (by decide) (fun c_22 => ?_) (fun c_22 => ?_)
                      · replace c_22 : ¬ (nmL R.2.2.2.2).getD k0 0 = (nmL T.2.2.2.2).getD k0 0 := fun z9 => c_22 ((nI_eq (a := (nmL R.2.2.2.2).getD k0 0) (b := (nmL T.2.2.2.2).getD k0 0) (by omega) (by omega)).mpr z9)
                        have hsn : sameN R T = false := by
                          cases hs9 : sameN R T with
                          | false => rfl
                          | true => have hs8 := sameN_spec hRv hs9; exact absurd (hs8.2.2.2 k0) c_22
                        have hno2 : sameQ Q R (i + 1) = false := by rw [sameQ_s hQ, hno, hsn]; rfl
                        refine lv_iconst (v := 0) hx hb d_Mo_hasTwin_143 (by decide) ?_
                        refine lv_istore (lv' := [(5, .int 0), (0, .ref m), (1, .int (nI j)), (2, .int (nI (29 * j))), (3, .int (nI (i + 1))), (4, .int (nI (29 * (i + 1)))), (6, .int (nI k0))]) hx hb d_Mo_hasTwin_144 hl (by decide) rfl (fun ls hl => ?_)
                        refine lv_iinc (v := nI (k0 + 1)) (lv' := [(6, .int (nI (k0 + 1))), (5, .int 0), (0, .ref m), (1, .int (nI j)), (2, .int (nI (29 * j))), (3, .int (nI (i + 1))), (4, .int (nI (29 * (i + 1))))]) hx hb d_Mo_hasTwin_146 hl (k := 6) rfl (nI_add k0 1) (by decide) rfl (fun ls hl => ?_)
                        refine lv_goto (tgt := 92) hx hb d_Mo_hasTwin_149 (by decide) ?_
                        refine lv_iload hx hb d_Mo_hasTwin_92 (lv_at hl 0 rfl) ?_
                        refine lv_aload_n hx hb d_Mo_hasTwin_94 rfl (lv_at hl 2 rfl) ?_
                        refine u_get hx hb hts inMo hown hK hV hn 0 rfl rfl 4 (by decide) w_fl_Mo_17 rfl rfl d_Mo_hasTwin_95 ?_
                        refine lv_iload_n hx hb d_Mo_hasTwin_98 rfl (lv_at hl 4 rfl) ?_
                        refine lv_bipush (v := 20) hx hb d_Mo_hasTwin_99 (by decide) ?_
                        refine e_iadd (v := nI (29 * j + 20)) hx hb d_Mo_hasTwin_101 (nI_add (29 * j) 20) ?_
                        refine u_ialdN hx hb hK hV hn 1 rfl (by omega) (by decide) d_Mo_hasTwin_102 ?_
                        rw [r20]
                        refine lv_icmp_ge (tgt := 152) hx hb d_Mo_hasTwin_103 (by decide) (fun c_23 => ?_) (fun c_23 => ?_)
                        · replace c_23 : (nmL R.2.2.2.2).length ≤ k0 + 1 := (nI_leI (a := (nmL R.2.2.2.2).length) (b := k0 + 1) (by omega) (by omega)).mp c_23
                          refine lv_iload hx hb d_Mo_hasTwin_152 (lv_at hl 1 rfl) ?_
                          refine lv_if_eq (tgt := 159) hx hb d_Mo_hasTwin_154 (by decide) (fun _ => ?_) (fun c_24 => absurd c_24 (by decide))
                          refine lv_iinc (v := nI (i + 2)) (lv' := [(3, .int (nI (i + 2))), (6, .int (nI (k0 + 1))), (5, .int 0), (0, .ref m), (1, .int (nI j)), (2, .int (nI (29 * j))), (4, .int (nI (29 * (i + 1))))]) hx hb d_Mo_hasTwin_159 hl (k := 5) rfl (nI_add (i + 1) 1) (by decide) rfl (fun ls hl => ?_)
                          refine lv_goto (tgt := 7) hx hb d_Mo_hasTwin_162 (by decide) ?_
                          exact ihO (i + 1) (by omega) (by omega) hno2 H locs ls hz hV (lv_sub hl [3, 4, 5, 0] rfl)
                        · replace c_23 : ¬ (nmL R.2.2.2.2).length ≤ k0 + 1 := fun z9 => c_23 ((nI_leI (a := (nmL R.2.2.2.2).length) (b := k0 + 1) (by omega) (by omega)).mpr z9)
                          refine lv_iload hx hb d_Mo_hasTwin_106 (lv_at hl 1 rfl) ?_
                          refine lv_if_eq (tgt := 152) hx hb d_Mo_hasTwin_108 (by decide) (fun _ => ?_) (fun c_25 => absurd c_25 (by decide))
                          refine lv_iload hx hb d_Mo_hasTwin_152 (lv_at hl 1 rfl) ?_
                          refine lv_if_eq (tgt := 159) hx hb d_Mo_hasTwin_154 (by decide) (fun _ => ?_) (fun c_26 => absurd c_26 (by decide))
                          refine lv_iinc (v := nI (i + 2)) (lv' := [(3, .int (nI (i + 2))), (6, .int (nI (k0 + 1))), (5, .int 0), (0, .ref m), (1, .int (nI j)), (2, .int (nI (29 * j))), (4, .int (nI (29 * (i + 1))))]) hx hb d_Mo_hasTwin_159 hl (k := 5) rfl (nI_add (i + 1) 1) (by decide) rfl (fun ls hl => ?_)
                          refine lv_goto (tgt := 7) hx hb d_Mo_hasTwin_162 (by decide) ?_
                          exact ihO (i + 1) (by omega) (by omega) hno2 H locs ls hz hV (lv_sub hl [3, 4, 5, 0] rfl)
                      · replace c_22 : (nmL R.2.2.2.2).getD k0 0 = (nmL T.2.2.2.2).getD k0 0 := (nI_eq (a := (nmL R.2.2.2.2).getD k0 0) (b := (nmL T.2.2.2.2).getD k0 0) (by omega) (by omega)).mp c_22
                        refine lv_iconst (v := 1) hx hb d_Mo_hasTwin_139 (by decide) ?_
                        refine lv_goto (tgt := 144) hx hb d_Mo_hasTwin_140 (by decide) ?_
                        refine lv_istore (lv' := [(5, .int 1), (0, .ref m), (1, .int (nI j)), (2, .int (nI (29 * j))), (3, .int (nI (i + 1))), (4, .int (nI (29 * (i + 1)))), (6, .int (nI k0))]) hx hb d_Mo_hasTwin_144 hl (by decide) rfl (fun ls hl => ?_)
                        refine lv_iinc (v := nI (k0 + 1)) (lv' := [(6, .int (nI (k0 + 1))), (5, .int 1), (0, .ref m), (1, .int (nI j)), (2, .int (nI (29 * j))), (3, .int (nI (i + 1))), (4, .int (nI (29 * (i + 1))))]) hx hb d_Mo_hasTwin_146 hl (k := 6) rfl (nI_add k0 1) (by decide) rfl (fun ls hl => ?_)
                        refine lv_goto (tgt := 92) hx hb d_Mo_hasTwin_149 (by decide) ?_
                        exact ih (k0 + 1) (by omega) (by omega) (fun i9 hi9 => by rcases Nat.lt_succ_iff_lt_or_eq.mp hi9 with z | z; exact hk9 i9 z; rw [z]; assumption) H locs ls hz hV (lv_sub hl [2, 3, 4, 5, 6, 1, 0] rfl)
                exact inner ((nmL R.2.2.2.2).length + 1) 0 (by omega) (by omega) (fun i9 hi9 => absurd hi9 (by omega)) H locs ls hz hV (lv_sub hl [3, 4, 5, 6, 2, 1, 0] rfl)
        · have hQ := mpA_n (Q := Q) (j := i + 1) (by omega) (by omega) d_2
          have hno2 : sameQ Q R (i + 1) = false := by rw [sameQ_n hQ]; exact hno
          have hV : vS G.1 cls lo s H locs (vU V [(m, eO 8 [u0, u1, u2, u3, .ref pa, u5, u6, u7, u8, u9, u10, u11, u12, u13, u14, u15, u16, u17, u18, u19, u20]), (pa, eI (gI G) 1769 P)]) := hV
          refine W.eq (g2 := F0 mi 23 ls [.int 0]) (by rw [d_2]; rfl) ?_
          refine lv_if_eq (tgt := 86) hx hb d_Mo_hasTwin_23 (by decide) (fun _ => ?_) (fun c_27 => absurd c_27 (by decide))
          refine lv_iconst (v := 0) hx hb d_Mo_hasTwin_86 (by decide) ?_
          refine lv_istore (lv' := [(5, .int 0), (4, .int (nI (29 * (i + 1)))), (0, .ref m), (1, .int (nI j)), (2, .int (nI (29 * j))), (3, .int (nI (i + 1)))]) hx hb d_Mo_hasTwin_87 hl (by decide) rfl (fun ls hl => ?_)
          refine lv_iconst (v := 0) hx hb d_Mo_hasTwin_89 (by decide) ?_
          refine lv_istore (lv' := [(6, .int 0), (5, .int 0), (4, .int (nI (29 * (i + 1)))), (0, .ref m), (1, .int (nI j)), (2, .int (nI (29 * j))), (3, .int (nI (i + 1)))]) hx hb d_Mo_hasTwin_90 hl (by decide) rfl (fun ls hl => ?_)
          refine lv_iload hx hb d_Mo_hasTwin_92 (lv_at hl 0 rfl) ?_
          refine lv_aload_n hx hb d_Mo_hasTwin_94 rfl (lv_at hl 3 rfl) ?_
          refine u_get hx hb hts inMo hown hK hV hn 0 rfl rfl 4 (by decide) w_fl_Mo_17 rfl rfl d_Mo_hasTwin_95 ?_
          refine lv_iload_n hx hb d_Mo_hasTwin_98 rfl (lv_at hl 5 rfl) ?_
          refine lv_bipush (v := 20) hx hb d_Mo_hasTwin_99 (by decide) ?_
          refine e_iadd (v := nI (29 * j + 20)) hx hb d_Mo_hasTwin_101 (nI_add (29 * j) 20) ?_
          refine u_ialdN hx hb hK hV hn 1 rfl (by omega) (by decide) d_Mo_hasTwin_102 ?_
          rw [r20]
          refine lv_icmp_ge (tgt := 152) hx hb d_Mo_hasTwin_103 (by decide) (fun c_28 => ?_) (fun c_28 => ?_)
          · replace c_28 : (nmL R.2.2.2.2).length ≤ 0 := (nI_leI (a := (nmL R.2.2.2.2).length) (b := 0) (by omega) (by omega)).mp c_28
            refine lv_iload hx hb d_Mo_hasTwin_152 (lv_at hl 1 rfl) ?_
            refine lv_if_eq (tgt := 159) hx hb d_Mo_hasTwin_154 (by decide) (fun _ => ?_) (fun c_29 => absurd c_29 (by decide))
            refine lv_iinc (v := nI (i + 2)) (lv' := [(3, .int (nI (i + 2))), (6, .int 0), (5, .int 0), (4, .int (nI (29 * (i + 1)))), (0, .ref m), (1, .int (nI j)), (2, .int (nI (29 * j)))]) hx hb d_Mo_hasTwin_159 hl (k := 6) rfl (nI_add (i + 1) 1) (by decide) rfl (fun ls hl => ?_)
            refine lv_goto (tgt := 7) hx hb d_Mo_hasTwin_162 (by decide) ?_
            exact ih (i + 1) (by omega) (by omega) hno2 H locs ls hz hV (lv_sub hl [4, 5, 6, 0] rfl)
          · replace c_28 : ¬ (nmL R.2.2.2.2).length ≤ 0 := fun z9 => c_28 ((nI_leI (a := (nmL R.2.2.2.2).length) (b := 0) (by omega) (by omega)).mpr z9)
            refine lv_iload hx hb d_Mo_hasTwin_106 (lv_at hl 1 rfl) ?_
            refine lv_if_eq (tgt := 152) hx hb d_Mo_hasTwin_108 (by decide) (fun _ => ?_) (fun c_30 => absurd c_30 (by decide))
            refine lv_iload hx hb d_Mo_hasTwin_152 (lv_at hl 1 rfl) ?_
            refine lv_if_eq (tgt := 159) hx hb d_Mo_hasTwin_154 (by decide) (fun _ => ?_) (fun c_31 => absurd c_31 (by decide))
            refine lv_iinc (v := nI (i + 2)) (lv' := [(3, .int (nI (i + 2))), (6, .int 0), (5, .int 0), (4, .int (nI (29 * (i + 1)))), (0, .ref m), (1, .int (nI j)), (2, .int (nI (29 * j)))]) hx hb d_Mo_hasTwin_159 hl (k := 6) rfl (nI_add (i + 1) 1) (by decide) rfl (fun ls hl => ?_)
            refine lv_goto (tgt := 7) hx hb d_Mo_hasTwin_162 (by decide) ?_
            exact ih (i + 1) (by omega) (by omega) hno2 H locs ls hz hV (lv_sub hl [4, 5, 6, 0] rfl)
  exact loop (j + 1) 0 (by omega) (by omega) rfl H locs ls hz hV (lv_sub hl [2, 3, 1, 0] rfl)
