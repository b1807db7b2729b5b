theorem qF_some {Q : Nat → Option PcR} {x : Int32} (h : (qF Q x).isSome = true) : ∃ (j : Nat) (R : PcR), 1 ≤ j ∧ j ≤ 60 ∧ x = nI j ∧ Q j = some R ∧ qF Q x = some R := by
  obtain ⟨R, hR⟩ := Option.isSome_iff_exists.mp h
  have h2 := hR
  unfold qF at h2
  by_cases hx : nI 1 ≤ x ∧ x ≤ nI 60
  · rw [if_pos hx] at h2
    obtain ⟨j, h1, h3, rfl⟩ := nI_bd (a := 1) (b := 60) (by decide) (Int32.not_lt.mpr hx.1) (Int32.not_lt.mpr hx.2) (by decide)
    rw [nI_clamp (by omega)] at h2
    exact ⟨j, R, h1, h3, rfl, h2, hR⟩
  · rw [if_neg hx] at h2; cases h2
theorem mpA_at {P : Nat → Int32} {Q : Nat → Option PcR} {j : Nat} {R : PcR} (hM : mpA P Q) (h1 : 1 ≤ j) (h2 : j ≤ 60) (hQ : Q j = some R) : mpR P (29 * j) R ∧ pcV R := by
  rcases hM j h1 h2 with ⟨-, h⟩ | ⟨R2, h, g1, g2⟩
  · rw [hQ] at h; cases h
  · rw [hQ] at h; cases h; exact ⟨g1, g2⟩
theorem spd_nx {own h : Nat} {hs : List Tri} {i : Nat} (hi : i < hs.length) (hn : ¬ ((hs.getD i z3).1 ≤ h ∧ h ≤ (hs.getD i z3).2.1)) : spd own (hs.drop i) h = spd own (hs.drop (i + 1)) h := by
  rw [List.drop_eq_getElem_cons hi]
  have e : hs.getD i z3 = hs[i] := by rw [List.getD_eq_getElem?_getD, List.getElem?_eq_getElem hi]; rfl
  rw [e] at hn
  show (if _ then _ else _) = _
  rw [if_neg hn]
theorem spd_yes {own h : Nat} {hs : List Tri} {i : Nat} (hi : i < hs.length) (hn : (hs.getD i z3).1 ≤ h ∧ h ≤ (hs.getD i z3).2.1) : spd own (hs.drop i) h = (hs.getD i z3).2.2 := by
  rw [List.drop_eq_getElem_cons hi]
  have e : hs.getD i z3 = hs[i] := by rw [List.getD_eq_getElem?_getD, List.getElem?_eq_getElem hi]; rfl
  rw [e] at hn ⊢
  show (if _ then _ else _) = _
  rw [if_pos hn]
theorem hrV_at {hs : List Tri} (h : hrV hs) {i : Nat} (hi : i < hs.length) : (hs.getD i z3).1 ≤ 23 ∧ (hs.getD i z3).2.1 ≤ 23 ∧ 1 ≤ (hs.getD i z3).2.2 ∧ (hs.getD i z3).2.2 ≤ 99 := h.2 i hi
theorem nm_len {o : Option (List Nat × Nat)} (h : nmV o) : (nmL o).length ≤ 8 := by
  cases o with
  | none => exact Nat.zero_le _
  | some x => exact h.2.1

set_option maxHeartbeats 4000000 in
set_option maxRecDepth 100000 in
/-- piece -/
theorem c_Mo_piece (l : Launch) (G : Gx) (lo : Nat) (V : Vw) (sz : Nat) (m pa : Nat) (u1 u2 u3 u5 u6 u7 u8 u9 u10 u11 u12 u13 u14 u15 u16 u17 u18 u19 u20 : Value) (th : Value) (P : Nat → Int32) (Q : Nat → Option PcR) (hn : [m, pa].Nodup) (hM : mpA P Q) (y wh : Int32) : Met l y_Mo_piece ws_Mo_piece ({ frames := 2, cells := 0, slots := 0, locals := 60 } : Room) (vPre G lo [.ref m, .int y, .int wh] (vU V [(m, eO 8 [th, u1, u2, u3, .ref pa, u5, u6, u7, u8, u9, u10, u11, u12, u13, u14, u15, u16, u17, u18, u19, u20]), (pa, eI (gI G) 1769 P)]) sz) (vPost G lo (fun r V' k => r = some (.int (vaI (pieR Q y wh))) ∧ V' = vU V [(m, eO 8 [.int (thI (pieR Q y wh)), u1, u2, u3, .ref pa, u5, u6, u7, u8, u9, u10, u11, u12, u13, u14, u15, u16, u17, u18, u19, u20]), (pa, eI (gI G) 1769 P)] ∧ k = sz)) 0 0 (vL lo) := by
  refine vMet (R := RMo) (by decide) rfl (Nat.le_of_ble_eq_true rfl) ?_
  intro pg ev s mi args below meth cd hx hb hr hml hlk hnm hts hown hK hz hV ls hl
  have hl : lv_has ls 4 [(0, .ref m), (1, .int y), (2, .int wh)] := hl
  have hV0 := hV
  obtain ⟨H, hH⟩ : ∃ H, H = s.heap := ⟨_, rfl⟩
  obtain ⟨locs, hlocs⟩ : ∃ locs : List Loc, locs = [] := ⟨_, rfl⟩
  rw [← hH, ← hlocs]
  rw [← hH] at hz
  replace hV : vS G.1 cls lo s H locs (vU V [(m, eO 8 [th, u1, u2, u3, .ref pa, u5, u6, u7, u8, u9, u10, u11, u12, u13, u14, u15, u16, u17, u18, u19, u20]), (pa, eI (gI G) 1769 P)]) := by rw [hH, hlocs]; exact hV
  clear hH hlocs hV0
  refine lv_aload_n hx hb d_Mo_piece_0 rfl (lv_at hl 0 rfl) ?_
  refine lv_aload_n hx hb d_Mo_piece_1 rfl (lv_at hl 0 rfl) ?_
  refine lv_iload_n hx hb d_Mo_piece_2 rfl (lv_at hl 1 rfl) ?_
  refine v_call (va_runV (As := [.int y]) (rest := [.ref m]) ⟨hx, hb, hml, hown, hts⟩ (c_Mo_isPiece l G lo _ _ m pa th u1 u2 u3 u5 u6 u7 u8 u9 u10 u11 u12 u13 u14 u15 u16 u17 u18 u19 u20 P Q hn hM y) (kwV 1 hts w_co_Mo_isPiece rfl rfl w_it_Mo w_ml_Mo_129 w_im_Mo_isPiece w_se_Mo__Mo_isPiece (by decide +kernel) ⟨(Nat.le_of_ble_eq_true rfl), (Nat.le_of_ble_eq_true rfl)⟩) (u_preV hK hV hn [0, 1] rfl hz 0 rfl rfl) rfl rfl hl.1 rfl (lv_room (Nat.le_of_ble_eq_true rfl)) d_Mo_piece_3 ⟨(Nat.le_of_ble_eq_true rfl), (Nat.le_of_ble_eq_true rfl)⟩) hV (fun r9 V9 H locs hp hV hle => ?_)
  obtain ⟨rfl, rfl, hz⟩ := hp
  replace hV := uu_same hV hn [0, 1] rfl
  rcases tf ((qF Q y).isSome) with d_1 | d_1
  · obtain ⟨j, R, hj1, hj2, ey, hQ, hq⟩ := qF_some d_1
    obtain ⟨hR, hRv⟩ := mpA_at hM hj1 hj2 hQ
    obtain ⟨r0, r1, r2, r3, r4, r5, r6, r7, rh, r17, r18, r19, r20, rl⟩ := hR
    have hV : vS G.1 cls lo s H locs (vU V [(m, eO 8 [th, u1, u2, u3, .ref pa, u5, u6, u7, u8, u9, u10, u11, u12, u13, u14, u15, u16, u17, u18, u19, u20]), (pa, eI (gI G) 1769 P)]) := hV
    refine W.eq (g2 := F0 mi 6 ls [.int 1, .ref m]) (by rw [d_1]; rfl) ?_
    refine lv_iload_n hx hb d_Mo_piece_6 rfl (lv_at hl 2 rfl) ?_
    refine lv_iconst (v := 0) hx hb d_Mo_piece_7 (by decide) ?_
    refine lv_bipush (v := 7) hx hb d_Mo_piece_8 (by decide) ?_
    refine v_call (va_runS (As := [.int wh, .int 0, .int 7]) (rest := [.int 1, .ref m]) ⟨hx, hb, hml, hown, hts⟩ (c_Mo_in l G lo _ _ wh ((0 : Int32)) ((7 : Int32))) (kwS 3 hts w_co_Mo_in rfl rfl w_it_Mo w_ml_Mo_54 w_st_Mo_in (by decide +kernel) ⟨(Nat.le_of_ble_eq_true rfl), (Nat.le_of_ble_eq_true rfl)⟩) (u_preS hK hV hn [] rfl hz) rfl rfl hl.1 rfl (lv_room (Nat.le_of_ble_eq_true rfl)) d_Mo_piece_10 ⟨(Nat.le_of_ble_eq_true rfl), (Nat.le_of_ble_eq_true rfl)⟩) hV (fun r9 V9 H locs hp hV hle => ?_)
    obtain ⟨rfl, rfl, hz⟩ := hp
    replace hV := uu_same hV hn [] rfl
    rcases tf (inI wh ((0 : Int32)) ((7 : Int32))) with d_2 | d_2
    · obtain ⟨w9, hw0, hw9, ew⟩ := inI_bd (a := 0) (b := 7) (by decide) (by decide) d_2
      have hX : pieR Q y (nI w9) = _ := pieR_3 (x := y) hq hw9
      have hV : vS G.1 cls lo s H locs (vU V [(m, eO 8 [th, u1, u2, u3, .ref pa, u5, u6, u7, u8, u9, u10, u11, u12, u13, u14, u15, u16, u17, u18, u19, u20]), (pa, eI (gI G) 1769 P)]) := hV
      refine W.eq (g2 := F0 mi 13 ls [.int 1, .int 1, .ref m]) (by rw [d_2]; rfl) ?_
      refine v_call (va_runV (As := [.int 1, .int 1]) (rest := []) ⟨hx, hb, hml, hown, hts⟩ (c_Mo_asks l G lo _ _ m u1 u2 u3 (.ref pa) u5 u6 u7 u8 u9 u10 u11 u12 u13 u14 u15 u16 u17 u18 u19 u20 th (by simp) 1 1 (by decide) (by decide)) (kwV 2 hts w_co_Mo_asks rfl rfl w_it_Mo w_ml_Mo_132 w_im_Mo_asks w_se_Mo__Mo_asks (by decide +kernel) ⟨(Nat.le_of_ble_eq_true rfl), (Nat.le_of_ble_eq_true rfl)⟩) (u_preV hK hV hn [0] rfl hz 0 rfl rfl) rfl rfl hl.1 rfl (lv_room (Nat.le_of_ble_eq_true rfl)) d_Mo_piece_13 ⟨(Nat.le_of_ble_eq_true rfl), (Nat.le_of_ble_eq_true rfl)⟩) hV (fun r9 V9 H locs hp hV hle => ?_)
      obtain ⟨rfl, rfl, hz⟩ := hp
      replace hV := u_back hV hn [0] rfl
      have hV : vS G.1 cls lo s H locs (vU V [(m, eO 8 [.int 0, u1, u2, u3, .ref pa, u5, u6, u7, u8, u9, u10, u11, u12, u13, u14, u15, u16, u17, u18, u19, u20]), (pa, eI (gI G) 1769 P)]) := hV
      refine W.eq (g2 := F0 mi 16 ls [.int 1]) rfl ?_
      refine lv_if_ne (tgt := 21) hx hb d_Mo_piece_16 (by decide) (fun _ => ?_) (fun c_3 => absurd c_3 (by decide))
      subst ew
      subst ey
      refine lv_iload_n hx hb d_Mo_piece_21 rfl (lv_at hl 1 rfl) ?_
      refine lv_bipush (v := 29) hx hb d_Mo_piece_22 (by decide) ?_
      refine e_imul (v := nI (29 * j)) hx hb d_Mo_piece_24 (by rw [Nat.mul_comm 29 j]; exact nI_mul j 29) ?_
      refine lv_istore_n (lv' := [(3, .int (nI (29 * j))), (0, .ref m), (1, .int (nI j)), (2, .int (nI w9))]) hx hb d_Mo_piece_25 rfl hl (by decide) rfl (fun ls hl => ?_)
      refine lv_aload_n hx hb d_Mo_piece_26 rfl (lv_at hl 1 rfl) ?_
      refine u_get hx hb hts inMo hown hK hV hn 0 rfl rfl 4 (by decide) w_fl_Mo_17 rfl rfl d_Mo_piece_27 ?_
      refine lv_iload_n hx hb d_Mo_piece_30 rfl (lv_at hl 0 rfl) ?_
      refine lv_iload_n hx hb d_Mo_piece_31 rfl (lv_at hl 3 rfl) ?_
      refine lv_if_ne (tgt := 39) hx hb d_Mo_piece_32 (by decide) (fun c_4 => ?_) (fun c_4 => ?_)
      · replace c_4 : ¬ w9 = 0 := fun z9 => c_4 ((nI_eq (a := w9) (b := 0) (by omega) (by omega)).mpr z9)
        refine lv_iload_n hx hb d_Mo_piece_39 rfl (lv_at hl 3 rfl) ?_
        refine lv_iconst (v := 1) hx hb d_Mo_piece_40 (by decide) ?_
        refine lv_icmp_ne (tgt := 48) hx hb d_Mo_piece_41 (by decide) (fun c_5 => ?_) (fun c_5 => ?_)
        · replace c_5 : ¬ w9 = 1 := fun z9 => c_5 ((nI_eq (a := w9) (b := 1) (by omega) (by omega)).mpr z9)
          refine lv_iload_n hx hb d_Mo_piece_48 rfl (lv_at hl 3 rfl) ?_
          refine lv_iconst (v := 2) hx hb d_Mo_piece_49 (by decide) ?_
          refine lv_icmp_ne (tgt := 57) hx hb d_Mo_piece_50 (by decide) (fun c_6 => ?_) (fun c_6 => ?_)
          · replace c_6 : ¬ w9 = 2 := fun z9 => c_6 ((nI_eq (a := w9) (b := 2) (by omega) (by omega)).mpr z9)
            refine lv_iload_n hx hb d_Mo_piece_57 rfl (lv_at hl 3 rfl) ?_
            refine lv_iconst (v := 3) hx hb d_Mo_piece_58 (by decide) ?_
            refine lv_icmp_ne (tgt := 66) hx hb d_Mo_piece_59 (by decide) (fun c_7 => ?_) (fun c_7 => ?_)
            · replace c_7 : ¬ w9 = 3 := fun z9 => c_7 ((nI_eq (a := w9) (b := 3) (by omega) (by omega)).mpr z9)
              refine lv_iload_n hx hb d_Mo_piece_66 rfl (lv_at hl 3 rfl) ?_
              refine lv_iconst (v := 4) hx hb d_Mo_piece_67 (by decide) ?_
              refine lv_icmp_ne (tgt := 75) hx hb d_Mo_piece_68 (by decide) (fun c_8 => ?_) (fun c_8 => ?_)
              · replace c_8 : ¬ w9 = 4 := fun z9 => c_8 ((nI_eq (a := w9) (b := 4) (by omega) (by omega)).mpr z9)
                refine lv_iload_n hx hb d_Mo_piece_75 rfl (lv_at hl 3 rfl) ?_
                refine lv_iconst (v := 5) hx hb d_Mo_piece_76 (by decide) ?_
                refine lv_icmp_ne (tgt := 85) hx hb d_Mo_piece_77 (by decide) (fun c_9 => ?_) (fun c_9 => ?_)
                · replace c_9 : ¬ w9 = 5 := fun z9 => c_9 ((nI_eq (a := w9) (b := 5) (by omega) (by omega)).mpr z9)
                  refine lv_iload_n hx hb d_Mo_piece_85 rfl (lv_at hl 3 rfl) ?_
                  refine lv_bipush (v := 6) hx hb d_Mo_piece_86 (by decide) ?_
                  refine lv_icmp_ne (tgt := 96) hx hb d_Mo_piece_88 (by decide) (fun c_10 => ?_) (fun c_10 => ?_)
                  · replace c_10 : ¬ w9 = 6 := fun z9 => c_10 ((nI_eq (a := w9) (b := 6) (by omega) (by omega)).mpr z9)
                    refine lv_bipush (v := 19) hx hb d_Mo_piece_96 (by decide) ?_
                    refine e_iadd (v := nI (29 * j + 19)) hx hb d_Mo_piece_98 (nI_add (29 * j) 19) ?_
                    refine u_ialdN hx hb hK hV hn 1 rfl (by omega) (by decide) d_Mo_piece_99 ?_
                    rw [r19]
                    exact W.iret (v := nmA R.2.2.2.2) hx hb hr (v_end hV ⟨by rw [hX, show w9 = 7 by omega]; rfl, by rw [hX]; rfl, hz⟩) hV.2.1.2.2 d_Mo_piece_100
                  · replace c_10 : w9 = 6 := (nI_eq (a := w9) (b := 6) (by omega) (by omega)).mp c_10
                    refine lv_bipush (v := 18) hx hb d_Mo_piece_91 (by decide) ?_
                    refine lv_goto (tgt := 98) hx hb d_Mo_piece_93 (by decide) ?_
                    refine e_iadd (v := nI (29 * j + 18)) hx hb d_Mo_piece_98 (nI_add (29 * j) 18) ?_
                    refine u_ialdN hx hb hK hV hn 1 rfl (by omega) (by decide) d_Mo_piece_99 ?_
                    rw [r18]
                    exact W.iret (v := nI R.2.2.2.1.2) hx hb hr (v_end hV ⟨by rw [hX, show w9 = 6 by omega]; rfl, by rw [hX]; rfl, hz⟩) hV.2.1.2.2 d_Mo_piece_100
                · replace c_9 : w9 = 5 := (nI_eq (a := w9) (b := 5) (by omega) (by omega)).mp c_9
                  refine lv_bipush (v := 17) hx hb d_Mo_piece_80 (by decide) ?_
                  refine lv_goto (tgt := 98) hx hb d_Mo_piece_82 (by decide) ?_
                  refine e_iadd (v := nI (29 * j + 17)) hx hb d_Mo_piece_98 (nI_add (29 * j) 17) ?_
                  refine u_ialdN hx hb hK hV hn 1 rfl (by omega) (by decide) d_Mo_piece_99 ?_
                  rw [r17]
                  exact W.iret (v := nI R.2.2.2.1.1) hx hb hr (v_end hV ⟨by rw [hX, show w9 = 5 by omega]; rfl, by rw [hX]; rfl, hz⟩) hV.2.1.2.2 d_Mo_piece_100
              · replace c_8 : w9 = 4 := (nI_eq (a := w9) (b := 4) (by omega) (by omega)).mp c_8
                refine lv_iconst (v := 3) hx hb d_Mo_piece_71 (by decide) ?_
                refine lv_goto (tgt := 98) hx hb d_Mo_piece_72 (by decide) ?_
                refine e_iadd (v := nI (29 * j + 3)) hx hb d_Mo_piece_98 (nI_add (29 * j) 3) ?_
                refine u_ialdN hx hb hK hV hn 1 rfl (by omega) (by decide) d_Mo_piece_99 ?_
                rw [r3]
                exact W.iret (v := b2i R.1.2.1) hx hb hr (v_end hV ⟨by rw [hX, show w9 = 4 by omega]; rfl, by rw [hX]; rfl, hz⟩) hV.2.1.2.2 d_Mo_piece_100
            · replace c_7 : w9 = 3 := (nI_eq (a := w9) (b := 3) (by omega) (by omega)).mp c_7
              refine lv_iconst (v := 5) hx hb d_Mo_piece_62 (by decide) ?_
              refine lv_goto (tgt := 98) hx hb d_Mo_piece_63 (by decide) ?_
              refine e_iadd (v := nI (29 * j + 5)) hx hb d_Mo_piece_98 (nI_add (29 * j) 5) ?_
              refine u_ialdN hx hb hK hV hn 1 rfl (by omega) (by decide) d_Mo_piece_99 ?_
              rw [r5]
              exact W.iret (v := nI R.2.1.2.1) hx hb hr (v_end hV ⟨by rw [hX, show w9 = 3 by omega]; rfl, by rw [hX]; rfl, hz⟩) hV.2.1.2.2 d_Mo_piece_100
          · replace c_6 : w9 = 2 := (nI_eq (a := w9) (b := 2) (by omega) (by omega)).mp c_6
            refine lv_iconst (v := 4) hx hb d_Mo_piece_53 (by decide) ?_
            refine lv_goto (tgt := 98) hx hb d_Mo_piece_54 (by decide) ?_
            refine e_iadd (v := nI (29 * j + 4)) hx hb d_Mo_piece_98 (nI_add (29 * j) 4) ?_
            refine u_ialdN hx hb hK hV hn 1 rfl (by omega) (by decide) d_Mo_piece_99 ?_
            rw [r4]
            exact W.iret (v := nI R.2.1.1) hx hb hr (v_end hV ⟨by rw [hX, show w9 = 2 by omega]; rfl, by rw [hX]; rfl, hz⟩) hV.2.1.2.2 d_Mo_piece_100
        · replace c_5 : w9 = 1 := (nI_eq (a := w9) (b := 1) (by omega) (by omega)).mp c_5
          refine lv_iconst (v := 2) hx hb d_Mo_piece_44 (by decide) ?_
          refine lv_goto (tgt := 98) hx hb d_Mo_piece_45 (by decide) ?_
          refine e_iadd (v := nI (29 * j + 2)) hx hb d_Mo_piece_98 (nI_add (29 * j) 2) ?_
          refine u_ialdN hx hb hK hV hn 1 rfl (by omega) (by decide) d_Mo_piece_99 ?_
          rw [r2]
          exact W.iret (v := nI R.1.2.2) hx hb hr (v_end hV ⟨by rw [hX, show w9 = 1 by omega]; rfl, by rw [hX]; rfl, hz⟩) hV.2.1.2.2 d_Mo_piece_100
      · replace c_4 : w9 = 0 := (nI_eq (a := w9) (b := 0) (by omega) (by omega)).mp c_4
        refine lv_iconst (v := 1) hx hb d_Mo_piece_35 (by decide) ?_
        refine lv_goto (tgt := 98) hx hb d_Mo_piece_36 (by decide) ?_
        refine e_iadd (v := nI (29 * j + 1)) hx hb d_Mo_piece_98 (nI_add (29 * j) 1) ?_
        refine u_ialdN hx hb hK hV hn 1 rfl (by omega) (by decide) d_Mo_piece_99 ?_
        rw [r1]
        exact W.iret (v := nI R.1.1) hx hb hr (v_end hV ⟨by rw [hX, show w9 = 0 by omega]; rfl, by rw [hX]; rfl, hz⟩) hV.2.1.2.2 d_Mo_piece_100
    · have hX : pieR Q y wh = .inl 2 := pieR_2 hq (inI_lt (a := 0) (b := 7) d_2)
      have hV : vS G.1 cls lo s H locs (vU V [(m, eO 8 [th, u1, u2, u3, .ref pa, u5, u6, u7, u8, u9, u10, u11, u12, u13, u14, u15, u16, u17, u18, u19, u20]), (pa, eI (gI G) 1769 P)]) := hV
      refine W.eq (g2 := F0 mi 13 ls [.int 0, .int 1, .ref m]) (by rw [d_2]; rfl) ?_
      refine v_call (va_runV (As := [.int 1, .int 0]) (rest := []) ⟨hx, hb, hml, hown, hts⟩ (c_Mo_asks l G lo _ _ m u1 u2 u3 (.ref pa) u5 u6 u7 u8 u9 u10 u11 u12 u13 u14 u15 u16 u17 u18 u19 u20 th (by simp) 1 0 (by decide) (by decide)) (kwV 2 hts w_co_Mo_asks rfl rfl w_it_Mo w_ml_Mo_132 w_im_Mo_asks w_se_Mo__Mo_asks (by decide +kernel) ⟨(Nat.le_of_ble_eq_true rfl), (Nat.le_of_ble_eq_true rfl)⟩) (u_preV hK hV hn [0] rfl hz 0 rfl rfl) rfl rfl hl.1 rfl (lv_room (Nat.le_of_ble_eq_true rfl)) d_Mo_piece_13 ⟨(Nat.le_of_ble_eq_true rfl), (Nat.le_of_ble_eq_true rfl)⟩) hV (fun r9 V9 H locs hp hV hle => ?_)
      obtain ⟨rfl, rfl, hz⟩ := hp
      replace hV := u_back hV hn [0] rfl
      have hV : vS G.1 cls lo s H locs (vU V [(m, eO 8 [.int 2, u1, u2, u3, .ref pa, u5, u6, u7, u8, u9, u10, u11, u12, u13, u14, u15, u16, u17, u18, u19, u20]), (pa, eI (gI G) 1769 P)]) := hV
      refine W.eq (g2 := F0 mi 16 ls [.int 0]) rfl ?_
      refine lv_if_ne (tgt := 21) hx hb d_Mo_piece_16 (by decide) (fun c_11 => absurd c_11 (by decide)) (fun _ => ?_)
      refine lv_iconst (v := 0) hx hb d_Mo_piece_19 (by decide) ?_
      exact W.iret (v := 0) hx hb hr (v_end hV ⟨by rw [hX]; rfl, by rw [hX]; rfl, hz⟩) hV.2.1.2.2 d_Mo_piece_20
  · have hq0 : qF Q y = none := Option.isNone_iff_eq_none.mp (by simpa using d_1)
    have hX : pieR Q y wh = .inl 1 := pieR_1 hq0
    have hV : vS G.1 cls lo s H locs (vU V [(m, eO 8 [th, u1, u2, u3, .ref pa, u5, u6, u7, u8, u9, u10, u11, u12, u13, u14, u15, u16, u17, u18, u19, u20]), (pa, eI (gI G) 1769 P)]) := hV
    refine W.eq (g2 := F0 mi 6 ls [.int 0, .ref m]) (by rw [d_1]; rfl) ?_
    refine lv_iload_n hx hb d_Mo_piece_6 rfl (lv_at hl 2 rfl) ?_
    refine lv_iconst (v := 0) hx hb d_Mo_piece_7 (by decide) ?_
    refine lv_bipush (v := 7) hx hb d_Mo_piece_8 (by decide) ?_
    refine v_call (va_runS (As := [.int wh, .int 0, .int 7]) (rest := [.int 0, .ref m]) ⟨hx, hb, hml, hown, hts⟩ (c_Mo_in l G lo _ _ wh ((0 : Int32)) ((7 : Int32))) (kwS 3 hts w_co_Mo_in rfl rfl w_it_Mo w_ml_Mo_54 w_st_Mo_in (by decide +kernel) ⟨(Nat.le_of_ble_eq_true rfl), (Nat.le_of_ble_eq_true rfl)⟩) (u_preS hK hV hn [] rfl hz) rfl rfl hl.1 rfl (lv_room (Nat.le_of_ble_eq_true rfl)) d_Mo_piece_10 ⟨(Nat.le_of_ble_eq_true rfl), (Nat.le_of_ble_eq_true rfl)⟩) hV (fun r9 V9 H locs hp hV hle => ?_)
    obtain ⟨rfl, rfl, hz⟩ := hp
    replace hV := uu_same hV hn [] rfl
    rcases tf (inI wh ((0 : Int32)) ((7 : Int32))) with d_12 | d_12
    · have hV : vS G.1 cls lo s H locs (vU V [(m, eO 8 [th, u1, u2, u3, .ref pa, u5, u6, u7, u8, u9, u10, u11, u12, u13, u14, u15, u16, u17, u18, u19, u20]), (pa, eI (gI G) 1769 P)]) := hV
      refine W.eq (g2 := F0 mi 13 ls [.int 1, .int 0, .ref m]) (by rw [d_12]; rfl) ?_
      refine v_call (va_runV (As := [.int 0, .int 1]) (rest := []) ⟨hx, hb, hml, hown, hts⟩ (c_Mo_asks l G lo _ _ m u1 u2 u3 (.ref pa) u5 u6 u7 u8 u9 u10 u11 u12 u13 u14 u15 u16 u17 u18 u19 u20 th (by simp) 0 1 (by decide) (by decide)) (kwV 2 hts w_co_Mo_asks rfl rfl w_it_Mo w_ml_Mo_132 w_im_Mo_asks w_se_Mo__Mo_asks (by decide +kernel) ⟨(Nat.le_of_ble_eq_true rfl), (Nat.le_of_ble_eq_true rfl)⟩) (u_preV hK hV hn [0] rfl hz 0 rfl rfl) rfl rfl hl.1 rfl (lv_room (Nat.le_of_ble_eq_true rfl)) d_Mo_piece_13 ⟨(Nat.le_of_ble_eq_true rfl), (Nat.le_of_ble_eq_true rfl)⟩) hV (fun r9 V9 H locs hp hV hle => ?_)
      obtain ⟨rfl, rfl, hz⟩ := hp
      replace hV := u_back hV hn [0] rfl
      have hV : vS G.1 cls lo s H locs (vU V [(m, eO 8 [.int 1, u1, u2, u3, .ref pa, u5, u6, u7, u8, u9, u10, u11, u12, u13, u14, u15, u16, u17, u18, u19, u20]), (pa, eI (gI G) 1769 P)]) := hV
      refine W.eq (g2 := F0 mi 16 ls [.int 0]) rfl ?_
      refine lv_if_ne (tgt := 21) hx hb d_Mo_piece_16 (by decide) (fun c_13 => absurd c_13 (by decide)) (fun _ => ?_)
      refine lv_iconst (v := 0) hx hb d_Mo_piece_19 (by decide) ?_
      exact W.iret (v := 0) hx hb hr (v_end hV ⟨by rw [hX]; rfl, by rw [hX]; rfl, hz⟩) hV.2.1.2.2 d_Mo_piece_20
    · have hV : vS G.1 cls lo s H locs (vU V [(m, eO 8 [th, u1, u2, u3, .ref pa, u5, u6, u7, u8, u9, u10, u11, u12, u13, u14, u15, u16, u17, u18, u19, u20]), (pa, eI (gI G) 1769 P)]) := hV
      refine W.eq (g2 := F0 mi 13 ls [.int 0, .int 0, .ref m]) (by rw [d_12]; rfl) ?_
      refine v_call (va_runV (As := [.int 0, .int 0]) (rest := []) ⟨hx, hb, hml, hown, hts⟩ (c_Mo_asks l G lo _ _ m u1 u2 u3 (.ref pa) u5 u6 u7 u8 u9 u10 u11 u12 u13 u14 u15 u16 u17 u18 u19 u20 th (by simp) 0 0 (by decide) (by decide)) (kwV 2 hts w_co_Mo_asks rfl rfl w_it_Mo w_ml_Mo_132 w_im_Mo_asks w_se_Mo__Mo_asks (by decide +kernel) ⟨(Nat.le_of_ble_eq_true rfl), (Nat.le_of_ble_eq_true rfl)⟩) (u_preV hK hV hn [0] rfl hz 0 rfl rfl) rfl rfl hl.1 rfl (lv_room (Nat.le_of_ble_eq_true rfl)) d_Mo_piece_13 ⟨(Nat.le_of_ble_eq_true rfl), (Nat.le_of_ble_eq_true rfl)⟩) hV (fun r9 V9 H locs hp hV hle => ?_)
      obtain ⟨rfl, rfl, hz⟩ := hp
      replace hV := u_back hV hn [0] rfl
      have hV : vS G.1 cls lo s H locs (vU V [(m, eO 8 [.int 1, u1, u2, u3, .ref pa, u5, u6, u7, u8, u9, u10, u11, u12, u13, u14, u15, u16, u17, u18, u19, u20]), (pa, eI (gI G) 1769 P)]) := hV
      refine W.eq (g2 := F0 mi 16 ls [.int 0]) rfl ?_
      refine lv_if_ne (tgt := 21) hx hb d_Mo_piece_16 (by decide) (fun c_14 => absurd c_14 (by decide)) (fun _ => ?_)
      refine lv_iconst (v := 0) hx hb d_Mo_piece_19 (by decide) ?_
      exact W.iret (v := 0) hx hb hr (v_end hV ⟨by rw [hX]; rfl, by rw [hX]; rfl, hz⟩) hV.2.1.2.2 d_Mo_piece_20

set_option maxHeartbeats 4000000 in
set_option maxRecDepth 100000 in
/-- speed -/
theorem c_Mo_speed (l : Launch) (G : Gx) (lo : Nat) (V : Vw) (sz : Nat) (m pa : Nat) (u1 u2 u3 u5 u6 u7 u8 u9 u10 u11 u12 u13 u14 u15 u16 u17 u18 u19 u20 : Value) (th : Value) (P : Nat → Int32) (Q : Nat → Option PcR) (hn : [m, pa].Nodup) (hM : mpA P Q) (y h : Int32) : Met l y_Mo_speed ws_Mo_speed ({ frames := 2, cells := 0, slots := 0, locals := 60 } : Room) (vPre G lo [.ref m, .int y, .int h] (vU V [(m, eO 8 [th, u1, u2, u3, .ref pa, u5, u6, u7, u8, u9, u10, u11, u12, u13, u14, u15, u16, u17, u18, u19, u20]), (pa, eI (gI G) 1769 P)]) sz) (vPost G lo (fun r V' k => r = some (.int (vaI (speR Q y h))) ∧ V' = vU V [(m, eO 8 [.int (thI (speR Q y h)), u1, u2, u3, .ref pa, u5, u6, u7, u8, u9, u10, u11, u12, u13, u14, u15, u16, u17, u18, u19, u20]), (pa, eI (gI G) 1769 P)] ∧ k = sz)) 0 0 (vL lo) := by
  refine vMet (R := RMo) (by decide) rfl (Nat.le_of_ble_eq_true rfl) ?_
  intro pg ev s mi args below meth cd hx hb hr hml hlk hnm hts hown hK hz hV ls hl
  have hl : lv_has ls 5 [(0, .ref m), (1, .int y), (2, .int h)] := hl
  have hV0 := hV
  obtain ⟨H, hH⟩ : ∃ H, H = s.heap := ⟨_, rfl⟩
  obtain ⟨locs, hlocs⟩ : ∃ locs : List Loc, locs = [] := ⟨_, rfl⟩
  rw [← hH, ← hlocs]
  rw [← hH] at hz
  replace hV : vS G.1 cls lo s H locs (vU V [(m, eO 8 [th, u1, u2, u3, .ref pa, u5, u6, u7, u8, u9, u10, u11, u12, u13, u14, u15, u16, u17, u18, u19, u20]), (pa, eI (gI G) 1769 P)]) := by rw [hH, hlocs]; exact hV
  clear hH hlocs hV0
  refine lv_aload_n hx hb d_Mo_speed_0 rfl (lv_at hl 0 rfl) ?_
  refine lv_aload_n hx hb d_Mo_speed_1 rfl (lv_at hl 0 rfl) ?_
  refine lv_iload_n hx hb d_Mo_speed_2 rfl (lv_at hl 1 rfl) ?_
  refine v_call (va_runV (As := [.int y]) (rest := [.ref m]) ⟨hx, hb, hml, hown, hts⟩ (c_Mo_isPiece l G lo _ _ m pa th u1 u2 u3 u5 u6 u7 u8 u9 u10 u11 u12 u13 u14 u15 u16 u17 u18 u19 u20 P Q hn hM y) (kwV 1 hts w_co_Mo_isPiece rfl rfl w_it_Mo w_ml_Mo_129 w_im_Mo_isPiece w_se_Mo__Mo_isPiece (by decide +kernel) ⟨(Nat.le_of_ble_eq_true rfl), (Nat.le_of_ble_eq_true rfl)⟩) (u_preV hK hV hn [0, 1] rfl hz 0 rfl rfl) rfl rfl hl.1 rfl (lv_room (Nat.le_of_ble_eq_true rfl)) d_Mo_speed_3 ⟨(Nat.le_of_ble_eq_true rfl), (Nat.le_of_ble_eq_true rfl)⟩) hV (fun r9 V9 H locs hp hV hle => ?_)
  obtain ⟨rfl, rfl, hz⟩ := hp
  replace hV := uu_same hV hn [0, 1] rfl
  rcases tf ((qF Q y).isSome) with d_1 | d_1
  · obtain ⟨j, R, hj1, hj2, ey, hQ, hq⟩ := qF_some d_1
    obtain ⟨hR, hRv⟩ := mpA_at hM hj1 hj2 hQ
    obtain ⟨r0, r1, r2, r3, r4, r5, r6, r7, rh, r17, r18, r19, r20, rl⟩ := hR
    have hV : vS G.1 cls lo s H locs (vU V [(m, eO 8 [th, u1, u2, u3, .ref pa, u5, u6, u7, u8, u9, u10, u11, u12, u13, u14, u15, u16, u17, u18, u19, u20]), (pa, eI (gI G) 1769 P)]) := hV
    refine W.eq (g2 := F0 mi 6 ls [.int 1, .ref m]) (by rw [d_1]; rfl) ?_
    refine lv_iload_n hx hb d_Mo_speed_6 rfl (lv_at hl 2 rfl) ?_
    refine lv_iconst (v := 0) hx hb d_Mo_speed_7 (by decide) ?_
    refine lv_bipush (v := 23) hx hb d_Mo_speed_8 (by decide) ?_
    refine v_call (va_runS (As := [.int h, .int 0, .int 23]) (rest := [.int 1, .ref m]) ⟨hx, hb, hml, hown, hts⟩ (c_Mo_in l G lo _ _ h ((0 : Int32)) ((23 : Int32))) (kwS 3 hts w_co_Mo_in rfl rfl w_it_Mo w_ml_Mo_54 w_st_Mo_in (by decide +kernel) ⟨(Nat.le_of_ble_eq_true rfl), (Nat.le_of_ble_eq_true rfl)⟩) (u_preS hK hV hn [] rfl hz) rfl rfl hl.1 rfl (lv_room (Nat.le_of_ble_eq_true rfl)) d_Mo_speed_10 ⟨(Nat.le_of_ble_eq_true rfl), (Nat.le_of_ble_eq_true rfl)⟩) hV (fun r9 V9 H locs hp hV hle => ?_)
    obtain ⟨rfl, rfl, hz⟩ := hp
    replace hV := uu_same hV hn [] rfl
    rcases tf (inI h ((0 : Int32)) ((23 : Int32))) with d_2 | d_2
    · obtain ⟨w9, hw0, hw9, ew⟩ := inI_bd (a := 0) (b := 23) (by decide) (by decide) d_2
      have hX : speR Q y (nI w9) = _ := speR_3 (x := y) hq hw9
      have hV : vS G.1 cls lo s H locs (vU V [(m, eO 8 [th, u1, u2, u3, .ref pa, u5, u6, u7, u8, u9, u10, u11, u12, u13, u14, u15, u16, u17, u18, u19, u20]), (pa, eI (gI G) 1769 P)]) := hV
      refine W.eq (g2 := F0 mi 13 ls [.int 1, .int 1, .ref m]) (by rw [d_2]; rfl) ?_
      refine v_call (va_runV (As := [.int 1, .int 1]) (rest := []) ⟨hx, hb, hml, hown, hts⟩ (c_Mo_asks l G lo _ _ m u1 u2 u3 (.ref pa) u5 u6 u7 u8 u9 u10 u11 u12 u13 u14 u15 u16 u17 u18 u19 u20 th (by simp) 1 1 (by decide) (by decide)) (kwV 2 hts w_co_Mo_asks rfl rfl w_it_Mo w_ml_Mo_132 w_im_Mo_asks w_se_Mo__Mo_asks (by decide +kernel) ⟨(Nat.le_of_ble_eq_true rfl), (Nat.le_of_ble_eq_true rfl)⟩) (u_preV hK hV hn [0] rfl hz 0 rfl rfl) rfl rfl hl.1 rfl (lv_room (Nat.le_of_ble_eq_true rfl)) d_Mo_speed_13 ⟨(Nat.le_of_ble_eq_true rfl), (Nat.le_of_ble_eq_true rfl)⟩) hV (fun r9 V9 H locs hp hV hle => ?_)
      obtain ⟨rfl, rfl, hz⟩ := hp
      replace hV := u_back hV hn [0] rfl
      have hV : vS G.1 cls lo s H locs (vU V [(m, eO 8 [.int 0, u1, u2, u3, .ref pa, u5, u6, u7, u8, u9, u10, u11, u12, u13, u14, u15, u16, u17, u18, u19, u20]), (pa, eI (gI G) 1769 P)]) := hV
      refine W.eq (g2 := F0 mi 16 ls [.int 1]) rfl ?_
      refine lv_if_ne (tgt := 21) hx hb d_Mo_speed_16 (by decide) (fun _ => ?_) (fun c_3 => absurd c_3 (by decide))
      subst ew
      subst ey
      have hRl := hRv.2.2.1.1
      refine lv_iload_n hx hb d_Mo_speed_21 rfl (lv_at hl 1 rfl) ?_
      refine lv_bipush (v := 29) hx hb d_Mo_speed_22 (by decide) ?_
      refine e_imul (v := nI (29 * j)) hx hb d_Mo_speed_24 (by rw [Nat.mul_comm 29 j]; exact nI_mul j 29) ?_
      refine lv_istore_n (lv' := [(3, .int (nI (29 * j))), (0, .ref m), (1, .int (nI j)), (2, .int (nI w9))]) hx hb d_Mo_speed_25 rfl hl (by decide) rfl (fun ls hl => ?_)
      refine lv_iconst (v := 0) hx hb d_Mo_speed_26 (by decide) ?_
      refine lv_istore (lv' := [(4, .int 0), (3, .int (nI (29 * j))), (0, .ref m), (1, .int (nI j)), (2, .int (nI w9))]) hx hb d_Mo_speed_27 hl (by decide) rfl (fun ls hl => ?_)
      have loop : ∀ (k : Nat) (i : Nat), R.2.2.1.length - i < k → (i ≤ R.2.2.1.length) → (spd R.2.1.2.2 (R.2.2.1.drop i) w9 = spd R.2.1.2.2 R.2.2.1 w9) → ∀ (H : Heap) (locs : List Loc) (ls : Array Slot), H.size = sz → vS G.1 cls lo s H locs (vU V [(m, eO 8 [.int 0, u1, u2, u3, .ref pa, u5, u6, u7, u8, u9, u10, u11, u12, u13, u14, u15, u16, u17, u18, u19, u20]), (pa, eI (gI G) 1769 P)]) → lv_has ls 5 [(0, .ref m), (1, .int (nI j)), (2, .int (nI w9)), (3, .int (nI (29 * j))), (4, .int (nI i))] → W pg l ev ({ frames := 2, cells := 0, slots := 0, locals := 60 } : Room) s mi args below meth cd H locs 0 0 (MQ below (vPost G lo (fun r V' k => r = some (.int (vaI (speR Q (nI j) (nI w9)))) ∧ V' = vU V [(m, eO 8 [.int (thI (speR Q (nI j) (nI w9))), u1, u2, u3, .ref pa, u5, u6, u7, u8, u9, u10, u11, u12, u13, u14, u15, u16, u17, u18, u19, u20]), (pa, eI (gI G) 1769 P)] ∧ k = sz)) args s 0 0 (vL lo)) (F0 mi 29 ls []) := by
        intro k
        induction k with
        | zero => intro i hk; exact absurd hk (by omega)
        | succ k ih =>
          intro i hk hi hS H locs ls hz hV hl
          refine lv_iload hx hb d_Mo_speed_29 (lv_at hl 4 rfl) ?_
          refine lv_aload_n hx hb d_Mo_speed_31 rfl (lv_at hl 0 rfl) ?_
          refine u_get hx hb hts inMo hown hK hV hn 0 rfl rfl 4 (by decide) w_fl_Mo_17 rfl rfl d_Mo_speed_32 ?_
          refine lv_iload_n hx hb d_Mo_speed_35 rfl (lv_at hl 3 rfl) ?_
          refine lv_bipush (v := 7) hx hb d_Mo_speed_36 (by decide) ?_
          refine e_iadd (v := nI (29 * j + 7)) hx hb d_Mo_speed_38 (nI_add (29 * j) 7) ?_
          refine u_ialdN hx hb hK hV hn 1 rfl (by omega) (by decide) d_Mo_speed_39 ?_
          rw [r7]
          refine lv_icmp_ge (tgt := 103) hx hb d_Mo_speed_40 (by decide) (fun c_4 => ?_) (fun c_4 => ?_)
          · replace c_4 : R.2.2.1.length ≤ i := (nI_leI (a := R.2.2.1.length) (b := i) (by omega) (by omega)).mp c_4
            have hE : spd R.2.1.2.2 R.2.2.1 w9 = R.2.1.2.2 := by rw [← hS, List.drop_eq_nil_of_le (by omega)]; rfl
            refine lv_aload_n hx hb d_Mo_speed_103 rfl (lv_at hl 0 rfl) ?_
            refine u_get hx hb hts inMo hown hK hV hn 0 rfl rfl 4 (by decide) w_fl_Mo_17 rfl rfl d_Mo_speed_104 ?_
            refine lv_iload_n hx hb d_Mo_speed_107 rfl (lv_at hl 3 rfl) ?_
            refine lv_bipush (v := 6) hx hb d_Mo_speed_108 (by decide) ?_
            refine e_iadd (v := nI (29 * j + 6)) hx hb d_Mo_speed_110 (nI_add (29 * j) 6) ?_
            refine u_ialdN hx hb hK hV hn 1 rfl (by omega) (by decide) d_Mo_speed_111 ?_
            rw [r6]
            exact W.iret (v := nI R.2.1.2.2) hx hb hr (v_end hV ⟨by rw [hX, hE]; rfl, by rw [hX]; rfl, hz⟩) hV.2.1.2.2 d_Mo_speed_112
          · replace c_4 : ¬ R.2.2.1.length ≤ i := fun z9 => c_4 ((nI_leI (a := R.2.2.1.length) (b := i) (by omega) (by omega)).mpr z9)
            obtain ⟨o1, o2, o3⟩ := rh i (by omega)
            obtain ⟨o4, o5, o6, o7⟩ := hrV_at hRv.2.2.1 (i := i) (by omega)
            refine lv_iload_n hx hb d_Mo_speed_43 rfl (lv_at hl 2 rfl) ?_
            refine lv_aload_n hx hb d_Mo_speed_44 rfl (lv_at hl 0 rfl) ?_
            refine u_get hx hb hts inMo hown hK hV hn 0 rfl rfl 4 (by decide) w_fl_Mo_17 rfl rfl d_Mo_speed_45 ?_
            refine lv_iload_n hx hb d_Mo_speed_48 rfl (lv_at hl 3 rfl) ?_
            refine lv_bipush (v := 8) hx hb d_Mo_speed_49 (by decide) ?_
            refine e_iadd (v := nI (29 * j + 8)) hx hb d_Mo_speed_51 (nI_add (29 * j) 8) ?_
            refine lv_iconst (v := 3) hx hb d_Mo_speed_52 (by decide) ?_
            refine lv_iload hx hb d_Mo_speed_53 (lv_at hl 4 rfl) ?_
            refine e_imul (v := nI (3 * i)) hx hb d_Mo_speed_55 (nI_mul 3 i) ?_
            refine e_iadd (v := nI (29 * j + 8 + (3 * i))) hx hb d_Mo_speed_56 (nI_add (29 * j + 8) (3 * i)) ?_
            refine u_ialdN hx hb hK hV hn 1 rfl (by omega) (by decide) d_Mo_speed_57 ?_
            rw [o1]
            refine lv_aload_n hx hb d_Mo_speed_58 rfl (lv_at hl 0 rfl) ?_
            refine u_get hx hb hts inMo hown hK hV hn 0 rfl rfl 4 (by decide) w_fl_Mo_17 rfl rfl d_Mo_speed_59 ?_
            refine lv_iload_n hx hb d_Mo_speed_62 rfl (lv_at hl 3 rfl) ?_
            refine lv_bipush (v := 8) hx hb d_Mo_speed_63 (by decide) ?_
            refine e_iadd (v := nI (29 * j + 8)) hx hb d_Mo_speed_65 (nI_add (29 * j) 8) ?_
            refine lv_iconst (v := 3) hx hb d_Mo_speed_66 (by decide) ?_
            refine lv_iload hx hb d_Mo_speed_67 (lv_at hl 4 rfl) ?_
            refine e_imul (v := nI (3 * i)) hx hb d_Mo_speed_69 (nI_mul 3 i) ?_
            refine e_iadd (v := nI (29 * j + 8 + (3 * i))) hx hb d_Mo_speed_70 (nI_add (29 * j + 8) (3 * i)) ?_
            refine lv_iconst (v := 1) hx hb d_Mo_speed_71 (by decide) ?_
            refine e_iadd (v := nI (29 * j + 8 + (3 * i) + 1)) hx hb d_Mo_speed_72 (nI_add (29 * j + 8 + (3 * i)) 1) ?_
            refine u_ialdN hx hb hK hV hn 1 rfl (by omega) (by decide) d_Mo_speed_73 ?_
            rw [o2]
            refine v_call (va_runS (As := [.int (nI w9), .int (nI ((R.2.2.1.getD i z3).1)), .int (nI ((R.2.2.1.getD i z3).2.1))]) (rest := []) ⟨hx, hb, hml, hown, hts⟩ (c_Mo_in l G lo _ _ (nI w9) (nI ((R.2.2.1.getD i z3).1)) (nI ((R.2.2.1.getD i z3).2.1))) (kwS 3 hts w_co_Mo_in rfl rfl w_it_Mo w_ml_Mo_54 w_st_Mo_in (by decide +kernel) ⟨(Nat.le_of_ble_eq_true rfl), (Nat.le_of_ble_eq_true rfl)⟩) (u_preS hK hV hn [] rfl hz) rfl rfl hl.1 rfl (lv_room (Nat.le_of_ble_eq_true rfl)) d_Mo_speed_74 ⟨(Nat.le_of_ble_eq_true rfl), (Nat.le_of_ble_eq_true rfl)⟩) hV (fun r9 V9 H locs hp hV hle => ?_)
            obtain ⟨rfl, rfl, hz⟩ := hp
            replace hV := uu_same hV hn [] rfl
            rcases tf (inI (nI w9) (nI ((R.2.2.1.getD i z3).1)) (nI ((R.2.2.1.getD i z3).2.1))) with d_5 | d_5
            · have hE : spd R.2.1.2.2 R.2.2.1 w9 = (R.2.2.1.getD i z3).2.2 := by rw [← hS]; exact spd_yes (by omega) (of_decide_eq_true ((inI_N (by omega) (by omega) (by omega)).symm.trans d_5))
              have hV : vS G.1 cls lo s H locs (vU V [(m, eO 8 [.int 0, u1, u2, u3, .ref pa, u5, u6, u7, u8, u9, u10, u11, u12, u13, u14, u15, u16, u17, u18, u19, u20]), (pa, eI (gI G) 1769 P)]) := hV
              refine W.eq (g2 := F0 mi 77 ls [.int 1]) (by rw [d_5]; rfl) ?_
              refine lv_if_eq (tgt := 97) hx hb d_Mo_speed_77 (by decide) (fun c_6 => absurd c_6 (by decide)) (fun _ => ?_)
              refine lv_aload_n hx hb d_Mo_speed_80 rfl (lv_at hl 0 rfl) ?_
              refine u_get hx hb hts inMo hown hK hV hn 0 rfl rfl 4 (by decide) w_fl_Mo_17 rfl rfl d_Mo_speed_81 ?_
              refine lv_iload_n hx hb d_Mo_speed_84 rfl (lv_at hl 3 rfl) ?_
              refine lv_bipush (v := 8) hx hb d_Mo_speed_85 (by decide) ?_
              refine e_iadd (v := nI (29 * j + 8)) hx hb d_Mo_speed_87 (nI_add (29 * j) 8) ?_
              refine lv_iconst (v := 3) hx hb d_Mo_speed_88 (by decide) ?_
              refine lv_iload hx hb d_Mo_speed_89 (lv_at hl 4 rfl) ?_
              refine e_imul (v := nI (3 * i)) hx hb d_Mo_speed_91 (nI_mul 3 i) ?_
              refine e_iadd (v := nI (29 * j + 8 + (3 * i))) hx hb d_Mo_speed_92 (nI_add (29 * j + 8) (3 * i)) ?_
              refine lv_iconst (v := 2) hx hb d_Mo_speed_93 (by decide) ?_
              refine e_iadd (v := nI (29 * j + 8 + (3 * i) + 2)) hx hb d_Mo_speed_94 (nI_add (29 * j + 8 + (3 * i)) 2) ?_
              refine u_ialdN hx hb hK hV hn 1 rfl (by omega) (by decide) d_Mo_speed_95 ?_
              rw [o3]
              exact W.iret (v := nI ((R.2.2.1.getD i z3).2.2)) hx hb hr (v_end hV ⟨by rw [hX, hE]; rfl, by rw [hX]; rfl, hz⟩) hV.2.1.2.2 d_Mo_speed_96
            · have hN : spd R.2.1.2.2 (R.2.2.1.drop (i + 1)) w9 = spd R.2.1.2.2 R.2.2.1 w9 := by rw [← hS]; exact (spd_nx (by omega) (of_decide_eq_false ((inI_N (by omega) (by omega) (by omega)).symm.trans d_5))).symm
              have hV : vS G.1 cls lo s H locs (vU V [(m, eO 8 [.int 0, u1, u2, u3, .ref pa, u5, u6, u7, u8, u9, u10, u11, u12, u13, u14, u15, u16, u17, u18, u19, u20]), (pa, eI (gI G) 1769 P)]) := hV
              refine W.eq (g2 := F0 mi 77 ls [.int 0]) (by rw [d_5]; rfl) ?_
              refine lv_if_eq (tgt := 97) hx hb d_Mo_speed_77 (by decide) (fun _ => ?_) (fun c_7 => absurd c_7 (by decide))
              refine lv_iinc (v := nI (i + 1)) (lv' := [(4, .int (nI (i + 1))), (0, .ref m), (1, .int (nI j)), (2, .int (nI w9)), (3, .int (nI (29 * j)))]) hx hb d_Mo_speed_97 hl (k := 4) rfl (nI_add i 1) (by decide) rfl (fun ls hl => ?_)
              refine lv_goto (tgt := 29) hx hb d_Mo_speed_100 (by decide) ?_
              exact ih (i + 1) (by omega) (by omega) hN H locs ls hz hV (lv_sub hl [1, 2, 3, 4, 0] rfl)
      exact loop (R.2.2.1.length + 1) 0 (by omega) (by omega) rfl H locs ls hz hV (lv_sub hl [2, 3, 4, 1, 0] rfl)
    · have hX : speR Q y h = .inl 2 := speR_2 hq (inI_lt (a := 0) (b := 23) d_2)
      have hV : vS G.1 cls lo s H locs (vU V [(m, eO 8 [th, u1, u2, u3, .ref pa, u5, u6, u7, u8, u9, u10, u11, u12, u13, u14, u15, u16, u17, u18, u19, u20]), (pa, eI (gI G) 1769 P)]) := hV
      refine W.eq (g2 := F0 mi 13 ls [.int 0, .int 1, .ref m]) (by rw [d_2]; rfl) ?_
      refine v_call (va_runV (As := [.int 1, .int 0]) (rest := []) ⟨hx, hb, hml, hown, hts⟩ (c_Mo_asks l G lo _ _ m u1 u2 u3 (.ref pa) u5 u6 u7 u8 u9 u10 u11 u12 u13 u14 u15 u16 u17 u18 u19 u20 th (by simp) 1 0 (by decide) (by decide)) (kwV 2 hts w_co_Mo_asks rfl rfl w_it_Mo w_ml_Mo_132 w_im_Mo_asks w_se_Mo__Mo_asks (by decide +kernel) ⟨(Nat.le_of_ble_eq_true rfl), (Nat.le_of_ble_eq_true rfl)⟩) (u_preV hK hV hn [0] rfl hz 0 rfl rfl) rfl rfl hl.1 rfl (lv_room (Nat.le_of_ble_eq_true rfl)) d_Mo_speed_13 ⟨(Nat.le_of_ble_eq_true rfl), (Nat.le_of_ble_eq_true rfl)⟩) hV (fun r9 V9 H locs hp hV hle => ?_)
      obtain ⟨rfl, rfl, hz⟩ := hp
      replace hV := u_back hV hn [0] rfl
      have hV : vS G.1 cls lo s H locs (vU V [(m, eO 8 [.int 2, u1, u2, u3, .ref pa, u5, u6, u7, u8, u9, u10, u11, u12, u13, u14, u15, u16, u17, u18, u19, u20]), (pa, eI (gI G) 1769 P)]) := hV
      refine W.eq (g2 := F0 mi 16 ls [.int 0]) rfl ?_
      refine lv_if_ne (tgt := 21) hx hb d_Mo_speed_16 (by decide) (fun c_8 => absurd c_8 (by decide)) (fun _ => ?_)
      refine lv_iconst (v := 0) hx hb d_Mo_speed_19 (by decide) ?_
      exact W.iret (v := 0) hx hb hr (v_end hV ⟨by rw [hX]; rfl, by rw [hX]; rfl, hz⟩) hV.2.1.2.2 d_Mo_speed_20
  · have hq0 : qF Q y = none := Option.isNone_iff_eq_none.mp (by simpa using d_1)
    have hX : speR Q y h = .inl 1 := speR_1 hq0
    have hV : vS G.1 cls lo s H locs (vU V [(m, eO 8 [th, u1, u2, u3, .ref pa, u5, u6, u7, u8, u9, u10, u11, u12, u13, u14, u15, u16, u17, u18, u19, u20]), (pa, eI (gI G) 1769 P)]) := hV
    refine W.eq (g2 := F0 mi 6 ls [.int 0, .ref m]) (by rw [d_1]; rfl) ?_
    refine lv_iload_n hx hb d_Mo_speed_6 rfl (lv_at hl 2 rfl) ?_
    refine lv_iconst (v := 0) hx hb d_Mo_speed_7 (by decide) ?_
    refine lv_bipush (v := 23) hx hb d_Mo_speed_8 (by decide) ?_
    refine v_call (va_runS (As := [.int h, .int 0, .int 23]) (rest := [.int 0, .ref m]) ⟨hx, hb, hml, hown, hts⟩ (c_Mo_in l G lo _ _ h ((0 : Int32)) ((23 : Int32))) (kwS 3 hts w_co_Mo_in rfl rfl w_it_Mo w_ml_Mo_54 w_st_Mo_in (by decide +kernel) ⟨(Nat.le_of_ble_eq_true rfl), (Nat.le_of_ble_eq_true rfl)⟩) (u_preS hK hV hn [] rfl hz) rfl rfl hl.1 rfl (lv_room (Nat.le_of_ble_eq_true rfl)) d_Mo_speed_10 ⟨(Nat.le_of_ble_eq_true rfl), (Nat.le_of_ble_eq_true rfl)⟩) hV (fun r9 V9 H locs hp hV hle => ?_)
    obtain ⟨rfl, rfl, hz⟩ := hp
    replace hV := uu_same hV hn [] rfl
    rcases tf (inI h ((0 : Int32)) ((23 : Int32))) with d_9 | d_9
    · have hV : vS G.1 cls lo s H locs (vU V [(m, eO 8 [th, u1, u2, u3, .ref pa, u5, u6, u7, u8, u9, u10, u11, u12, u13, u14, u15, u16, u17, u18, u19, u20]), (pa, eI (gI G) 1769 P)]) := hV
      refine W.eq (g2 := F0 mi 13 ls [.int 1, .int 0, .ref m]) (by rw [d_9]; rfl) ?_
      refine v_call (va_runV (As := [.int 0, .int 1]) (rest := []) ⟨hx, hb, hml, hown, hts⟩ (c_Mo_asks l G lo _ _ m u1 u2 u3 (.ref pa) u5 u6 u7 u8 u9 u10 u11 u12 u13 u14 u15 u16 u17 u18 u19 u20 th (by simp) 0 1 (by decide) (by decide)) (kwV 2 hts w_co_Mo_asks rfl rfl w_it_Mo w_ml_Mo_132 w_im_Mo_asks w_se_Mo__Mo_asks (by decide +kernel) ⟨(Nat.le_of_ble_eq_true rfl), (Nat.le_of_ble_eq_true rfl)⟩) (u_preV hK hV hn [0] rfl hz 0 rfl rfl) rfl rfl hl.1 rfl (lv_room (Nat.le_of_ble_eq_true rfl)) d_Mo_speed_13 ⟨(Nat.le_of_ble_eq_true rfl), (Nat.le_of_ble_eq_true rfl)⟩) hV (fun r9 V9 H locs hp hV hle => ?_)
      obtain ⟨rfl, rfl, hz⟩ := hp
      replace hV := u_back hV hn [0] rfl
      have hV : vS G.1 cls lo s H locs (vU V [(m, eO 8 [.int 1, u1, u2, u3, .ref pa, u5, u6, u7, u8, u9, u10, u11, u12, u13, u14, u15, u16, u17, u18, u19, u20]), (pa, eI (gI G) 1769 P)]) := hV
      refine W.eq (g2 := F0 mi 16 ls [.int 0]) rfl ?_
      refine lv_if_ne (tgt := 21) hx hb d_Mo_speed_16 (by decide) (fun c_10 => absurd c_10 (by decide)) (fun _ => ?_)
      refine lv_iconst (v := 0) hx hb d_Mo_speed_19 (by decide) ?_
      exact W.iret (v := 0) hx hb hr (v_end hV ⟨by rw [hX]; rfl, by rw [hX]; rfl, hz⟩) hV.2.1.2.2 d_Mo_speed_20
    · have hV : vS G.1 cls lo s H locs (vU V [(m, eO 8 [th, u1, u2, u3, .ref pa, u5, u6, u7, u8, u9, u10, u11, u12, u13, u14, u15, u16, u17, u18, u19, u20]), (pa, eI (gI G) 1769 P)]) := hV
      refine W.eq (g2 := F0 mi 13 ls [.int 0, .int 0, .ref m]) (by rw [d_9]; rfl) ?_
      refine v_call (va_runV (As := [.int 0, .int 0]) (rest := []) ⟨hx, hb, hml, hown, hts⟩ (c_Mo_asks l G lo _ _ m u1 u2 u3 (.ref pa) u5 u6 u7 u8 u9 u10 u11 u12 u13 u14 u15 u16 u17 u18 u19 u20 th (by simp) 0 0 (by decide) (by decide)) (kwV 2 hts w_co_Mo_asks rfl rfl w_it_Mo w_ml_Mo_132 w_im_Mo_asks w_se_Mo__Mo_asks (by decide +kernel) ⟨(Nat.le_of_ble_eq_true rfl), (Nat.le_of_ble_eq_true rfl)⟩) (u_preV hK hV hn [0] rfl hz 0 rfl rfl) rfl rfl hl.1 rfl (lv_room (Nat.le_of_ble_eq_true rfl)) d_Mo_speed_13 ⟨(Nat.le_of_ble_eq_true rfl), (Nat.le_of_ble_eq_true rfl)⟩) hV (fun r9 V9 H locs hp hV hle => ?_)
      obtain ⟨rfl, rfl, hz⟩ := hp
      replace hV := u_back hV hn [0] rfl
      have hV : vS G.1 cls lo s H locs (vU V [(m, eO 8 [.int 1, u1, u2, u3, .ref pa, u5, u6, u7, u8, u9, u10, u11, u12, u13, u14, u15, u16, u17, u18, u19, u20]), (pa, eI (gI G) 1769 P)]) := hV
      refine W.eq (g2 := F0 mi 16 ls [.int 0]) rfl ?_
      refine lv_if_ne (tgt := 21) hx hb d_Mo_speed_16 (by decide) (fun c_11 => absurd c_11 (by decide)) (fun _ => ?_)
      refine lv_iconst (v := 0) hx hb d_Mo_speed_19 (by decide) ?_
      exact W.iret (v := 0) hx hb hr (v_end hV ⟨by rw [hX]; rfl, by rw [hX]; rfl, hz⟩) hV.2.1.2.2 d_Mo_speed_20

set_option maxHeartbeats 4000000 in
set_option maxRecDepth 100000 in
/-- name -/
theorem c_Mo_name (l : Launch) (G : Gx) (lo : Nat) (V : Vw) (sz : Nat) (m pa : Nat) (u1 u2 u3 u5 u6 u7 u8 u9 u10 u11 u12 u13 u14 u15 u16 u17 u18 u19 u20 : Value) (th : Value) (P : Nat → Int32) (Q : Nat → Option PcR) (hn : [m, pa].Nodup) (hM : mpA P Q) (y i : Int32) : Met l y_Mo_name ws_Mo_name ({ frames := 2, cells := 0, slots := 0, locals := 60 } : Room) (vPre G lo [.ref m, .int y, .int i] (vU V [(m, eO 8 [th, u1, u2, u3, .ref pa, u5, u6, u7, u8, u9, u10, u11, u12, u13, u14, u15, u16, u17, u18, u19, u20]), (pa, eI (gI G) 1769 P)]) sz) (vPost G lo (fun r V' k => r = some (.int (vaI (nmeR Q y i))) ∧ V' = vU V [(m, eO 8 [.int (thI (nmeR Q y i)), u1, u2, u3, .ref pa, u5, u6, u7, u8, u9, u10, u11, u12, u13, u14, u15, u16, u17, u18, u19, u20]), (pa, eI (gI G) 1769 P)] ∧ k = sz)) 0 0 (vL lo) := by
  refine vMet (R := RMo) (by decide) rfl (Nat.le_of_ble_eq_true rfl) ?_
  intro pg ev s mi args below meth cd hx hb hr hml hlk hnm hts hown hK hz hV ls hl
  have hl : lv_has ls 3 [(0, .ref m), (1, .int y), (2, .int i)] := hl
  have hV0 := hV
  obtain ⟨H, hH⟩ : ∃ H, H = s.heap := ⟨_, rfl⟩
  obtain ⟨locs, hlocs⟩ : ∃ locs : List Loc, locs = [] := ⟨_, rfl⟩
  rw [← hH, ← hlocs]
  rw [← hH] at hz
  replace hV : vS G.1 cls lo s H locs (vU V [(m, eO 8 [th, u1, u2, u3, .ref pa, u5, u6, u7, u8, u9, u10, u11, u12, u13, u14, u15, u16, u17, u18, u19, u20]), (pa, eI (gI G) 1769 P)]) := by rw [hH, hlocs]; exact hV
  clear hH hlocs hV0
  refine lv_aload_n hx hb d_Mo_name_0 rfl (lv_at hl 0 rfl) ?_
  refine lv_aload_n hx hb d_Mo_name_1 rfl (lv_at hl 0 rfl) ?_
  refine lv_iload_n hx hb d_Mo_name_2 rfl (lv_at hl 1 rfl) ?_
  refine v_call (va_runV (As := [.int y]) (rest := [.ref m]) ⟨hx, hb, hml, hown, hts⟩ (c_Mo_isPiece l G lo _ _ m pa th u1 u2 u3 u5 u6 u7 u8 u9 u10 u11 u12 u13 u14 u15 u16 u17 u18 u19 u20 P Q hn hM y) (kwV 1 hts w_co_Mo_isPiece rfl rfl w_it_Mo w_ml_Mo_129 w_im_Mo_isPiece w_se_Mo__Mo_isPiece (by decide +kernel) ⟨(Nat.le_of_ble_eq_true rfl), (Nat.le_of_ble_eq_true rfl)⟩) (u_preV hK hV hn [0, 1] rfl hz 0 rfl rfl) rfl rfl hl.1 rfl (lv_room (Nat.le_of_ble_eq_true rfl)) d_Mo_name_3 ⟨(Nat.le_of_ble_eq_true rfl), (Nat.le_of_ble_eq_true rfl)⟩) hV (fun r9 V9 H locs hp hV hle => ?_)
  obtain ⟨rfl, rfl, hz⟩ := hp
  replace hV := uu_same hV hn [0, 1] rfl
  rcases tf ((qF Q y).isSome) with d_1 | d_1
  · obtain ⟨j, R, hj1, hj2, ey, hQ, hq⟩ := qF_some d_1
    obtain ⟨hR, hRv⟩ := mpA_at hM hj1 hj2 hQ
    obtain ⟨r0, r1, r2, r3, r4, r5, r6, r7, rh, r17, r18, r19, r20, rl⟩ := hR
    have hV : vS G.1 cls lo s H locs (vU V [(m, eO 8 [th, u1, u2, u3, .ref pa, u5, u6, u7, u8, u9, u10, u11, u12, u13, u14, u15, u16, u17, u18, u19, u20]), (pa, eI (gI G) 1769 P)]) := hV
    refine W.eq (g2 := F0 mi 6 ls [.int 1, .ref m]) (by rw [d_1]; rfl) ?_
    refine lv_iload_n hx hb d_Mo_name_6 rfl (lv_at hl 2 rfl) ?_
    refine lv_if_lt (tgt := 14) hx hb d_Mo_name_7 (by decide) (fun c_2 => ?_) (fun c_2 => ?_)
    · have hX : nmeR Q y i = .inl 2 := nmeR_2 hq c_2
      refine lv_iconst (v := 0) hx hb d_Mo_name_14 (by decide) ?_
      refine v_call (va_runV (As := [.int 1, .int 0]) (rest := []) ⟨hx, hb, hml, hown, hts⟩ (c_Mo_asks l G lo _ _ m u1 u2 u3 (.ref pa) u5 u6 u7 u8 u9 u10 u11 u12 u13 u14 u15 u16 u17 u18 u19 u20 th (by simp) 1 0 (by decide) (by decide)) (kwV 2 hts w_co_Mo_asks rfl rfl w_it_Mo w_ml_Mo_132 w_im_Mo_asks w_se_Mo__Mo_asks (by decide +kernel) ⟨(Nat.le_of_ble_eq_true rfl), (Nat.le_of_ble_eq_true rfl)⟩) (u_preV hK hV hn [0] rfl hz 0 rfl rfl) rfl rfl hl.1 rfl (lv_room (Nat.le_of_ble_eq_true rfl)) d_Mo_name_15 ⟨(Nat.le_of_ble_eq_true rfl), (Nat.le_of_ble_eq_true rfl)⟩) hV (fun r9 V9 H locs hp hV hle => ?_)
      obtain ⟨rfl, rfl, hz⟩ := hp
      replace hV := u_back hV hn [0] rfl
      have hV : vS G.1 cls lo s H locs (vU V [(m, eO 8 [.int 2, u1, u2, u3, .ref pa, u5, u6, u7, u8, u9, u10, u11, u12, u13, u14, u15, u16, u17, u18, u19, u20]), (pa, eI (gI G) 1769 P)]) := hV
      refine W.eq (g2 := F0 mi 18 ls [.int 0]) rfl ?_
      refine lv_if_ne (tgt := 23) hx hb d_Mo_name_18 (by decide) (fun c_3 => absurd c_3 (by decide)) (fun _ => ?_)
      refine lv_iconst (v := 0) hx hb d_Mo_name_21 (by decide) ?_
      exact W.iret (v := 0) hx hb hr (v_end hV ⟨by rw [hX]; rfl, by rw [hX]; rfl, hz⟩) hV.2.1.2.2 d_Mo_name_22
    · have hX : nmeR Q y i = .inr (letC (nmL R.2.2.2.2) i) := nmeR_3 hq c_2
      obtain ⟨w9, hw9, ew⟩ := i_neg c_2
      refine lv_iconst (v := 1) hx hb d_Mo_name_10 (by decide) ?_
      refine lv_goto (tgt := 15) hx hb d_Mo_name_11 (by decide) ?_
      refine v_call (va_runV (As := [.int 1, .int 1]) (rest := []) ⟨hx, hb, hml, hown, hts⟩ (c_Mo_asks l G lo _ _ m u1 u2 u3 (.ref pa) u5 u6 u7 u8 u9 u10 u11 u12 u13 u14 u15 u16 u17 u18 u19 u20 th (by simp) 1 1 (by decide) (by decide)) (kwV 2 hts w_co_Mo_asks rfl rfl w_it_Mo w_ml_Mo_132 w_im_Mo_asks w_se_Mo__Mo_asks (by decide +kernel) ⟨(Nat.le_of_ble_eq_true rfl), (Nat.le_of_ble_eq_true rfl)⟩) (u_preV hK hV hn [0] rfl hz 0 rfl rfl) rfl rfl hl.1 rfl (lv_room (Nat.le_of_ble_eq_true rfl)) d_Mo_name_15 ⟨(Nat.le_of_ble_eq_true rfl), (Nat.le_of_ble_eq_true rfl)⟩) hV (fun r9 V9 H locs hp hV hle => ?_)
      obtain ⟨rfl, rfl, hz⟩ := hp
      replace hV := u_back hV hn [0] rfl
      have hV : vS G.1 cls lo s H locs (vU V [(m, eO 8 [.int 0, u1, u2, u3, .ref pa, u5, u6, u7, u8, u9, u10, u11, u12, u13, u14, u15, u16, u17, u18, u19, u20]), (pa, eI (gI G) 1769 P)]) := hV
      refine W.eq (g2 := F0 mi 18 ls [.int 1]) rfl ?_
      refine lv_if_ne (tgt := 23) hx hb d_Mo_name_18 (by decide) (fun _ => ?_) (fun c_4 => absurd c_4 (by decide))
      subst ew
      subst ey
      have hnl := nm_len hRv.2.2.2.2
      refine lv_iload_n hx hb d_Mo_name_23 rfl (lv_at hl 2 rfl) ?_
      refine lv_aload_n hx hb d_Mo_name_24 rfl (lv_at hl 0 rfl) ?_
      refine u_get hx hb hts inMo hown hK hV hn 0 rfl rfl 4 (by decide) w_fl_Mo_17 rfl rfl d_Mo_name_25 ?_
      refine lv_iload_n hx hb d_Mo_name_28 rfl (lv_at hl 1 rfl) ?_
      refine lv_bipush (v := 29) hx hb d_Mo_name_29 (by decide) ?_
      refine e_imul (v := nI (29 * j)) hx hb d_Mo_name_31 (by rw [Nat.mul_comm 29 j]; exact nI_mul j 29) ?_
      refine lv_bipush (v := 20) hx hb d_Mo_name_32 (by decide) ?_
      refine e_iadd (v := nI (29 * j + 20)) hx hb d_Mo_name_34 (nI_add (29 * j) 20) ?_
      refine u_ialdN hx hb hK hV hn 1 rfl (by omega) (by decide) d_Mo_name_35 ?_
      rw [r20]
      refine lv_icmp_ge (tgt := 56) hx hb d_Mo_name_36 (by decide) (fun c_5 => ?_) (fun c_5 => ?_)
      · replace c_5 : (nmL R.2.2.2.2).length ≤ w9 := (nI_leI (a := (nmL R.2.2.2.2).length) (b := w9) (by omega) (by omega)).mp c_5
        have hE : letC (nmL R.2.2.2.2) (nI w9) = -1 := letC_hi (fun z => absurd ((nI_ltI hw9 (by omega)).mp z) (by omega))
        refine lv_iconst (v := (-1)) hx hb d_Mo_name_56 (by decide) ?_
        exact W.iret (v := (-1)) hx hb hr (v_end hV ⟨by rw [hX, hE]; rfl, by rw [hX]; rfl, hz⟩) hV.2.1.2.2 d_Mo_name_57
      · replace c_5 : ¬ (nmL R.2.2.2.2).length ≤ w9 := fun z9 => c_5 ((nI_leI (a := (nmL R.2.2.2.2).length) (b := w9) (by omega) (by omega)).mpr z9)
        have hE : letC (nmL R.2.2.2.2) (nI w9) = nI ((nmL R.2.2.2.2).getD w9 0) := letC_in (by omega) hnl
        refine lv_aload_n hx hb d_Mo_name_39 rfl (lv_at hl 0 rfl) ?_
        refine u_get hx hb hts inMo hown hK hV hn 0 rfl rfl 4 (by decide) w_fl_Mo_17 rfl rfl d_Mo_name_40 ?_
        refine lv_iload_n hx hb d_Mo_name_43 rfl (lv_at hl 1 rfl) ?_
        refine lv_bipush (v := 29) hx hb d_Mo_name_44 (by decide) ?_
        refine e_imul (v := nI (29 * j)) hx hb d_Mo_name_46 (by rw [Nat.mul_comm 29 j]; exact nI_mul j 29) ?_
        refine lv_bipush (v := 21) hx hb d_Mo_name_47 (by decide) ?_
        refine e_iadd (v := nI (29 * j + 21)) hx hb d_Mo_name_49 (nI_add (29 * j) 21) ?_
        refine lv_iload_n hx hb d_Mo_name_50 rfl (lv_at hl 2 rfl) ?_
        refine e_iadd (v := nI (29 * j + 21 + w9)) hx hb d_Mo_name_51 (nI_add (29 * j + 21) w9) ?_
        refine u_ialdN hx hb hK hV hn 1 rfl (by omega) (by decide) d_Mo_name_52 ?_
        rw [rl w9 (by omega)]
        refine lv_goto (tgt := 57) hx hb d_Mo_name_53 (by decide) ?_
        exact W.iret (v := nI ((nmL R.2.2.2.2).getD w9 0)) hx hb hr (v_end hV ⟨by rw [hX, hE]; rfl, by rw [hX]; rfl, hz⟩) hV.2.1.2.2 d_Mo_name_57
  · have hq0 : qF Q y = none := Option.isNone_iff_eq_none.mp (by simpa using d_1)
    have hX : nmeR Q y i = .inl 1 := nmeR_1 hq0
    have hV : vS G.1 cls lo s H locs (vU V [(m, eO 8 [th, u1, u2, u3, .ref pa, u5, u6, u7, u8, u9, u10, u11, u12, u13, u14, u15, u16, u17, u18, u19, u20]), (pa, eI (gI G) 1769 P)]) := hV
    refine W.eq (g2 := F0 mi 6 ls [.int 0, .ref m]) (by rw [d_1]; rfl) ?_
    refine lv_iload_n hx hb d_Mo_name_6 rfl (lv_at hl 2 rfl) ?_
    refine lv_if_lt (tgt := 14) hx hb d_Mo_name_7 (by decide) (fun c_6 => ?_) (fun c_6 => ?_)
    · refine lv_iconst (v := 0) hx hb d_Mo_name_14 (by decide) ?_
      refine v_call (va_runV (As := [.int 0, .int 0]) (rest := []) ⟨hx, hb, hml, hown, hts⟩ (c_Mo_asks l G lo _ _ m u1 u2 u3 (.ref pa) u5 u6 u7 u8 u9 u10 u11 u12 u13 u14 u15 u16 u17 u18 u19 u20 th (by simp) 0 0 (by decide) (by decide)) (kwV 2 hts w_co_Mo_asks rfl rfl w_it_Mo w_ml_Mo_132 w_im_Mo_asks w_se_Mo__Mo_asks (by decide +kernel) ⟨(Nat.le_of_ble_eq_true rfl), (Nat.le_of_ble_eq_true rfl)⟩) (u_preV hK hV hn [0] rfl hz 0 rfl rfl) rfl rfl hl.1 rfl (lv_room (Nat.le_of_ble_eq_true rfl)) d_Mo_name_15 ⟨(Nat.le_of_ble_eq_true rfl), (Nat.le_of_ble_eq_true rfl)⟩) hV (fun r9 V9 H locs hp hV hle => ?_)
      obtain ⟨rfl, rfl, hz⟩ := hp
      replace hV := u_back hV hn [0] rfl
      have hV : vS G.1 cls lo s H locs (vU V [(m, eO 8 [.int 1, u1, u2, u3, .ref pa, u5, u6, u7, u8, u9, u10, u11, u12, u13, u14, u15, u16, u17, u18, u19, u20]), (pa, eI (gI G) 1769 P)]) := hV
      refine W.eq (g2 := F0 mi 18 ls [.int 0]) rfl ?_
      refine lv_if_ne (tgt := 23) hx hb d_Mo_name_18 (by decide) (fun c_7 => absurd c_7 (by decide)) (fun _ => ?_)
      refine lv_iconst (v := 0) hx hb d_Mo_name_21 (by decide) ?_
      exact W.iret (v := 0) hx hb hr (v_end hV ⟨by rw [hX]; rfl, by rw [hX]; rfl, hz⟩) hV.2.1.2.2 d_Mo_name_22
    · refine lv_iconst (v := 1) hx hb d_Mo_name_10 (by decide) ?_
      refine lv_goto (tgt := 15) hx hb d_Mo_name_11 (by decide) ?_
      refine v_call (va_runV (As := [.int 0, .int 1]) (rest := []) ⟨hx, hb, hml, hown, hts⟩ (c_Mo_asks l G lo _ _ m u1 u2 u3 (.ref pa) u5 u6 u7 u8 u9 u10 u11 u12 u13 u14 u15 u16 u17 u18 u19 u20 th (by simp) 0 1 (by decide) (by decide)) (kwV 2 hts w_co_Mo_asks rfl rfl w_it_Mo w_ml_Mo_132 w_im_Mo_asks w_se_Mo__Mo_asks (by decide +kernel) ⟨(Nat.le_of_ble_eq_true rfl), (Nat.le_of_ble_eq_true rfl)⟩) (u_preV hK hV hn [0] rfl hz 0 rfl rfl) rfl rfl hl.1 rfl (lv_room (Nat.le_of_ble_eq_true rfl)) d_Mo_name_15 ⟨(Nat.le_of_ble_eq_true rfl), (Nat.le_of_ble_eq_true rfl)⟩) hV (fun r9 V9 H locs hp hV hle => ?_)
      obtain ⟨rfl, rfl, hz⟩ := hp
      replace hV := u_back hV hn [0] rfl
      have hV : vS G.1 cls lo s H locs (vU V [(m, eO 8 [.int 1, u1, u2, u3, .ref pa, u5, u6, u7, u8, u9, u10, u11, u12, u13, u14, u15, u16, u17, u18, u19, u20]), (pa, eI (gI G) 1769 P)]) := hV
      refine W.eq (g2 := F0 mi 18 ls [.int 0]) rfl ?_
      refine lv_if_ne (tgt := 23) hx hb d_Mo_name_18 (by decide) (fun c_8 => absurd c_8 (by decide)) (fun _ => ?_)
      refine lv_iconst (v := 0) hx hb d_Mo_name_21 (by decide) ?_
      exact W.iret (v := 0) hx hb hr (v_end hV ⟨by rw [hX]; rfl, by rw [hX]; rfl, hz⟩) hV.2.1.2.2 d_Mo_name_22
