def mkOk (mk : Nat → Int32) (M : Nat) : Prop := ∀ j, j < 41 → mk j = b2i (M.testBit j)
theorem mkOk_set {mk : Nat → Int32} {M i : Nat} (h : mkOk mk M) : mkOk (upd mk i 1) (M ||| 2 ^ i) := by
  intro j hj
  by_cases he : j = i
  · subst he
    rw [Nat.testBit_or, two_bit, decide_eq_true rfl, Bool.or_true]
    simp [upd, b2i]
  · rw [Nat.testBit_or, two_bit, decide_eq_false (fun z => he z.symm), Bool.or_false]
    have := h j hj
    simpa [upd, he] using this
theorem z_1 : vp_nar .boolean 1 = 1 := by decide
theorem z_0 : vp_nar .boolean 0 = 0 := by decide
theorem ends_0 {R : PcR} (h : pcV R) : (endsN R).testBit 0 = false := by
  unfold endsN
  rw [Nat.testBit_or, two_bit, two_bit, decide_eq_false (by have := h.1.1; omega), decide_eq_false (by have := h.1.2.2.1; omega)]; rfl

set_option maxHeartbeats 4000000 in
set_option maxRecDepth 100000 in
/-- spreads -/
theorem c_Mo_spreads (l : Launch) (G : Gx) (lo : Nat) (V : Vw) (sz : Nat) (m pa ma : Nat) (u0 u1 u2 u3 u5 u6 u7 u8 u9 u10 u11 u12 u13 u14 u15 u16 u17 u19 u20 : Value) (P mk : Nat → Int32) (Q : Nat → Option PcR) (R : PcR) (hn : [m, pa, ma].Nodup) (hM : mpA P Q) (j : Nat) (hj1 : 1 ≤ j) (hj2 : j ≤ 60) (hR : mpR P (29 * j) R) (hRv : pcV R) : Met l y_Mo_spreads ws_Mo_spreads ({ frames := 3, cells := 0, slots := 0, locals := 90 } : Room) (vPre G lo [.ref m, .int (nI j)] (vU V [(m, eO 8 [u0, u1, u2, u3, .ref pa, u5, u6, u7, u8, u9, u10, u11, u12, u13, u14, u15, u16, u17, .ref ma, u19, u20]), (pa, eI (gI G) 1769 P), (ma, eI (gZ G) 41 mk)]) sz) (vPost G lo (fun r V' k => r = none ∧ (∃ f1 : Nat → Int32, V' = vU V [(m, eO 8 [u0, u1, u2, u3, .ref pa, u5, u6, u7, u8, u9, u10, u11, u12, u13, u14, u15, u16, u17, .ref ma, u19, u20]), (pa, eI (gI G) 1769 P), (ma, eI (gZ G) 41 f1)] ∧ mkOk f1 (rnds Q (endsN R) 40)) ∧ k = sz)) 0 0 (vL lo) := by
  refine vMet (R := RMo) (by decide) rfl (Nat.le_of_ble_eq_true rfl) ?_
  intro pg ev s mi args below meth cd hx hb hr hml hlk hnm hts hown hK hz hV ls hl
  have hl : lv_has ls 5 [(0, .ref m), (1, .int (nI j))] := hl
  have hV0 := hV
  obtain ⟨H, hH⟩ : ∃ H, H = s.heap := ⟨_, rfl⟩
  obtain ⟨locs, hlocs⟩ : ∃ locs : List Loc, locs = [] := ⟨_, rfl⟩
  rw [← hH, ← hlocs]
  rw [← hH] at hz
  replace hV : vS G.1 cls lo s H locs (vU V [(m, eO 8 [u0, u1, u2, u3, .ref pa, u5, u6, u7, u8, u9, u10, u11, u12, u13, u14, u15, u16, u17, .ref ma, u19, u20]), (pa, eI (gI G) 1769 P), (ma, eI (gZ G) 41 mk)]) := by rw [hH, hlocs]; exact hV
  clear hH hlocs hV0
  obtain ⟨r0, r1, r2, r3, r4, r5, r6, r7, rh, r17, r18, r19, r20, rl⟩ := hR
  obtain ⟨⟨z1, z2, z3_, z4⟩, -⟩ := id hRv
  have hP := mpA_V hM
  have hE := ends_lt hRv
  have hE0 := ends_0 hRv
  have hcl : gclo Q (rnds Q (endsN R) 40) := gclo_of (pclo_fix (rnds_all hP hE hE0))
  have hcs : bsub (endsN R) (rnds Q (endsN R) 40) := rnds_sub Q (endsN R) 40
  have hlt : (rnds Q (endsN R) 40) < 2 ^ 41 := rnds_lt9 hP hE 40
  refine lv_iconst (v := 0) hx hb d_Mo_spreads_0 (by decide) ?_
  refine lv_istore_n (lv' := [(2, .int 0), (0, .ref m), (1, .int (nI j))]) hx hb d_Mo_spreads_1 rfl hl (by decide) rfl (fun ls hl => ?_)
  have l0 : ∀ (k : Nat) (i : Nat) (mk : Nat → Int32), 41 - i < k → (i ≤ 41) → (∀ q, q < i → mk q = 0) → ∀ (H : Heap) (locs : List Loc) (ls : Array Slot), H.size = sz → vS G.1 cls lo s H locs (vU V [(m, eO 8 [u0, u1, u2, u3, .ref pa, u5, u6, u7, u8, u9, u10, u11, u12, u13, u14, u15, u16, u17, .ref ma, u19, u20]), (pa, eI (gI G) 1769 P), (ma, eI (gZ G) 41 mk)]) → lv_has ls 5 [(0, .ref m), (1, .int (nI j)), (2, .int (nI i))] → W pg l ev ({ frames := 3, cells := 0, slots := 0, locals := 90 } : Room) s mi args below meth cd H locs 0 0 (MQ below (vPost G lo (fun r V' k => r = none ∧ (∃ f1 : Nat → Int32, V' = vU V [(m, eO 8 [u0, u1, u2, u3, .ref pa, u5, u6, u7, u8, u9, u10, u11, u12, u13, u14, u15, u16, u17, .ref ma, u19, u20]), (pa, eI (gI G) 1769 P), (ma, eI (gZ G) 41 f1)] ∧ mkOk f1 (rnds Q (endsN R) 40)) ∧ k = sz)) args s 0 0 (vL lo)) (F0 mi 2 ls []) := by
    intro k
    induction k with
    | zero => intro i mk hk; exact absurd hk (by omega)
    | succ k ih =>
      intro i mk hk hi hz0 H locs ls hz hV hl
      refine lv_iload_n hx hb d_Mo_spreads_2 rfl (lv_at hl 2 rfl) ?_
      refine lv_bipush (v := 41) hx hb d_Mo_spreads_3 (by decide) ?_
      refine lv_icmp_ge (tgt := 21) hx hb d_Mo_spreads_5 (by decide) (fun c_1 => ?_) (fun c_1 => ?_)
      · replace c_1 : 41 ≤ i := (nI_leI (a := 41) (b := i) (by omega) (by omega)).mp c_1
        refine lv_aload_n hx hb d_Mo_spreads_21 rfl (lv_at hl 0 rfl) ?_
        refine u_get hx hb hts inMo hown hK hV hn 0 rfl rfl 18 (by decide) w_fl_Mo_44 rfl rfl d_Mo_spreads_22 ?_
        refine lv_aload_n hx hb d_Mo_spreads_25 rfl (lv_at hl 0 rfl) ?_
        refine u_get hx hb hts inMo hown hK hV hn 0 rfl rfl 4 (by decide) w_fl_Mo_17 rfl rfl d_Mo_spreads_26 ?_
        refine lv_iload_n hx hb d_Mo_spreads_29 rfl (lv_at hl 1 rfl) ?_
        refine lv_bipush (v := 29) hx hb d_Mo_spreads_30 (by decide) ?_
        refine e_imul (v := nI (29 * j)) hx hb d_Mo_spreads_32 (by rw [Nat.mul_comm 29 j]; exact nI_mul j 29) ?_
        refine lv_iconst (v := 1) hx hb d_Mo_spreads_33 (by decide) ?_
        refine e_iadd (v := nI (29 * j + 1)) hx hb d_Mo_spreads_34 (nI_add (29 * j) 1) ?_
        refine u_ialdN hx hb hK hV hn 1 rfl (by omega) (by decide) d_Mo_spreads_35 ?_
        rw [r1]
        refine lv_iconst (v := 1) hx hb d_Mo_spreads_36 (by decide) ?_
        refine u_zastN hx hb hK hV hn 2 rfl (by omega) (by decide) d_Mo_spreads_37 (fun H locs hV hz9 => ?_)
        have hV : vS G.1 cls lo s H locs (vU V [(m, eO 8 [u0, u1, u2, u3, .ref pa, u5, u6, u7, u8, u9, u10, u11, u12, u13, u14, u15, u16, u17, .ref ma, u19, u20]), (pa, eI (gI G) 1769 P), (ma, eI (gZ G) 41 (upd mk R.1.1 (vp_nar .boolean 1)))]) := hV
        replace hz := hz9.trans hz
        rw [z_1] at hV
        refine lv_aload_n hx hb d_Mo_spreads_38 rfl (lv_at hl 0 rfl) ?_
        refine u_get hx hb hts inMo hown hK hV hn 0 rfl rfl 18 (by decide) w_fl_Mo_44 rfl rfl d_Mo_spreads_39 ?_
        refine lv_aload_n hx hb d_Mo_spreads_42 rfl (lv_at hl 0 rfl) ?_
        refine u_get hx hb hts inMo hown hK hV hn 0 rfl rfl 4 (by decide) w_fl_Mo_17 rfl rfl d_Mo_spreads_43 ?_
        refine lv_iload_n hx hb d_Mo_spreads_46 rfl (lv_at hl 1 rfl) ?_
        refine lv_bipush (v := 29) hx hb d_Mo_spreads_47 (by decide) ?_
        refine e_imul (v := nI (29 * j)) hx hb d_Mo_spreads_49 (by rw [Nat.mul_comm 29 j]; exact nI_mul j 29) ?_
        refine lv_iconst (v := 2) hx hb d_Mo_spreads_50 (by decide) ?_
        refine e_iadd (v := nI (29 * j + 2)) hx hb d_Mo_spreads_51 (nI_add (29 * j) 2) ?_
        refine u_ialdN hx hb hK hV hn 1 rfl (by omega) (by decide) d_Mo_spreads_52 ?_
        rw [r2]
        refine lv_iconst (v := 1) hx hb d_Mo_spreads_53 (by decide) ?_
        refine u_zastN hx hb hK hV hn 2 rfl (by omega) (by decide) d_Mo_spreads_54 (fun H locs hV hz9 => ?_)
        have hV : vS G.1 cls lo s H locs (vU V [(m, eO 8 [u0, u1, u2, u3, .ref pa, u5, u6, u7, u8, u9, u10, u11, u12, u13, u14, u15, u16, u17, .ref ma, u19, u20]), (pa, eI (gI G) 1769 P), (ma, eI (gZ G) 41 (upd (upd mk R.1.1 1) R.1.2.2 (vp_nar .boolean 1)))]) := hV
        replace hz := hz9.trans hz
        rw [z_1] at hV
        have hmz : mkOk mk 0 := fun q hq => by rw [hz0 q (by omega), Nat.zero_testBit]; rfl
        have hends : mkOk (upd (upd mk R.1.1 1) R.1.2.2 1) (endsN R) := by
          have h9 := mkOk_set (i := R.1.2.2) (mkOk_set (i := R.1.1) hmz)
          rw [Nat.zero_or] at h9
          exact h9
        refine lv_iconst (v := 1) hx hb d_Mo_spreads_55 (by decide) ?_
        refine lv_istore_n (lv' := [(2, .int 1), (0, .ref m), (1, .int (nI j))]) hx hb d_Mo_spreads_56 rfl hl (by decide) rfl (fun ls hl => ?_)
        refine lv_iload_n hx hb d_Mo_spreads_57 rfl (lv_at hl 0 rfl) ?_
        refine lv_if_eq (tgt := 139) hx hb d_Mo_spreads_58 (by decide) (fun c_2 => absurd c_2 (by decide)) (fun _ => ?_)
        have round : ∀ (k : Nat) (M : Nat) (mk : Nat → Int32), 40 - cnt (fun j => M.testBit j) 40 < k → (mkOk mk M) → (bsub (endsN R) M) → (bsub M (rnds Q (endsN R) 40)) → (M < 2 ^ 41) → ∀ (H : Heap) (locs : List Loc) (ls : Array Slot), H.size = sz → vS G.1 cls lo s H locs (vU V [(m, eO 8 [u0, u1, u2, u3, .ref pa, u5, u6, u7, u8, u9, u10, u11, u12, u13, u14, u15, u16, u17, .ref ma, u19, u20]), (pa, eI (gI G) 1769 P), (ma, eI (gZ G) 41 mk)]) → lv_has ls 5 [(0, .ref m), (1, .int (nI j))] → W pg l ev ({ frames := 3, cells := 0, slots := 0, locals := 90 } : Room) s mi args below meth cd H locs 0 0 (MQ below (vPost G lo (fun r V' k => r = none ∧ (∃ f1 : Nat → Int32, V' = vU V [(m, eO 8 [u0, u1, u2, u3, .ref pa, u5, u6, u7, u8, u9, u10, u11, u12, u13, u14, u15, u16, u17, .ref ma, u19, u20]), (pa, eI (gI G) 1769 P), (ma, eI (gZ G) 41 f1)] ∧ mkOk f1 (rnds Q (endsN R) 40)) ∧ k = sz)) args s 0 0 (vL lo)) (F0 mi 61 ls []) := by
          intro k
          induction k with
          | zero => intro M mk hk0; exact absurd hk0 (by omega)
          | succ k ih =>
            intro M mk hk0 hmk hM1 hM2 hM3 H locs ls hz hV hl
            refine lv_iconst (v := 0) hx hb d_Mo_spreads_61 (by decide) ?_
            refine lv_istore_n (lv' := [(2, .int 0), (0, .ref m), (1, .int (nI j))]) hx hb d_Mo_spreads_62 rfl hl (by decide) rfl (fun ls hl => ?_)
            refine lv_iconst (v := 1) hx hb d_Mo_spreads_63 (by decide) ?_
            refine lv_istore_n (lv' := [(3, .int 1), (2, .int 0), (0, .ref m), (1, .int (nI j))]) hx hb d_Mo_spreads_64 rfl hl (by decide) rfl (fun ls hl => ?_)
            have ihR := @ih
            have la : ∀ (k : Nat) (a o9 M2 : Nat) (mk2 : Nat → Int32), 40 - a < k → (a ≤ 40) → (o9 ≤ 1) → (mkOk mk2 M2) → (bsub M M2) → (bsub M2 (rnds Q (endsN R) 40)) → (M2 < 2 ^ 41) → ((o9 = 0 → M2 = M ∧ ∀ x y, 1 ≤ x → x ≤ a → 1 ≤ y → y ≤ 40 → M2.testBit x = true → goQ Q 1 x y 60 = true → M2.testBit y = true) ∧ (o9 ≠ 0 → cnt (fun j => M.testBit j) 40 < cnt (fun j => M2.testBit j) 40)) → ∀ (H : Heap) (locs : List Loc) (ls : Array Slot), H.size = sz → vS G.1 cls lo s H locs (vU V [(m, eO 8 [u0, u1, u2, u3, .ref pa, u5, u6, u7, u8, u9, u10, u11, u12, u13, u14, u15, u16, u17, .ref ma, u19, u20]), (pa, eI (gI G) 1769 P), (ma, eI (gZ G) 41 mk2)]) → lv_has ls 5 [(0, .ref m), (1, .int (nI j)), (2, .int (nI o9)), (3, .int (nI (a + 1)))] → W pg l ev ({ frames := 3, cells := 0, slots := 0, locals := 90 } : Room) s mi args below meth cd H locs 0 0 (MQ below (vPost G lo (fun r V' k => r = none ∧ (∃ f1 : Nat → Int32, V' = vU V [(m, eO 8 [u0, u1, u2, u3, .ref pa, u5, u6, u7, u8, u9, u10, u11, u12, u13, u14, u15, u16, u17, .ref ma, u19, u20]), (pa, eI (gI G) 1769 P), (ma, eI (gZ G) 41 f1)] ∧ mkOk f1 (rnds Q (endsN R) 40)) ∧ k = sz)) args s 0 0 (vL lo)) (F0 mi 65 ls []) := by
              intro k
              induction k with
              | zero => intro a o9 M2 mk2 hk; exact absurd hk (by omega)
              | succ k ih =>
                intro a o9 M2 mk2 hk ha ho hmk2 hs1 hs2 hs3 hmo H locs ls hz hV hl
                refine lv_iload_n hx hb d_Mo_spreads_65 rfl (lv_at hl 3 rfl) ?_
                refine lv_bipush (v := 41) hx hb d_Mo_spreads_66 (by decide) ?_
                refine lv_icmp_ge (tgt := 136) hx hb d_Mo_spreads_68 (by decide) (fun c_3 => ?_) (fun c_3 => ?_)
                · replace c_3 : 41 ≤ a + 1 := (nI_leI (a := 41) (b := a + 1) (by omega) (by omega)).mp c_3
                  refine lv_goto (tgt := 57) hx hb d_Mo_spreads_136 (by decide) ?_
                  refine lv_iload_n hx hb d_Mo_spreads_57 rfl (lv_at hl 2 rfl) ?_
                  refine lv_if_eq (tgt := 139) hx hb d_Mo_spreads_58 (by decide) (fun c_4 => ?_) (fun c_4 => ?_)
                  · replace c_4 : o9 = 0 := (nI_eq (a := o9) (b := 0) (by omega) (by omega)).mp c_4
                    obtain ⟨q1, q2⟩ := hmo.1 (by omega)
                    subst q1
                    have hg9 : gclo Q M2 := fun x y x1 x2 y1 y2 hx hy => q2 x y x1 (by omega) y1 y2 hx hy
                    have hMC := reach_eq hP hg9 (bsub_tr hM1 hs1) hs2
                    exact W.vret hx hb hr (v_end hV ⟨rfl, ⟨mk2, rfl, by rw [← hMC]; exact hmk2⟩, hz⟩) hV.2.1.2.2 d_Mo_spreads_139
                  · replace c_4 : ¬ o9 = 0 := fun z9 => c_4 ((nI_eq (a := o9) (b := 0) (by omega) (by omega)).mpr z9)
                    have hlt9 := hmo.2 (by omega)
                    exact ihR M2 mk2 (by have := cnt_le (fun j => M2.testBit j) 40; omega) hmk2 (bsub_tr hM1 hs1) hs2 hs3 H locs ls hz hV (lv_sub hl [0, 1] rfl)
                · replace c_3 : ¬ 41 ≤ a + 1 := fun z9 => c_3 ((nI_leI (a := 41) (b := a + 1) (by omega) (by omega)).mpr z9)
                  refine lv_iconst (v := 1) hx hb d_Mo_spreads_71 (by decide) ?_
                  refine lv_istore (lv' := [(4, .int 1), (0, .ref m), (1, .int (nI j)), (2, .int (nI o9)), (3, .int (nI (a + 1)))]) hx hb d_Mo_spreads_72 hl (by decide) rfl (fun ls hl => ?_)
                  have ihA := @ih
                  have lb : ∀ (k : Nat) (b o9 M2 : Nat) (mk2 : Nat → Int32), 40 - b < k → (b ≤ 40) → (o9 ≤ 1) → (mkOk mk2 M2) → (bsub M M2) → (bsub M2 (rnds Q (endsN R) 40)) → (M2 < 2 ^ 41) → ((o9 = 0 → M2 = M ∧ (∀ x y, 1 ≤ x → x ≤ a → 1 ≤ y → y ≤ 40 → M2.testBit x = true → goQ Q 1 x y 60 = true → M2.testBit y = true) ∧ ∀ y, 1 ≤ y → y ≤ b → M2.testBit (a + 1) = true → goQ Q 1 (a + 1) y 60 = true → M2.testBit y = true) ∧ (o9 ≠ 0 → cnt (fun j => M.testBit j) 40 < cnt (fun j => M2.testBit j) 40)) → ∀ (H : Heap) (locs : List Loc) (ls : Array Slot), H.size = sz → vS G.1 cls lo s H locs (vU V [(m, eO 8 [u0, u1, u2, u3, .ref pa, u5, u6, u7, u8, u9, u10, u11, u12, u13, u14, u15, u16, u17, .ref ma, u19, u20]), (pa, eI (gI G) 1769 P), (ma, eI (gZ G) 41 mk2)]) → lv_has ls 5 [(0, .ref m), (1, .int (nI j)), (2, .int (nI o9)), (3, .int (nI (a + 1))), (4, .int (nI (b + 1)))] → W pg l ev ({ frames := 3, cells := 0, slots := 0, locals := 90 } : Room) s mi args below meth cd H locs 0 0 (MQ below (vPost G lo (fun r V' k => r = none ∧ (∃ f1 : Nat → Int32, V' = vU V [(m, eO 8 [u0, u1, u2, u3, .ref pa, u5, u6, u7, u8, u9, u10, u11, u12, u13, u14, u15, u16, u17, .ref ma, u19, u20]), (pa, eI (gI G) 1769 P), (ma, eI (gZ G) 41 f1)] ∧ mkOk f1 (rnds Q (endsN R) 40)) ∧ k = sz)) args s 0 0 (vL lo)) (F0 mi 74 ls []) := by
                    intro k
                    induction k with
                    | zero => intro b o9 M2 mk2 hk2; exact absurd hk2 (by omega)
                    | succ k ih =>
                      intro b o9 M2 mk2 hk2 hb8 ho hmk2 hs1 hs2 hs3 hmo H locs ls hz hV hl
                      refine lv_iload hx hb d_Mo_spreads_74 (lv_at hl 4 rfl) ?_
                      refine lv_bipush (v := 41) hx hb d_Mo_spreads_76 (by decide) ?_
                      refine lv_icmp_ge (tgt := 130) hx hb d_Mo_spreads_78 (by decide) (fun c_5 => ?_) (fun c_5 => ?_)
                      · replace c_5 : 41 ≤ b + 1 := (nI_leI (a := 41) (b := b + 1) (by omega) (by omega)).mp c_5
                        have hrow : ∀ y, 1 ≤ y → y ≤ 40 → M2.testBit (a + 1) = true → goQ Q 1 (a + 1) y 60 = true → o9 = 0 → M2.testBit y = true := fun y y1 y2 hx hy z => (hmo.1 z).2.2 y y1 (by omega) hx hy
                        refine lv_iinc (v := nI (a + 2)) (lv' := [(3, .int (nI (a + 2))), (0, .ref m), (1, .int (nI j)), (2, .int (nI o9)), (4, .int (nI (b + 1)))]) hx hb d_Mo_spreads_130 hl (k := 3) rfl (nI_add (a + 1) 1) (by decide) rfl (fun ls hl => ?_)
                        refine lv_goto (tgt := 65) hx hb d_Mo_spreads_133 (by decide) ?_
                        exact ihA (a + 1) o9 M2 mk2 (by omega) (by omega) (by omega) hmk2 hs1 hs2 hs3 ⟨fun z => ⟨(hmo.1 z).1, fun x y x1 x2 y1 y2 hx hy => by rcases Nat.lt_or_ge x (a + 1) with q | q; exact (hmo.1 z).2.1 x y x1 (by omega) y1 y2 hx hy; rw [show x = a + 1 by omega] at hx hy; exact hrow y y1 y2 hx hy z⟩, hmo.2⟩ H locs ls hz hV (lv_sub hl [1, 2, 3, 0] rfl)
                      · replace c_5 : ¬ 41 ≤ b + 1 := fun z9 => c_5 ((nI_leI (a := 41) (b := b + 1) (by omega) (by omega)).mpr z9)
                        refine lv_aload_n hx hb d_Mo_spreads_81 rfl (lv_at hl 0 rfl) ?_
                        refine u_get hx hb hts inMo hown hK hV hn 0 rfl rfl 18 (by decide) w_fl_Mo_44 rfl rfl d_Mo_spreads_82 ?_
                        refine lv_iload_n hx hb d_Mo_spreads_85 rfl (lv_at hl 3 rfl) ?_
                        refine u_zaldN hx hb hK hV hn 2 rfl (by omega) (by decide) d_Mo_spreads_86 ?_
                        rw [hmk2 (a + 1) (by omega)]
                        refine lv_if_eq (tgt := 130) hx hb d_Mo_spreads_87 (by decide) (fun c_6 => ?_) (fun c_6 => ?_)
                        · have hrow : ∀ y, 1 ≤ y → y ≤ 40 → M2.testBit (a + 1) = true → goQ Q 1 (a + 1) y 60 = true → o9 = 0 → M2.testBit y = true := fun y y1 y2 hx hy z => by rw [b2i_0 c_6] at hx; cases hx
                          refine lv_iinc (v := nI (a + 2)) (lv' := [(3, .int (nI (a + 2))), (0, .ref m), (1, .int (nI j)), (2, .int (nI o9)), (4, .int (nI (b + 1)))]) hx hb d_Mo_spreads_130 hl (k := 3) rfl (nI_add (a + 1) 1) (by decide) rfl (fun ls hl => ?_)
                          refine lv_goto (tgt := 65) hx hb d_Mo_spreads_133 (by decide) ?_
                          exact ihA (a + 1) o9 M2 mk2 (by omega) (by omega) (by omega) hmk2 hs1 hs2 hs3 ⟨fun z => ⟨(hmo.1 z).1, fun x y x1 x2 y1 y2 hx hy => by rcases Nat.lt_or_ge x (a + 1) with q | q; exact (hmo.1 z).2.1 x y x1 (by omega) y1 y2 hx hy; rw [show x = a + 1 by omega] at hx hy; exact hrow y y1 y2 hx hy z⟩, hmo.2⟩ H locs ls hz hV (lv_sub hl [1, 2, 3, 0] rfl)
                        · have hba := b2i_1 c_6
                          refine lv_aload_n hx hb d_Mo_spreads_90 rfl (lv_at hl 0 rfl) ?_
                          refine u_get hx hb hts inMo hown hK hV hn 0 rfl rfl 18 (by decide) w_fl_Mo_44 rfl rfl d_Mo_spreads_91 ?_
                          refine lv_iload hx hb d_Mo_spreads_94 (lv_at hl 4 rfl) ?_
                          refine u_zaldN hx hb hK hV hn 2 rfl (by omega) (by decide) d_Mo_spreads_96 ?_
                          rw [hmk2 (b + 1) (by omega)]
                          refine lv_if_ne (tgt := 124) hx hb d_Mo_spreads_97 (by decide) (fun c_7 => ?_) (fun c_7 => ?_)
                          · have hbb := b2i_1 c_7
                            refine lv_iinc (v := nI (b + 2)) (lv' := [(4, .int (nI (b + 2))), (0, .ref m), (1, .int (nI j)), (2, .int (nI o9)), (3, .int (nI (a + 1)))]) hx hb d_Mo_spreads_124 hl (k := 4) rfl (nI_add (b + 1) 1) (by decide) rfl (fun ls hl => ?_)
                            refine lv_goto (tgt := 74) hx hb d_Mo_spreads_127 (by decide) ?_
                            have hst : M2.testBit (a + 1) = true → goQ Q 1 (a + 1) (b + 1) 60 = true → M2.testBit (b + 1) = true := fun _ _ => hbb
                            exact ih (b + 1) o9 M2 mk2 (by omega) (by omega) (by omega) hmk2 hs1 hs2 hs3 ⟨fun z => ⟨(hmo.1 z).1, (hmo.1 z).2.1, fun y y1 y2 hx hy => by rcases Nat.lt_or_ge y (b + 1) with q | q; exact (hmo.1 z).2.2 y y1 (by omega) hx hy; rw [show y = b + 1 by omega] at hy ⊢; exact hst hx hy⟩, hmo.2⟩ H locs ls hz hV (lv_sub hl [1, 2, 3, 4, 0] rfl)
                          · have hbb := b2i_0 c_7
                            refine lv_aload_n hx hb d_Mo_spreads_100 rfl (lv_at hl 0 rfl) ?_
                            refine lv_iload_n hx hb d_Mo_spreads_101 rfl (lv_at hl 3 rfl) ?_
                            refine lv_iload hx hb d_Mo_spreads_102 (lv_at hl 4 rfl) ?_
                            refine lv_iconst (v := 1) hx hb d_Mo_spreads_104 (by decide) ?_
                            refine v_call (va_runV (As := [.int (nI (a + 1)), .int (nI (b + 1)), .int 1]) (rest := []) ⟨hx, hb, hml, hown, hts⟩ (c_Mo_goes l G lo _ _ m pa u0 u1 u2 u3 u5 u6 u7 u8 u9 u10 u11 u12 u13 u14 u15 u16 u17 (.ref ma) u19 u20 P Q (nd_sub hn [0, 1] (by decide) rfl) hM (a + 1) (b + 1) 1 (by omega) (by omega) (by decide)) (kwV 3 hts w_co_Mo_goes rfl rfl w_it_Mo w_ml_Mo_148 w_im_Mo_goes w_se_Mo__Mo_goes (by decide +kernel) ⟨(Nat.le_of_ble_eq_true rfl), (Nat.le_of_ble_eq_true rfl)⟩) (u_preV hK hV hn [0, 1] rfl hz 0 rfl rfl) rfl rfl hl.1 rfl (lv_room (Nat.le_of_ble_eq_true rfl)) d_Mo_spreads_105 ⟨(Nat.le_of_ble_eq_true rfl), (Nat.le_of_ble_eq_true rfl)⟩) hV (fun r9 V9 H locs hp hV hle => ?_)
                            obtain ⟨rfl, rfl, hz⟩ := hp
                            replace hV := uu_same hV hn [0, 1] rfl
                            rcases tf (goQ Q 1 (a + 1) (b + 1) 60) with d_8 | d_8
                            · have hgo := d_8
                              have hbC : (rnds Q (endsN R) 40).testBit (b + 1) = true := hcl (a + 1) (b + 1) (by omega) (by omega) (by omega) (by omega) (hs2 _ hba) hgo
                              have hn1 : bsub M2 (M2 ||| 2 ^ (b + 1)) := bsub_orl _ _
                              have hn2 : bsub (M2 ||| 2 ^ (b + 1)) (rnds Q (endsN R) 40) := bsub_or hs2 (fun i hi => by rw [two_bit, decide_eq_true_eq] at hi; rw [← hi]; exact hbC)
                              have hn3 : M2 ||| 2 ^ (b + 1) < 2 ^ 41 := Nat.or_lt_two_pow hs3 (Nat.pow_lt_pow_right (by decide) (by omega))
                              have hn4 : cnt (fun j => M.testBit j) 40 < cnt (fun j => (M2 ||| 2 ^ (b + 1)).testBit j) 40 := Nat.lt_of_le_of_lt (cnt_mono (fun i hi => hs1 i hi) 40) (cnt_lt (fun i hi => hn1 i hi) (i := b + 1) (by omega) hbb (by rw [Nat.testBit_or, two_bit, decide_eq_true rfl, Bool.or_true]) 40 (by omega))
                              have hV : vS G.1 cls lo s H locs (vU V [(m, eO 8 [u0, u1, u2, u3, .ref pa, u5, u6, u7, u8, u9, u10, u11, u12, u13, u14, u15, u16, u17, .ref ma, u19, u20]), (pa, eI (gI G) 1769 P), (ma, eI (gZ G) 41 mk2)]) := hV
                              refine W.eq (g2 := F0 mi 108 ls [.int 1]) (by rw [d_8]; rfl) ?_
                              refine lv_if_ne (tgt := 114) hx hb d_Mo_spreads_108 (by decide) (fun _ => ?_) (fun c_9 => absurd c_9 (by decide))
                              refine lv_aload_n hx hb d_Mo_spreads_114 rfl (lv_at hl 0 rfl) ?_
                              refine u_get hx hb hts inMo hown hK hV hn 0 rfl rfl 18 (by decide) w_fl_Mo_44 rfl rfl d_Mo_spreads_115 ?_
                              refine lv_iload hx hb d_Mo_spreads_118 (lv_at hl 4 rfl) ?_
                              refine lv_iconst (v := 1) hx hb d_Mo_spreads_120 (by decide) ?_
                              refine u_zastN hx hb hK hV hn 2 rfl (by omega) (by decide) d_Mo_spreads_121 (fun H locs hV hz9 => ?_)
                              have hV : vS G.1 cls lo s H locs (vU V [(m, eO 8 [u0, u1, u2, u3, .ref pa, u5, u6, u7, u8, u9, u10, u11, u12, u13, u14, u15, u16, u17, .ref ma, u19, u20]), (pa, eI (gI G) 1769 P), (ma, eI (gZ G) 41 (upd mk2 (b + 1) (vp_nar .boolean 1)))]) := hV
                              replace hz := hz9.trans hz
                              rw [z_1] at hV
                              refine lv_iconst (v := 1) hx hb d_Mo_spreads_122 (by decide) ?_
                              refine lv_istore_n (lv' := [(2, .int 1), (0, .ref m), (1, .int (nI j)), (3, .int (nI (a + 1))), (4, .int (nI (b + 1)))]) hx hb d_Mo_spreads_123 rfl hl (by decide) rfl (fun ls hl => ?_)
                              refine lv_iinc (v := nI (b + 2)) (lv' := [(4, .int (nI (b + 2))), (2, .int 1), (0, .ref m), (1, .int (nI j)), (3, .int (nI (a + 1)))]) hx hb d_Mo_spreads_124 hl (k := 4) rfl (nI_add (b + 1) 1) (by decide) rfl (fun ls hl => ?_)
                              refine lv_goto (tgt := 74) hx hb d_Mo_spreads_127 (by decide) ?_
                              exact ih (b + 1) 1 (M2 ||| 2 ^ (b + 1)) (upd mk2 (b + 1) 1) (by omega) (by omega) (by omega) (mkOk_set hmk2) (bsub_tr hs1 hn1) hn2 hn3 ⟨fun z => absurd z (by decide), fun _ => hn4⟩ H locs ls hz hV (lv_sub hl [2, 3, 1, 4, 0] rfl)
                            · have hgo := d_8
                              have hV : vS G.1 cls lo s H locs (vU V [(m, eO 8 [u0, u1, u2, u3, .ref pa, u5, u6, u7, u8, u9, u10, u11, u12, u13, u14, u15, u16, u17, .ref ma, u19, u20]), (pa, eI (gI G) 1769 P), (ma, eI (gZ G) 41 mk2)]) := hV
                              refine W.eq (g2 := F0 mi 108 ls [.int 0]) (by rw [d_8]; rfl) ?_
                              refine lv_if_ne (tgt := 114) hx hb d_Mo_spreads_108 (by decide) (fun c_10 => absurd c_10 (by decide)) (fun _ => ?_)
                              refine lv_goto (tgt := 124) hx hb d_Mo_spreads_111 (by decide) ?_
                              refine lv_iinc (v := nI (b + 2)) (lv' := [(4, .int (nI (b + 2))), (0, .ref m), (1, .int (nI j)), (2, .int (nI o9)), (3, .int (nI (a + 1)))]) hx hb d_Mo_spreads_124 hl (k := 4) rfl (nI_add (b + 1) 1) (by decide) rfl (fun ls hl => ?_)
                              refine lv_goto (tgt := 74) hx hb d_Mo_spreads_127 (by decide) ?_
                              have hst : M2.testBit (a + 1) = true → goQ Q 1 (a + 1) (b + 1) 60 = true → M2.testBit (b + 1) = true := fun _ z => by rw [hgo] at z; cases z
                              exact ih (b + 1) o9 M2 mk2 (by omega) (by omega) (by omega) hmk2 hs1 hs2 hs3 ⟨fun z => ⟨(hmo.1 z).1, (hmo.1 z).2.1, fun y y1 y2 hx hy => by rcases Nat.lt_or_ge y (b + 1) with q | q; exact (hmo.1 z).2.2 y y1 (by omega) hx hy; rw [show y = b + 1 by omega] at hy ⊢; exact hst hx hy⟩, hmo.2⟩ H locs ls hz hV (lv_sub hl [1, 2, 3, 4, 0] rfl)
                  exact lb 41 0 o9 M2 mk2 (by omega) (by omega) ho hmk2 hs1 hs2 hs3 ⟨fun z => ⟨(hmo.1 z).1, (hmo.1 z).2, fun y y1 y2 => absurd y1 (by omega)⟩, hmo.2⟩ H locs ls hz hV (lv_sub hl [1, 2, 3, 4, 0] rfl)
            exact la 41 0 0 M mk (by omega) (by omega) (by omega) hmk (bsub_rfl _) hM2 hM3 ⟨fun _ => ⟨rfl, fun x y x1 x2 => absurd x1 (by omega)⟩, fun z => absurd rfl z⟩ H locs ls hz hV (lv_sub hl [2, 3, 1, 0] rfl)
        exact round 41 (endsN R) (upd (upd mk R.1.1 1) R.1.2.2 1) (by omega) (hends) (bsub_rfl _) hcs hE H locs ls hz hV (lv_sub hl [1, 2] rfl)
      · replace c_1 : ¬ 41 ≤ i := fun z9 => c_1 ((nI_leI (a := 41) (b := i) (by omega) (by omega)).mpr z9)
        refine lv_aload_n hx hb d_Mo_spreads_8 rfl (lv_at hl 0 rfl) ?_
        refine u_get hx hb hts inMo hown hK hV hn 0 rfl rfl 18 (by decide) w_fl_Mo_44 rfl rfl d_Mo_spreads_9 ?_
        refine lv_iload_n hx hb d_Mo_spreads_12 rfl (lv_at hl 2 rfl) ?_
        refine lv_iconst (v := 0) hx hb d_Mo_spreads_13 (by decide) ?_
        refine u_zastN hx hb hK hV hn 2 rfl (by omega) (by decide) d_Mo_spreads_14 (fun H locs hV hz9 => ?_)
        have hV : vS G.1 cls lo s H locs (vU V [(m, eO 8 [u0, u1, u2, u3, .ref pa, u5, u6, u7, u8, u9, u10, u11, u12, u13, u14, u15, u16, u17, .ref ma, u19, u20]), (pa, eI (gI G) 1769 P), (ma, eI (gZ G) 41 (upd mk i (vp_nar .boolean 0)))]) := hV
        replace hz := hz9.trans hz
        rw [z_0] at hV
        refine lv_iinc (v := nI (i + 1)) (lv' := [(2, .int (nI (i + 1))), (0, .ref m), (1, .int (nI j))]) hx hb d_Mo_spreads_15 hl (k := 2) rfl (nI_add i 1) (by decide) rfl (fun ls hl => ?_)
        refine lv_goto (tgt := 2) hx hb d_Mo_spreads_18 (by decide) ?_
        exact ih (i + 1) (upd mk i 0) (by omega) (by omega) (fun q hq => by by_cases he : q = i; simp [upd, he]; have := hz0 q (by omega); simpa [upd, he] using this) H locs ls hz hV (lv_sub hl [1, 2, 0] rfl)
  exact l0 42 0 mk (by omega) (by omega) (fun q hq => absurd hq (by omega)) H locs ls hz hV (lv_sub hl [1, 2, 0] rfl)
