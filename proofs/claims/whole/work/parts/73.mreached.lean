theorem stO_yes {Q : Nat → Option PcR} {v w : Int32} {o : Option (Nat × Nat)} (h : spO v w o) (hs : (stO Q o).isSome = true) : ∃ (x y : Nat) (R : PcR), v = nI x ∧ o = some (x, y) ∧ Q x = some R ∧ 1 ≤ x ∧ x ≤ 60 := by
  rcases h with ⟨-, rfl⟩ | ⟨x, y, h1, -, rfl, h2, h3, -⟩
  · cases hs
  · obtain ⟨R, hR⟩ := Option.isSome_iff_exists.mp hs
    exact ⟨x, y, R, h1, rfl, hR, h2, h3⟩
theorem stO_no {Q : Nat → Option PcR} {o : Option (Nat × Nat)} (hs : (stO Q o).isSome = false) : stO Q o = none := Option.isNone_iff_eq_none.mp (by simpa using hs)
theorem stP_st (Q : Nat → Option PcR) (S : Nat → Option (Nat × Nat)) (j : Nat) : stP Q S j = stO Q (S j) := rfl
theorem fst7_from {Q : Nat → Option PcR} {S : Nat → Option (Nat × Nat)} {i : Nat} {R : PcR} (h : fst7 Q S i = some R) : ∀ k, i ≤ k → fst7 Q S k = some R
  | 0, hk => by rw [show i = 0 by omega] at h; exact h
  | k + 1, hk => by
    by_cases he : i = k + 1
    · rw [← he]; exact h
    · exact fst7_s (fst7_from h k (by omega))
theorem bad7_w {Q : Nat → Option PcR} {R0 R : PcR} (h : whl R.2.1.2.1 = false) : bad7 Q R0 R = true := by simp only [bad7, h, Bool.not_false, Bool.true_or]
theorem bad7_in {Q : Nat → Option PcR} {R0 R : PcR} {i : Nat} (h : whl R.2.1.2.1 = true) (h1 : (endsN R).testBit i = true) (h2 : (rnds Q (endsN R0) 40).testBit i = true) : bad7 Q R0 R = false := by
  simp only [bad7, h, decide_eq_false (and_ne h1 h2), Bool.not_true, Bool.or_self]
theorem bad7_out {Q : Nat → Option PcR} {R0 R : PcR} (h1 : (rnds Q (endsN R0) 40).testBit R.1.1 = false) (h2 : (rnds Q (endsN R0) 40).testBit R.1.2.2 = false) : bad7 Q R0 R = true := by
  have e : endsN R &&& rnds Q (endsN R0) 40 = 0 := by
    apply Decidable.byContradiction
    intro h
    obtain ⟨i, g1, g2⟩ := and_bit h
    unfold endsN at g1
    rw [Nat.testBit_or, two_bit, two_bit, Bool.or_eq_true, decide_eq_true_eq, decide_eq_true_eq] at g1
    rcases g1 with g1 | g1
    · rw [g1, g2] at h1; cases h1
    · rw [g1, g2] at h2; cases h2
  simp only [bad7, decide_eq_true e, Bool.or_true]
theorem ends_1 (R : PcR) : (endsN R).testBit R.1.1 = true := by unfold endsN; rw [Nat.testBit_or, two_bit, decide_eq_true rfl]; rfl
theorem ends_2 (R : PcR) : (endsN R).testBit R.1.2.2 = true := by unfold endsN; rw [Nat.testBit_or, two_bit, two_bit, decide_eq_true (rfl : R.1.2.2 = R.1.2.2), Bool.or_true]
theorem flt_0 {P : Nat → Bool} {kd : Nat} : ∀ i, (∀ q, 1 ≤ q → q ≤ i → P q = false) → flt kd P i = []
  | 0, _ => rfl
  | i + 1, h => by rw [flt_n (h (i + 1) (by omega) (Nat.le_refl _)), flt_0 i (fun q h1 h2 => h q h1 (by omega))]
theorem fst7_none {Q : Nat → Option PcR} {S : Nat → Option (Nat × Nat)} : ∀ i, (∀ q, 1 ≤ q → q ≤ i → stP Q S q = none) → fst7 Q S i = none
  | 0, _ => rfl
  | i + 1, h => by rw [fst7_n (h (i + 1) (by omega) (Nat.le_refl _))]; exact fst7_none i (fun q h1 h2 => h q h1 (by omega))
theorem lostP_O (Q : Nat → Option PcR) (B : Nat → Option (Nat × Nat)) (j : Nat) : lostP Q B j = lostO Q (B j) := rfl
theorem endP_go {Q : Nat → Option PcR} {j : Nat} (h : 1 ≤ j) : endP Q j = (goQ Q 0 0 j 60 && !goQ Q 0 j 0 60) := by
  unfold endP
  rw [toQ_go h, frQ_go h]
theorem idleP_go {Q : Nat → Option PcR} {L : List Tri} {j i : Nat} (h1 : 1 ≤ (L.getD i z3).1) (h2 : 1 ≤ j) (h3 : 1 ≤ (L.getD i z3).2.2) : idleP Q L j i = (decide ((L.getD i z3).2.1 = j) && !(goQ Q 0 (L.getD i z3).1 j 60 && goQ Q 0 j (L.getD i z3).2.2 60)) := by
  unfold idleP
  rw [leadQ_go h1 h2, leadQ_go h2 h3]

set_option maxHeartbeats 4000000 in
set_option maxRecDepth 100000 in
/-- reached -/
theorem c_Mo_reached (l : Launch) (G : Gx) (lo : Nat) (V : Vw) (sz : Nat) (m sa pa ma ka na : Nat) (u0 u1 u2 u3 u6 u7 u8 u9 u10 u11 u12 u13 u14 u19 u20 : Value) (sp al P mk fk fn : Nat → Int32) (F : List Two) (Q : Nat → Option PcR) (B S : Nat → Option (Nat × Nat)) (hn : [m, sa, pa, ma, ka, na].Nodup) (hM : mpA P Q) (hS : msA sp al B S) (hO : ckOk fk fn F) (hF : F.length ≤ 260) : Met l y_Mo_reached ws_Mo_reached ({ frames := 4, cells := 0, slots := 0, locals := 130 } : Room) (vPre G lo [.ref m] (vU V [(m, eO 8 [u0, u1, u2, u3, .ref pa, .ref sa, u6, u7, u8, u9, u10, u11, u12, u13, u14, .int (nI F.length), .ref ka, .ref na, .ref ma, u19, u20]), (sa, eI (gI G) 62 sp), (pa, eI (gI G) 1769 P), (ma, eI (gZ G) 41 mk), (ka, eI (gI G) 300 fk), (na, eI (gI G) 300 fn)]) sz) (vPost G lo (fun r V' k => r = none ∧ (∃ f1 f2 f3 : Nat → Int32, V' = vU V [(m, eO 8 [u0, u1, u2, u3, .ref pa, .ref sa, u6, u7, u8, u9, u10, u11, u12, u13, u14, .int (nI ((F ++ flt 7 (unr Q S) 30).length)), .ref ka, .ref na, .ref ma, u19, u20]), (sa, eI (gI G) 62 sp), (pa, eI (gI G) 1769 P), (ma, eI (gZ G) 41 f3), (ka, eI (gI G) 300 f1), (na, eI (gI G) 300 f2)] ∧ ckOk f1 f2 (F ++ flt 7 (unr Q S) 30)) ∧ k = sz)) 0 0 (vL lo) := by
  refine vMet (R := RMo) (by decide) rfl (Nat.le_of_ble_eq_true rfl) ?_
  intro pg ev s mi args below meth cd hx hb hr hml hlk hnm hts hown hK hz hV ls hl
  have hl : lv_has ls 6 [(0, .ref m)] := hl
  have hV0 := hV
  obtain ⟨H, hH⟩ : ∃ H, H = s.heap := ⟨_, rfl⟩
  obtain ⟨locs, hlocs⟩ : ∃ locs : List Loc, locs = [] := ⟨_, rfl⟩
  rw [← hH, ← hlocs]
  rw [← hH] at hz
  replace hV : vS G.1 cls lo s H locs (vU V [(m, eO 8 [u0, u1, u2, u3, .ref pa, .ref sa, u6, u7, u8, u9, u10, u11, u12, u13, u14, .int (nI F.length), .ref ka, .ref na, .ref ma, u19, u20]), (sa, eI (gI G) 62 sp), (pa, eI (gI G) 1769 P), (ma, eI (gZ G) 41 mk), (ka, eI (gI G) 300 fk), (na, eI (gI G) 300 fn)]) := by rw [hH, hlocs]; exact hV
  clear hH hlocs hV0
  refine lv_iconst (v := 1) hx hb d_Mo_reached_0 (by decide) ?_
  refine lv_istore_n (lv' := [(1, .int 1), (0, .ref m)]) hx hb d_Mo_reached_1 rfl hl (by decide) rfl (fun ls hl => ?_)
  have l1 : ∀ (k : Nat) (i : Nat), 30 - i < k → (i ≤ 30) → (∀ q, 1 ≤ q → q ≤ i → stP Q S q = none) → ∀ (H : Heap) (locs : List Loc) (ls : Array Slot), H.size = sz → vS G.1 cls lo s H locs (vU V [(m, eO 8 [u0, u1, u2, u3, .ref pa, .ref sa, u6, u7, u8, u9, u10, u11, u12, u13, u14, .int (nI F.length), .ref ka, .ref na, .ref ma, u19, u20]), (sa, eI (gI G) 62 sp), (pa, eI (gI G) 1769 P), (ma, eI (gZ G) 41 mk), (ka, eI (gI G) 300 fk), (na, eI (gI G) 300 fn)]) → lv_has ls 6 [(0, .ref m), (1, .int (nI (i + 1)))] → W pg l ev ({ frames := 4, cells := 0, slots := 0, locals := 130 } : Room) s mi args below meth cd H locs 0 0 (MQ below (vPost G lo (fun r V' k => r = none ∧ (∃ f1 f2 f3 : Nat → Int32, V' = vU V [(m, eO 8 [u0, u1, u2, u3, .ref pa, .ref sa, u6, u7, u8, u9, u10, u11, u12, u13, u14, .int (nI ((F ++ flt 7 (unr Q S) 30).length)), .ref ka, .ref na, .ref ma, u19, u20]), (sa, eI (gI G) 62 sp), (pa, eI (gI G) 1769 P), (ma, eI (gZ G) 41 f3), (ka, eI (gI G) 300 f1), (na, eI (gI G) 300 f2)] ∧ ckOk f1 f2 (F ++ flt 7 (unr Q S) 30)) ∧ k = sz)) args s 0 0 (vL lo)) (F0 mi 2 ls []) := by
    intro k
    induction k with
    | zero => intro i hk; exact absurd hk (by omega)
    | succ k ih =>
      intro i hk hi hall H locs ls hz hV hl
      refine lv_iload_n hx hb d_Mo_reached_2 rfl (lv_at hl 1 rfl) ?_
      refine lv_bipush (v := 31) hx hb d_Mo_reached_3 (by decide) ?_
      refine lv_icmp_ge (tgt := 25) hx hb d_Mo_reached_5 (by decide) (fun c_1 => ?_) (fun c_1 => ?_)
      · replace c_1 : 31 ≤ i + 1 := (nI_leI (a := 31) (b := i + 1) (by omega) (by omega)).mp c_1
        refine lv_iload_n hx hb d_Mo_reached_25 rfl (lv_at hl 1 rfl) ?_
        refine lv_bipush (v := 31) hx hb d_Mo_reached_26 (by decide) ?_
        refine lv_icmp_ne (tgt := 32) hx hb d_Mo_reached_28 (by decide) (fun c_2 => absurd ((nI_eq (a := i + 1) (b := 31) (by omega) (by decide)).mpr (by omega)) c_2) (fun c_2 => ?_)
        replace c_2 : i + 1 = 31 := (nI_eq (a := i + 1) (b := 31) (by omega) (by omega)).mp c_2
        exact W.vret hx hb hr (v_end hV ⟨rfl, ⟨fk, fn, mk, by rw [flt_0 (P := (unr Q S)) 30 (fun q h1 h2 => unr_n (hall q h1 (by omega))), List.append_nil], by rw [flt_0 (P := (unr Q S)) 30 (fun q h1 h2 => unr_n (hall q h1 (by omega))), List.append_nil]; exact hO⟩, hz⟩) hV.2.1.2.2 d_Mo_reached_31
      · replace c_1 : ¬ 31 ≤ i + 1 := fun z9 => c_1 ((nI_leI (a := 31) (b := i + 1) (by omega) (by omega)).mpr z9)
        refine lv_aload_n hx hb d_Mo_reached_8 rfl (lv_at hl 0 rfl) ?_
        refine lv_bipush (v := 31) hx hb d_Mo_reached_9 (by decide) ?_
        refine lv_iload_n hx hb d_Mo_reached_11 rfl (lv_at hl 1 rfl) ?_
        refine e_iadd (v := nI (31 + (i + 1))) hx hb d_Mo_reached_12 (nI_add 31 (i + 1)) ?_
        refine v_call (va_runV (As := [.int (nI (31 + (i + 1)))]) (rest := []) ⟨hx, hb, hml, hown, hts⟩ (c_Mo_stands l G lo _ _ m sa pa u0 u1 u2 u3 u6 u7 u8 u9 u10 u11 u12 u13 u14 (.int (nI F.length)) (.ref ka) (.ref na) (.ref ma) u19 u20 sp P Q (nd_sub hn [0, 1, 2] (by decide) rfl) hM (31 + (i + 1)) (by omega) (al (31 + (i + 1))) (S (i + 1)) (hS.2.1 (i + 1) (by omega) (by omega))) (kwV 1 hts w_co_Mo_stands rfl rfl w_it_Mo w_ml_Mo_152 w_im_Mo_stands w_se_Mo__Mo_stands (by decide +kernel) ⟨(Nat.le_of_ble_eq_true rfl), (Nat.le_of_ble_eq_true rfl)⟩) (u_preV hK hV hn [0, 1, 2] rfl hz 0 rfl rfl) rfl rfl hl.1 rfl (lv_room (Nat.le_of_ble_eq_true rfl)) d_Mo_reached_13 ⟨(Nat.le_of_ble_eq_true rfl), (Nat.le_of_ble_eq_true rfl)⟩) hV (fun r9 V9 H locs hp hV hle => ?_)
        obtain ⟨rfl, rfl, hz⟩ := hp
        replace hV := uu_same hV hn [0, 1, 2] rfl
        rcases tf ((stO Q (S (i + 1))).isSome) with d_3 | d_3
        · obtain ⟨x0, y0, R0, ex0, eS0, hQ0, hx1, hx2⟩ := stO_yes (hS.2.1 (i + 1) (by omega) (by omega)) d_3
          have ex0 : sp (31 + (i + 1)) = nI x0 := ex0
          have hst0 : stP Q S (i + 1) = some R0 := by rw [stP_st, eS0]; exact hQ0
          have hV : vS G.1 cls lo s H locs (vU V [(m, eO 8 [u0, u1, u2, u3, .ref pa, .ref sa, u6, u7, u8, u9, u10, u11, u12, u13, u14, .int (nI F.length), .ref ka, .ref na, .ref ma, u19, u20]), (sa, eI (gI G) 62 sp), (pa, eI (gI G) 1769 P), (ma, eI (gZ G) 41 mk), (ka, eI (gI G) 300 fk), (na, eI (gI G) 300 fn)]) := hV
          refine W.eq (g2 := F0 mi 16 ls [.int 1]) (by rw [d_3]; rfl) ?_
          refine lv_if_ne (tgt := 25) hx hb d_Mo_reached_16 (by decide) (fun _ => ?_) (fun c_4 => absurd c_4 (by decide))
          refine lv_iload_n hx hb d_Mo_reached_25 rfl (lv_at hl 1 rfl) ?_
          refine lv_bipush (v := 31) hx hb d_Mo_reached_26 (by decide) ?_
          refine lv_icmp_ne (tgt := 32) hx hb d_Mo_reached_28 (by decide) (fun c_5 => ?_) (fun c_5 => absurd c_5 (fun z => absurd ((nI_eq (a := i + 1) (b := 31) (by omega) (by decide)).mp z) (by omega)))
          replace c_5 : ¬ i + 1 = 31 := fun z9 => c_5 ((nI_eq (a := i + 1) (b := 31) (by omega) (by omega)).mpr z9)
          refine lv_aload_n hx hb d_Mo_reached_32 rfl (lv_at hl 0 rfl) ?_
          refine u_get hx hb hts inMo hown hK hV hn 0 rfl rfl 5 (by decide) w_fl_Mo_20 rfl rfl d_Mo_reached_33 ?_
          refine lv_bipush (v := 31) hx hb d_Mo_reached_36 (by decide) ?_
          refine lv_iload_n hx hb d_Mo_reached_38 rfl (lv_at hl 1 rfl) ?_
          refine e_iadd (v := nI (31 + (i + 1))) hx hb d_Mo_reached_39 (nI_add 31 (i + 1)) ?_
          refine u_ialdN hx hb hK hV hn 1 rfl (by omega) (by decide) d_Mo_reached_40 ?_
          rw [ex0]
          refine lv_istore_n (lv' := [(2, .int (nI x0)), (0, .ref m), (1, .int (nI (i + 1)))]) hx hb d_Mo_reached_41 rfl hl (by decide) rfl (fun ls hl => ?_)
          refine lv_aload_n hx hb d_Mo_reached_42 rfl (lv_at hl 1 rfl) ?_
          refine lv_iload_n hx hb d_Mo_reached_43 rfl (lv_at hl 0 rfl) ?_
          obtain ⟨hR0, hR0v⟩ := mpA_at hM hx1 hx2 hQ0
          have hf7 : ∀ k, i + 1 ≤ k → fst7 Q S k = some R0 := fst7_from (by rw [fst7_0 (fst7_none i hall)]; exact hst0)
          have hcs := rnds_sub Q (endsN R0) 40
          refine v_call (va_runV (As := [.int (nI x0)]) (rest := []) ⟨hx, hb, hml, hown, hts⟩ (c_Mo_spreads l G lo _ _ m pa ma u0 u1 u2 u3 (.ref sa) u6 u7 u8 u9 u10 u11 u12 u13 u14 (.int (nI F.length)) (.ref ka) (.ref na) u19 u20 P mk Q R0 (nd_sub hn [0, 2, 3] (by decide) rfl) hM x0 hx1 hx2 hR0 hR0v) (kwV 1 hts w_co_Mo_spreads rfl rfl w_it_Mo w_ml_Mo_155 w_im_Mo_spreads w_se_Mo__Mo_spreads (by decide +kernel) ⟨(Nat.le_of_ble_eq_true rfl), (Nat.le_of_ble_eq_true rfl)⟩) (u_preV hK hV hn [0, 2, 3] rfl hz 0 rfl rfl) rfl rfl hl.1 rfl (lv_room (Nat.le_of_ble_eq_true rfl)) d_Mo_reached_44 ⟨(Nat.le_of_ble_eq_true rfl), (Nat.le_of_ble_eq_true rfl)⟩) hV (fun r9 V9 H locs hp hV hle => ?_)
          obtain ⟨rfl, ⟨mk3, rfl, hmk⟩, hz⟩ := hp
          replace hV := u_back hV hn [0, 2, 3] rfl
          have hV : vS G.1 cls lo s H locs (vU V [(m, eO 8 [u0, u1, u2, u3, .ref pa, .ref sa, u6, u7, u8, u9, u10, u11, u12, u13, u14, .int (nI F.length), .ref ka, .ref na, .ref ma, u19, u20]), (sa, eI (gI G) 62 sp), (pa, eI (gI G) 1769 P), (ma, eI (gZ G) 41 mk3), (ka, eI (gI G) 300 fk), (na, eI (gI G) 300 fn)]) := hV
          refine lv_iload_n hx hb d_Mo_reached_47 rfl (lv_at hl 2 rfl) ?_
          refine lv_istore_n (lv' := [(3, .int (nI (i + 1))), (2, .int (nI x0)), (0, .ref m), (1, .int (nI (i + 1)))]) hx hb d_Mo_reached_48 rfl hl (by decide) rfl (fun ls hl => ?_)
          have l2 : ∀ (k : Nat) (q : Nat) (fk fn : Nat → Int32), 30 - q < k → (i ≤ q) → (q ≤ 30) → (ckOk fk fn (F ++ flt 7 (unr Q S) q)) → ∀ (H : Heap) (locs : List Loc) (ls : Array Slot), H.size = sz → vS G.1 cls lo s H locs (vU V [(m, eO 8 [u0, u1, u2, u3, .ref pa, .ref sa, u6, u7, u8, u9, u10, u11, u12, u13, u14, .int (nI ((F ++ flt 7 (unr Q S) q).length)), .ref ka, .ref na, .ref ma, u19, u20]), (sa, eI (gI G) 62 sp), (pa, eI (gI G) 1769 P), (ma, eI (gZ G) 41 mk3), (ka, eI (gI G) 300 fk), (na, eI (gI G) 300 fn)]) → lv_has ls 6 [(0, .ref m), (1, .int (nI (i + 1))), (2, .int (nI x0)), (3, .int (nI (q + 1)))] → W pg l ev ({ frames := 4, cells := 0, slots := 0, locals := 130 } : Room) s mi args below meth cd H locs 0 0 (MQ below (vPost G lo (fun r V' k => r = none ∧ (∃ f1 f2 f3 : Nat → Int32, V' = vU V [(m, eO 8 [u0, u1, u2, u3, .ref pa, .ref sa, u6, u7, u8, u9, u10, u11, u12, u13, u14, .int (nI ((F ++ flt 7 (unr Q S) 30).length)), .ref ka, .ref na, .ref ma, u19, u20]), (sa, eI (gI G) 62 sp), (pa, eI (gI G) 1769 P), (ma, eI (gZ G) 41 f3), (ka, eI (gI G) 300 f1), (na, eI (gI G) 300 f2)] ∧ ckOk f1 f2 (F ++ flt 7 (unr Q S) 30)) ∧ k = sz)) args s 0 0 (vL lo)) (F0 mi 49 ls []) := by
            intro k
            induction k with
            | zero => intro q fk fn hk2; exact absurd hk2 (by omega)
            | succ k ih =>
              intro q fk fn hk2 hq0 hq1 hO H locs ls hz hV hl
              refine lv_iload_n hx hb d_Mo_reached_49 rfl (lv_at hl 3 rfl) ?_
              refine lv_bipush (v := 31) hx hb d_Mo_reached_50 (by decide) ?_
              refine lv_icmp_ge (tgt := 165) hx hb d_Mo_reached_52 (by decide) (fun c_6 => ?_) (fun c_6 => ?_)
              · replace c_6 : 31 ≤ q + 1 := (nI_leI (a := 31) (b := q + 1) (by omega) (by omega)).mp c_6
                exact W.vret hx hb hr (v_end hV ⟨rfl, ⟨fk, fn, mk3, by rw [show q = 30 by omega], by rw [show q = 30 by omega] at hO; exact hO⟩, hz⟩) hV.2.1.2.2 d_Mo_reached_165
              · replace c_6 : ¬ 31 ≤ q + 1 := fun z9 => c_6 ((nI_leI (a := 31) (b := q + 1) (by omega) (by omega)).mpr z9)
                refine lv_aload_n hx hb d_Mo_reached_55 rfl (lv_at hl 0 rfl) ?_
                refine lv_bipush (v := 31) hx hb d_Mo_reached_56 (by decide) ?_
                refine lv_iload_n hx hb d_Mo_reached_58 rfl (lv_at hl 3 rfl) ?_
                refine e_iadd (v := nI (31 + (q + 1))) hx hb d_Mo_reached_59 (nI_add 31 (q + 1)) ?_
                refine v_call (va_runV (As := [.int (nI (31 + (q + 1)))]) (rest := []) ⟨hx, hb, hml, hown, hts⟩ (c_Mo_stands l G lo _ _ m sa pa u0 u1 u2 u3 u6 u7 u8 u9 u10 u11 u12 u13 u14 (.int (nI ((F ++ flt 7 (unr Q S) q).length))) (.ref ka) (.ref na) (.ref ma) u19 u20 sp P Q (nd_sub hn [0, 1, 2] (by decide) rfl) hM (31 + (q + 1)) (by omega) (al (31 + (q + 1))) (S (q + 1)) (hS.2.1 (q + 1) (by omega) (by omega))) (kwV 1 hts w_co_Mo_stands rfl rfl w_it_Mo w_ml_Mo_152 w_im_Mo_stands w_se_Mo__Mo_stands (by decide +kernel) ⟨(Nat.le_of_ble_eq_true rfl), (Nat.le_of_ble_eq_true rfl)⟩) (u_preV hK hV hn [0, 1, 2] rfl hz 0 rfl rfl) rfl rfl hl.1 rfl (lv_room (Nat.le_of_ble_eq_true rfl)) d_Mo_reached_60 ⟨(Nat.le_of_ble_eq_true rfl), (Nat.le_of_ble_eq_true rfl)⟩) hV (fun r9 V9 H locs hp hV hle => ?_)
                obtain ⟨rfl, rfl, hz⟩ := hp
                replace hV := uu_same hV hn [0, 1, 2] rfl
                rcases tf ((stO Q (S (q + 1))).isSome) with d_7 | d_7
                · obtain ⟨x9, y9, R, ex9, eS9, hQ9, hx3, hx4⟩ := stO_yes (hS.2.1 (q + 1) (by omega) (by omega)) d_7
                  have ex9 : sp (31 + (q + 1)) = nI x9 := ex9
                  have hst9 : stP Q S (q + 1) = some R := by rw [stP_st, eS9]; exact hQ9
                  obtain ⟨hR, hRv⟩ := mpA_at hM hx3 hx4 hQ9
                  have hR9 := hR
                  obtain ⟨r0, r1, r2, r3, r4, r5, r6, r7, rh, r17, r18, r19, r20, rl⟩ := hR
                  obtain ⟨⟨z1, z2, z3_, z4⟩, -⟩ := id hRv
                  have hu9 := unr_s hst9 (hf7 (q + 1) (by omega))
                  have hV : vS G.1 cls lo s H locs (vU V [(m, eO 8 [u0, u1, u2, u3, .ref pa, .ref sa, u6, u7, u8, u9, u10, u11, u12, u13, u14, .int (nI ((F ++ flt 7 (unr Q S) q).length)), .ref ka, .ref na, .ref ma, u19, u20]), (sa, eI (gI G) 62 sp), (pa, eI (gI G) 1769 P), (ma, eI (gZ G) 41 mk3), (ka, eI (gI G) 300 fk), (na, eI (gI G) 300 fn)]) := hV
                  refine W.eq (g2 := F0 mi 63 ls [.int 1]) (by rw [d_7]; rfl) ?_
                  refine lv_if_ne (tgt := 69) hx hb d_Mo_reached_63 (by decide) (fun _ => ?_) (fun c_8 => absurd c_8 (by decide))
                  refine lv_aload_n hx hb d_Mo_reached_69 rfl (lv_at hl 0 rfl) ?_
                  refine u_get hx hb hts inMo hown hK hV hn 0 rfl rfl 5 (by decide) w_fl_Mo_20 rfl rfl d_Mo_reached_70 ?_
                  refine lv_bipush (v := 31) hx hb d_Mo_reached_73 (by decide) ?_
                  refine lv_iload_n hx hb d_Mo_reached_75 rfl (lv_at hl 3 rfl) ?_
                  refine e_iadd (v := nI (31 + (q + 1))) hx hb d_Mo_reached_76 (nI_add 31 (q + 1)) ?_
                  refine u_ialdN hx hb hK hV hn 1 rfl (by omega) (by decide) d_Mo_reached_77 ?_
                  rw [ex9]
                  refine lv_istore (lv' := [(4, .int (nI x9)), (0, .ref m), (1, .int (nI (i + 1))), (2, .int (nI x0)), (3, .int (nI (q + 1)))]) hx hb d_Mo_reached_78 hl (by decide) rfl (fun ls hl => ?_)
                  refine lv_aload_n hx hb d_Mo_reached_80 rfl (lv_at hl 1 rfl) ?_
                  refine lv_iload hx hb d_Mo_reached_81 (lv_at hl 0 rfl) ?_
                  refine v_call (va_runV (As := [.int (nI x9)]) (rest := []) ⟨hx, hb, hml, hown, hts⟩ (c_Mo_isForWheels l G lo _ _ m pa u0 u1 u2 u3 (.ref sa) u6 u7 u8 u9 u10 u11 u12 u13 u14 (.int (nI ((F ++ flt 7 (unr Q S) q).length))) (.ref ka) (.ref na) (.ref ma) u19 u20 P R (nd_sub hn [0, 2] (by decide) rfl) x9 hx4 hR9 hRv) (kwV 1 hts w_co_Mo_isForWheels rfl rfl w_it_Mo w_ml_Mo_158 w_im_Mo_isForWheels w_se_Mo__Mo_isForWheels (by decide +kernel) ⟨(Nat.le_of_ble_eq_true rfl), (Nat.le_of_ble_eq_true rfl)⟩) (u_preV hK hV hn [0, 2] rfl hz 0 rfl rfl) rfl rfl hl.1 rfl (lv_room (Nat.le_of_ble_eq_true rfl)) d_Mo_reached_83 ⟨(Nat.le_of_ble_eq_true rfl), (Nat.le_of_ble_eq_true rfl)⟩) hV (fun r9 V9 H locs hp hV hle => ?_)
                  obtain ⟨rfl, rfl, hz⟩ := hp
                  replace hV := uu_same hV hn [0, 2] rfl
                  rcases tf (whl R.2.1.2.1) with d_9 | d_9
                  · have hw9 := d_9
                    have hV : vS G.1 cls lo s H locs (vU V [(m, eO 8 [u0, u1, u2, u3, .ref pa, .ref sa, u6, u7, u8, u9, u10, u11, u12, u13, u14, .int (nI ((F ++ flt 7 (unr Q S) q).length)), .ref ka, .ref na, .ref ma, u19, u20]), (sa, eI (gI G) 62 sp), (pa, eI (gI G) 1769 P), (ma, eI (gZ G) 41 mk3), (ka, eI (gI G) 300 fk), (na, eI (gI G) 300 fn)]) := hV
                    refine W.eq (g2 := F0 mi 86 ls [.int 1]) (by rw [d_9]; rfl) ?_
                    refine lv_if_eq (tgt := 139) hx hb d_Mo_reached_86 (by decide) (fun c_10 => absurd c_10 (by decide)) (fun _ => ?_)
                    refine lv_iload hx hb d_Mo_reached_89 (lv_at hl 0 rfl) ?_
                    refine lv_iload_n hx hb d_Mo_reached_91 rfl (lv_at hl 3 rfl) ?_
                    refine lv_icmp_eq (tgt := 135) hx hb d_Mo_reached_92 (by decide) (fun c_11 => ?_) (fun c_11 => ?_)
                    · replace c_11 : x9 = x0 := (nI_eq (a := x9) (b := x0) (by omega) (by omega)).mp c_11
                      have hu : unr Q S (q + 1) = false := by
                        rw [hu9]
                        rw [c_11, hQ0] at hQ9
                        cases hQ9
                        exact bad7_in hw9 (ends_1 R0) (hcs _ (ends_1 R0))
                      refine lv_iconst (v := 1) hx hb d_Mo_reached_135 (by decide) ?_
                      refine lv_goto (tgt := 140) hx hb d_Mo_reached_136 (by decide) ?_
                      refine lv_istore (lv' := [(5, .int 1), (4, .int (nI x9)), (0, .ref m), (1, .int (nI (i + 1))), (2, .int (nI x0)), (3, .int (nI (q + 1)))]) hx hb d_Mo_reached_140 hl (by decide) rfl (fun ls hl => ?_)
                      refine lv_aload_n hx hb d_Mo_reached_142 rfl (lv_at hl 2 rfl) ?_
                      refine lv_bipush (v := 7) hx hb d_Mo_reached_143 (by decide) ?_
                      refine lv_iload_n hx hb d_Mo_reached_145 rfl (lv_at hl 5 rfl) ?_
                      refine lv_iload hx hb d_Mo_reached_146 (lv_at hl 0 rfl) ?_
                      refine lv_if_ne (tgt := 155) hx hb d_Mo_reached_148 (by decide) (fun _ => ?_) (fun c_12 => absurd c_12 (by decide))
                      refine lv_iconst (v := 0) hx hb d_Mo_reached_155 (by decide) ?_
                      refine v_call (va_runV (As := [.int 7, .int (nI (q + 1)), .int 0]) (rest := []) ⟨hx, hb, hml, hown, hts⟩ (c_Mo_tells0 l G lo _ _ m u0 u1 u2 u3 (.ref pa) (.ref sa) u6 u7 u8 u9 u10 u11 u12 u13 u14 (.int (nI ((F ++ flt 7 (unr Q S) q).length))) (.ref ka) (.ref na) (.ref ma) u19 u20 (by simp) 7 (nI (q + 1))) (kwV 3 hts w_co_Mo_tells rfl rfl w_it_Mo w_ml_Mo_161 w_im_Mo_tells w_se_Mo__Mo_tells (by decide +kernel) ⟨(Nat.le_of_ble_eq_true rfl), (Nat.le_of_ble_eq_true rfl)⟩) (u_preV hK hV hn [0] rfl hz 0 rfl rfl) rfl rfl hl.1 rfl (lv_room (Nat.le_of_ble_eq_true rfl)) d_Mo_reached_156 ⟨(Nat.le_of_ble_eq_true rfl), (Nat.le_of_ble_eq_true rfl)⟩) hV (fun r9 V9 H locs hp hV hle => ?_)
                      obtain ⟨rfl, rfl, hz⟩ := hp
                      replace hV := uu_same hV hn [0] rfl
                      have hV : vS G.1 cls lo s H locs (vU V [(m, eO 8 [u0, u1, u2, u3, .ref pa, .ref sa, u6, u7, u8, u9, u10, u11, u12, u13, u14, .int (nI ((F ++ flt 7 (unr Q S) q).length)), .ref ka, .ref na, .ref ma, u19, u20]), (sa, eI (gI G) 62 sp), (pa, eI (gI G) 1769 P), (ma, eI (gZ G) 41 mk3), (ka, eI (gI G) 300 fk), (na, eI (gI G) 300 fn)]) := hV
                      rw [app_n hu] at hV hO
                      refine lv_iinc (v := nI (q + 2)) (lv' := [(3, .int (nI (q + 2))), (5, .int 1), (4, .int (nI x9)), (0, .ref m), (1, .int (nI (i + 1))), (2, .int (nI x0))]) hx hb d_Mo_reached_159 hl (k := 5) rfl (nI_add (q + 1) 1) (by decide) rfl (fun ls hl => ?_)
                      refine lv_goto (tgt := 49) hx hb d_Mo_reached_162 (by decide) ?_
                      exact ih (q + 1) fk fn (by omega) (by omega) (by omega) hO H locs ls hz hV (lv_sub hl [3, 4, 5, 0] rfl)
                    · replace c_11 : ¬ x9 = x0 := fun z9 => c_11 ((nI_eq (a := x9) (b := x0) (by omega) (by omega)).mpr z9)
                      refine lv_aload_n hx hb d_Mo_reached_95 rfl (lv_at hl 1 rfl) ?_
                      refine u_get hx hb hts inMo hown hK hV hn 0 rfl rfl 18 (by decide) w_fl_Mo_44 rfl rfl d_Mo_reached_96 ?_
                      refine lv_aload_n hx hb d_Mo_reached_99 rfl (lv_at hl 1 rfl) ?_
                      refine u_get hx hb hts inMo hown hK hV hn 0 rfl rfl 4 (by decide) w_fl_Mo_17 rfl rfl d_Mo_reached_100 ?_
                      refine lv_iload hx hb d_Mo_reached_103 (lv_at hl 0 rfl) ?_
                      refine lv_bipush (v := 29) hx hb d_Mo_reached_105 (by decide) ?_
                      refine e_imul (v := nI (29 * x9)) hx hb d_Mo_reached_107 (by rw [Nat.mul_comm 29 x9]; exact nI_mul x9 29) ?_
                      refine lv_iconst (v := 1) hx hb d_Mo_reached_108 (by decide) ?_
                      refine e_iadd (v := nI (29 * x9 + 1)) hx hb d_Mo_reached_109 (nI_add (29 * x9) 1) ?_
                      refine u_ialdN hx hb hK hV hn 2 rfl (by omega) (by decide) d_Mo_reached_110 ?_
                      rw [r1]
                      refine u_zaldN hx hb hK hV hn 3 rfl (by omega) (by decide) d_Mo_reached_111 ?_
                      rw [hmk R.1.1 (by omega)]
                      refine lv_if_ne (tgt := 135) hx hb d_Mo_reached_112 (by decide) (fun c_13 => ?_) (fun c_13 => ?_)
                      · have hu : unr Q S (q + 1) = false := by rw [hu9]; exact bad7_in hw9 (ends_1 R) (b2i_1 c_13)
                        refine lv_iconst (v := 1) hx hb d_Mo_reached_135 (by decide) ?_
                        refine lv_goto (tgt := 140) hx hb d_Mo_reached_136 (by decide) ?_
                        refine lv_istore (lv' := [(5, .int 1), (4, .int (nI x9)), (0, .ref m), (1, .int (nI (i + 1))), (2, .int (nI x0)), (3, .int (nI (q + 1)))]) hx hb d_Mo_reached_140 hl (by decide) rfl (fun ls hl => ?_)
                        refine lv_aload_n hx hb d_Mo_reached_142 rfl (lv_at hl 2 rfl) ?_
                        refine lv_bipush (v := 7) hx hb d_Mo_reached_143 (by decide) ?_
                        refine lv_iload_n hx hb d_Mo_reached_145 rfl (lv_at hl 5 rfl) ?_
                        refine lv_iload hx hb d_Mo_reached_146 (lv_at hl 0 rfl) ?_
                        refine lv_if_ne (tgt := 155) hx hb d_Mo_reached_148 (by decide) (fun _ => ?_) (fun c_14 => absurd c_14 (by decide))
                        refine lv_iconst (v := 0) hx hb d_Mo_reached_155 (by decide) ?_
                        refine v_call (va_runV (As := [.int 7, .int (nI (q + 1)), .int 0]) (rest := []) ⟨hx, hb, hml, hown, hts⟩ (c_Mo_tells0 l G lo _ _ m u0 u1 u2 u3 (.ref pa) (.ref sa) u6 u7 u8 u9 u10 u11 u12 u13 u14 (.int (nI ((F ++ flt 7 (unr Q S) q).length))) (.ref ka) (.ref na) (.ref ma) u19 u20 (by simp) 7 (nI (q + 1))) (kwV 3 hts w_co_Mo_tells rfl rfl w_it_Mo w_ml_Mo_161 w_im_Mo_tells w_se_Mo__Mo_tells (by decide +kernel) ⟨(Nat.le_of_ble_eq_true rfl), (Nat.le_of_ble_eq_true rfl)⟩) (u_preV hK hV hn [0] rfl hz 0 rfl rfl) rfl rfl hl.1 rfl (lv_room (Nat.le_of_ble_eq_true rfl)) d_Mo_reached_156 ⟨(Nat.le_of_ble_eq_true rfl), (Nat.le_of_ble_eq_true rfl)⟩) hV (fun r9 V9 H locs hp hV hle => ?_)
                        obtain ⟨rfl, rfl, hz⟩ := hp
                        replace hV := uu_same hV hn [0] rfl
                        have hV : vS G.1 cls lo s H locs (vU V [(m, eO 8 [u0, u1, u2, u3, .ref pa, .ref sa, u6, u7, u8, u9, u10, u11, u12, u13, u14, .int (nI ((F ++ flt 7 (unr Q S) q).length)), .ref ka, .ref na, .ref ma, u19, u20]), (sa, eI (gI G) 62 sp), (pa, eI (gI G) 1769 P), (ma, eI (gZ G) 41 mk3), (ka, eI (gI G) 300 fk), (na, eI (gI G) 300 fn)]) := hV
                        rw [app_n hu] at hV hO
                        refine lv_iinc (v := nI (q + 2)) (lv' := [(3, .int (nI (q + 2))), (5, .int 1), (4, .int (nI x9)), (0, .ref m), (1, .int (nI (i + 1))), (2, .int (nI x0))]) hx hb d_Mo_reached_159 hl (k := 5) rfl (nI_add (q + 1) 1) (by decide) rfl (fun ls hl => ?_)
                        refine lv_goto (tgt := 49) hx hb d_Mo_reached_162 (by decide) ?_
                        exact ih (q + 1) fk fn (by omega) (by omega) (by omega) hO H locs ls hz hV (lv_sub hl [3, 4, 5, 0] rfl)
                      · have hm1 := b2i_0 c_13
                        refine lv_aload_n hx hb d_Mo_reached_115 rfl (lv_at hl 1 rfl) ?_
                        refine u_get hx hb hts inMo hown hK hV hn 0 rfl rfl 18 (by decide) w_fl_Mo_44 rfl rfl d_Mo_reached_116 ?_
                        refine lv_aload_n hx hb d_Mo_reached_119 rfl (lv_at hl 1 rfl) ?_
                        refine u_get hx hb hts inMo hown hK hV hn 0 rfl rfl 4 (by decide) w_fl_Mo_17 rfl rfl d_Mo_reached_120 ?_
                        refine lv_iload hx hb d_Mo_reached_123 (lv_at hl 0 rfl) ?_
                        refine lv_bipush (v := 29) hx hb d_Mo_reached_125 (by decide) ?_
                        refine e_imul (v := nI (29 * x9)) hx hb d_Mo_reached_127 (by rw [Nat.mul_comm 29 x9]; exact nI_mul x9 29) ?_
                        refine lv_iconst (v := 2) hx hb d_Mo_reached_128 (by decide) ?_
                        refine e_iadd (v := nI (29 * x9 + 2)) hx hb d_Mo_reached_129 (nI_add (29 * x9) 2) ?_
                        refine u_ialdN hx hb hK hV hn 2 rfl (by omega) (by decide) d_Mo_reached_130 ?_
                        rw [r2]
                        refine u_zaldN hx hb hK hV hn 3 rfl (by omega) (by decide) d_Mo_reached_131 ?_
                        rw [hmk R.1.2.2 (by omega)]
                        refine lv_if_eq (tgt := 139) hx hb d_Mo_reached_132 (by decide) (fun c_15 => ?_) (fun c_15 => ?_)
                        · have hu : unr Q S (q + 1) = true := by rw [hu9]; exact bad7_out hm1 (b2i_0 c_15)
                          refine lv_iconst (v := 0) hx hb d_Mo_reached_139 (by decide) ?_
                          refine lv_istore (lv' := [(5, .int 0), (4, .int (nI x9)), (0, .ref m), (1, .int (nI (i + 1))), (2, .int (nI x0)), (3, .int (nI (q + 1)))]) hx hb d_Mo_reached_140 hl (by decide) rfl (fun ls hl => ?_)
                          refine lv_aload_n hx hb d_Mo_reached_142 rfl (lv_at hl 2 rfl) ?_
                          refine lv_bipush (v := 7) hx hb d_Mo_reached_143 (by decide) ?_
                          refine lv_iload_n hx hb d_Mo_reached_145 rfl (lv_at hl 5 rfl) ?_
                          refine lv_iload hx hb d_Mo_reached_146 (lv_at hl 0 rfl) ?_
                          refine lv_if_ne (tgt := 155) hx hb d_Mo_reached_148 (by decide) (fun c_16 => absurd c_16 (by decide)) (fun _ => ?_)
                          refine lv_iconst (v := 1) hx hb d_Mo_reached_151 (by decide) ?_
                          refine lv_goto (tgt := 156) hx hb d_Mo_reached_152 (by decide) ?_
                          refine v_call (va_runV (As := [.int 7, .int (nI (q + 1)), .int 1]) (rest := []) ⟨hx, hb, hml, hown, hts⟩ (c_Mo_tells l G lo _ _ m ka na u0 u1 u2 u3 (.ref pa) (.ref sa) u6 u7 u8 u9 u10 u11 u12 u13 u14 (.ref ma) u19 u20 fk fn (F ++ flt 7 (unr Q S) q) (nd_sub hn [0, 4, 5] (by decide) rfl) hO (by rw [List.length_append]; have := flt_le 7 (unr Q S) q; omega) 7 (q + 1)) (kwV 3 hts w_co_Mo_tells rfl rfl w_it_Mo w_ml_Mo_161 w_im_Mo_tells w_se_Mo__Mo_tells (by decide +kernel) ⟨(Nat.le_of_ble_eq_true rfl), (Nat.le_of_ble_eq_true rfl)⟩) (u_preV hK hV hn [0, 4, 5] rfl hz 0 rfl rfl) rfl rfl hl.1 rfl (lv_room (Nat.le_of_ble_eq_true rfl)) d_Mo_reached_156 ⟨(Nat.le_of_ble_eq_true rfl), (Nat.le_of_ble_eq_true rfl)⟩) hV (fun r9 V9 H locs hp hV hle => ?_)
                          obtain ⟨rfl, ⟨g_17k, g_17n, rfl, hO_g_17⟩, hz⟩ := hp
                          replace hV := u_back hV hn [0, 4, 5] rfl
                          have hV : vS G.1 cls lo s H locs (vU V [(m, eO 8 [u0, u1, u2, u3, .ref pa, .ref sa, u6, u7, u8, u9, u10, u11, u12, u13, u14, .int (nI ((F ++ flt 7 (unr Q S) q ++ [(7, q + 1)]).length)), .ref ka, .ref na, .ref ma, u19, u20]), (sa, eI (gI G) 62 sp), (pa, eI (gI G) 1769 P), (ma, eI (gZ G) 41 mk3), (ka, eI (gI G) 300 g_17k), (na, eI (gI G) 300 g_17n)]) := hV
                          rw [app_y hu] at hV hO_g_17
                          refine lv_iinc (v := nI (q + 2)) (lv' := [(3, .int (nI (q + 2))), (5, .int 0), (4, .int (nI x9)), (0, .ref m), (1, .int (nI (i + 1))), (2, .int (nI x0))]) hx hb d_Mo_reached_159 hl (k := 5) rfl (nI_add (q + 1) 1) (by decide) rfl (fun ls hl => ?_)
                          refine lv_goto (tgt := 49) hx hb d_Mo_reached_162 (by decide) ?_
                          exact ih (q + 1) g_17k g_17n (by omega) (by omega) (by omega) hO_g_17 H locs ls hz hV (lv_sub hl [3, 4, 5, 0] rfl)
                        · have hu : unr Q S (q + 1) = false := by rw [hu9]; exact bad7_in hw9 (ends_2 R) (b2i_1 c_15)
                          refine lv_iconst (v := 1) hx hb d_Mo_reached_135 (by decide) ?_
                          refine lv_goto (tgt := 140) hx hb d_Mo_reached_136 (by decide) ?_
                          refine lv_istore (lv' := [(5, .int 1), (4, .int (nI x9)), (0, .ref m), (1, .int (nI (i + 1))), (2, .int (nI x0)), (3, .int (nI (q + 1)))]) hx hb d_Mo_reached_140 hl (by decide) rfl (fun ls hl => ?_)
                          refine lv_aload_n hx hb d_Mo_reached_142 rfl (lv_at hl 2 rfl) ?_
                          refine lv_bipush (v := 7) hx hb d_Mo_reached_143 (by decide) ?_
                          refine lv_iload_n hx hb d_Mo_reached_145 rfl (lv_at hl 5 rfl) ?_
                          refine lv_iload hx hb d_Mo_reached_146 (lv_at hl 0 rfl) ?_
                          refine lv_if_ne (tgt := 155) hx hb d_Mo_reached_148 (by decide) (fun _ => ?_) (fun c_18 => absurd c_18 (by decide))
                          refine lv_iconst (v := 0) hx hb d_Mo_reached_155 (by decide) ?_
                          refine v_call (va_runV (As := [.int 7, .int (nI (q + 1)), .int 0]) (rest := []) ⟨hx, hb, hml, hown, hts⟩ (c_Mo_tells0 l G lo _ _ m u0 u1 u2 u3 (.ref pa) (.ref sa) u6 u7 u8 u9 u10 u11 u12 u13 u14 (.int (nI ((F ++ flt 7 (unr Q S) q).length))) (.ref ka) (.ref na) (.ref ma) u19 u20 (by simp) 7 (nI (q + 1))) (kwV 3 hts w_co_Mo_tells rfl rfl w_it_Mo w_ml_Mo_161 w_im_Mo_tells w_se_Mo__Mo_tells (by decide +kernel) ⟨(Nat.le_of_ble_eq_true rfl), (Nat.le_of_ble_eq_true rfl)⟩) (u_preV hK hV hn [0] rfl hz 0 rfl rfl) rfl rfl hl.1 rfl (lv_room (Nat.le_of_ble_eq_true rfl)) d_Mo_reached_156 ⟨(Nat.le_of_ble_eq_true rfl), (Nat.le_of_ble_eq_true rfl)⟩) hV (fun r9 V9 H locs hp hV hle => ?_)
                          obtain ⟨rfl, rfl, hz⟩ := hp
                          replace hV := uu_same hV hn [0] rfl
                          have hV : vS G.1 cls lo s H locs (vU V [(m, eO 8 [u0, u1, u2, u3, .ref pa, .ref sa, u6, u7, u8, u9, u10, u11, u12, u13, u14, .int (nI ((F ++ flt 7 (unr Q S) q).length)), .ref ka, .ref na, .ref ma, u19, u20]), (sa, eI (gI G) 62 sp), (pa, eI (gI G) 1769 P), (ma, eI (gZ G) 41 mk3), (ka, eI (gI G) 300 fk), (na, eI (gI G) 300 fn)]) := hV
                          rw [app_n hu] at hV hO
                          refine lv_iinc (v := nI (q + 2)) (lv' := [(3, .int (nI (q + 2))), (5, .int 1), (4, .int (nI x9)), (0, .ref m), (1, .int (nI (i + 1))), (2, .int (nI x0))]) hx hb d_Mo_reached_159 hl (k := 5) rfl (nI_add (q + 1) 1) (by decide) rfl (fun ls hl => ?_)
                          refine lv_goto (tgt := 49) hx hb d_Mo_reached_162 (by decide) ?_
                          exact ih (q + 1) fk fn (by omega) (by omega) (by omega) hO H locs ls hz hV (lv_sub hl [3, 4, 5, 0] rfl)
                  · have hu : unr Q S (q + 1) = true := by rw [hu9]; exact bad7_w d_9
                    have hV : vS G.1 cls lo s H locs (vU V [(m, eO 8 [u0, u1, u2, u3, .ref pa, .ref sa, u6, u7, u8, u9, u10, u11, u12, u13, u14, .int (nI ((F ++ flt 7 (unr Q S) q).length)), .ref ka, .ref na, .ref ma, u19, u20]), (sa, eI (gI G) 62 sp), (pa, eI (gI G) 1769 P), (ma, eI (gZ G) 41 mk3), (ka, eI (gI G) 300 fk), (na, eI (gI G) 300 fn)]) := hV
                    refine W.eq (g2 := F0 mi 86 ls [.int 0]) (by rw [d_9]; rfl) ?_
                    refine lv_if_eq (tgt := 139) hx hb d_Mo_reached_86 (by decide) (fun _ => ?_) (fun c_19 => absurd c_19 (by decide))
                    refine lv_iconst (v := 0) hx hb d_Mo_reached_139 (by decide) ?_
                    refine lv_istore (lv' := [(5, .int 0), (4, .int (nI x9)), (0, .ref m), (1, .int (nI (i + 1))), (2, .int (nI x0)), (3, .int (nI (q + 1)))]) hx hb d_Mo_reached_140 hl (by decide) rfl (fun ls hl => ?_)
                    refine lv_aload_n hx hb d_Mo_reached_142 rfl (lv_at hl 2 rfl) ?_
                    refine lv_bipush (v := 7) hx hb d_Mo_reached_143 (by decide) ?_
                    refine lv_iload_n hx hb d_Mo_reached_145 rfl (lv_at hl 5 rfl) ?_
                    refine lv_iload hx hb d_Mo_reached_146 (lv_at hl 0 rfl) ?_
                    refine lv_if_ne (tgt := 155) hx hb d_Mo_reached_148 (by decide) (fun c_20 => absurd c_20 (by decide)) (fun _ => ?_)
                    refine lv_iconst (v := 1) hx hb d_Mo_reached_151 (by decide) ?_
                    refine lv_goto (tgt := 156) hx hb d_Mo_reached_152 (by decide) ?_
                    refine v_call (va_runV (As := [.int 7, .int (nI (q + 1)), .int 1]) (rest := []) ⟨hx, hb, hml, hown, hts⟩ (c_Mo_tells l G lo _ _ m ka na u0 u1 u2 u3 (.ref pa) (.ref sa) u6 u7 u8 u9 u10 u11 u12 u13 u14 (.ref ma) u19 u20 fk fn (F ++ flt 7 (unr Q S) q) (nd_sub hn [0, 4, 5] (by decide) rfl) hO (by rw [List.length_append]; have := flt_le 7 (unr Q S) q; omega) 7 (q + 1)) (kwV 3 hts w_co_Mo_tells rfl rfl w_it_Mo w_ml_Mo_161 w_im_Mo_tells w_se_Mo__Mo_tells (by decide +kernel) ⟨(Nat.le_of_ble_eq_true rfl), (Nat.le_of_ble_eq_true rfl)⟩) (u_preV hK hV hn [0, 4, 5] rfl hz 0 rfl rfl) rfl rfl hl.1 rfl (lv_room (Nat.le_of_ble_eq_true rfl)) d_Mo_reached_156 ⟨(Nat.le_of_ble_eq_true rfl), (Nat.le_of_ble_eq_true rfl)⟩) hV (fun r9 V9 H locs hp hV hle => ?_)
                    obtain ⟨rfl, ⟨g_21k, g_21n, rfl, hO_g_21⟩, hz⟩ := hp
                    replace hV := u_back hV hn [0, 4, 5] rfl
                    have hV : vS G.1 cls lo s H locs (vU V [(m, eO 8 [u0, u1, u2, u3, .ref pa, .ref sa, u6, u7, u8, u9, u10, u11, u12, u13, u14, .int (nI ((F ++ flt 7 (unr Q S) q ++ [(7, q + 1)]).length)), .ref ka, .ref na, .ref ma, u19, u20]), (sa, eI (gI G) 62 sp), (pa, eI (gI G) 1769 P), (ma, eI (gZ G) 41 mk3), (ka, eI (gI G) 300 g_21k), (na, eI (gI G) 300 g_21n)]) := hV
                    rw [app_y hu] at hV hO_g_21
                    refine lv_iinc (v := nI (q + 2)) (lv' := [(3, .int (nI (q + 2))), (5, .int 0), (4, .int (nI x9)), (0, .ref m), (1, .int (nI (i + 1))), (2, .int (nI x0))]) hx hb d_Mo_reached_159 hl (k := 5) rfl (nI_add (q + 1) 1) (by decide) rfl (fun ls hl => ?_)
                    refine lv_goto (tgt := 49) hx hb d_Mo_reached_162 (by decide) ?_
                    exact ih (q + 1) g_21k g_21n (by omega) (by omega) (by omega) hO_g_21 H locs ls hz hV (lv_sub hl [3, 4, 5, 0] rfl)
                · have hu : unr Q S (q + 1) = false := unr_n (stO_no d_7)
                  have hV : vS G.1 cls lo s H locs (vU V [(m, eO 8 [u0, u1, u2, u3, .ref pa, .ref sa, u6, u7, u8, u9, u10, u11, u12, u13, u14, .int (nI ((F ++ flt 7 (unr Q S) q).length)), .ref ka, .ref na, .ref ma, u19, u20]), (sa, eI (gI G) 62 sp), (pa, eI (gI G) 1769 P), (ma, eI (gZ G) 41 mk3), (ka, eI (gI G) 300 fk), (na, eI (gI G) 300 fn)]) := hV
                  refine W.eq (g2 := F0 mi 63 ls [.int 0]) (by rw [d_7]; rfl) ?_
                  refine lv_if_ne (tgt := 69) hx hb d_Mo_reached_63 (by decide) (fun c_22 => absurd c_22 (by decide)) (fun _ => ?_)
                  refine lv_goto (tgt := 159) hx hb d_Mo_reached_66 (by decide) ?_
                  rw [app_n hu] at hV hO
                  refine lv_iinc (v := nI (q + 2)) (lv' := [(3, .int (nI (q + 2))), (0, .ref m), (1, .int (nI (i + 1))), (2, .int (nI x0))]) hx hb d_Mo_reached_159 hl (k := 3) rfl (nI_add (q + 1) 1) (by decide) rfl (fun ls hl => ?_)
                  refine lv_goto (tgt := 49) hx hb d_Mo_reached_162 (by decide) ?_
                  exact ih (q + 1) fk fn (by omega) (by omega) (by omega) hO H locs ls hz hV (lv_sub hl [1, 2, 3, 0] rfl)
          have eF : F = F ++ flt 7 (unr Q S) i := by rw [flt_0 (P := (unr Q S)) i (fun q h1 h2 => unr_n (hall q h1 h2)), List.append_nil]
          rw [eF] at hV hO
          exact l2 31 i fk fn (by omega) (by omega) (by omega) hO H locs ls hz hV (lv_sub hl [2, 3, 1, 0] rfl)
        · have hst0 : stP Q S (i + 1) = none := stO_no d_3
          have hall2 : ∀ q, 1 ≤ q → q ≤ i + 1 → stP Q S q = none := fun q h1 h2 => by rcases Nat.lt_or_ge q (i + 1) with z | z; exact hall q h1 (by omega); rw [show q = i + 1 by omega]; exact hst0
          have hV : vS G.1 cls lo s H locs (vU V [(m, eO 8 [u0, u1, u2, u3, .ref pa, .ref sa, u6, u7, u8, u9, u10, u11, u12, u13, u14, .int (nI F.length), .ref ka, .ref na, .ref ma, u19, u20]), (sa, eI (gI G) 62 sp), (pa, eI (gI G) 1769 P), (ma, eI (gZ G) 41 mk), (ka, eI (gI G) 300 fk), (na, eI (gI G) 300 fn)]) := hV
          refine W.eq (g2 := F0 mi 16 ls [.int 0]) (by rw [d_3]; rfl) ?_
          refine lv_if_ne (tgt := 25) hx hb d_Mo_reached_16 (by decide) (fun c_23 => absurd c_23 (by decide)) (fun _ => ?_)
          refine lv_iinc (v := nI (i + 2)) (lv' := [(1, .int (nI (i + 2))), (0, .ref m)]) hx hb d_Mo_reached_19 hl (k := 1) rfl (nI_add (i + 1) 1) (by decide) rfl (fun ls hl => ?_)
          refine lv_goto (tgt := 2) hx hb d_Mo_reached_22 (by decide) ?_
          exact ih (i + 1) (by omega) (by omega) hall2 H locs ls hz hV (lv_sub hl [1, 0] rfl)
  exact l1 31 0 (by omega) (by omega) (fun q h1 h2 => absurd h1 (by omega)) H locs ls hz hV (lv_sub hl [1, 0] rfl)
