set_option maxHeartbeats 4000000 in
set_option maxRecDepth 100000 in
/-- Reader.readNumber -/
theorem c_Rd_readNumber (l : Launch) (G : Gx) (lo : Nat) (V : Vw) (sz : Nat) (rd tp : Nat) (f : Nat → Int32) (t : Nat → Nat) (n p : Nat) (hn : [rd, tp].Nodup) (hT : tpOk f t n) (h4 : n ≤ 400) (hp : p ≤ n) (x y : Nat) (hx1 : x < 10000) (hy1 : y < 10000) : Met l y_Rd_readNumber ws_Rd_readNumber ({ frames := 1, cells := 0, slots := 0, locals := 20 } : Room) (vPre G lo [.ref rd, .int (nI x), .int (nI y)] (vU V [(rd, eO 3 [.ref tp, .int (nI n), .int (nI p)]), (tp, eI (gB G) 400 f)]) sz) (vPost G lo (fun r V' k => r = some (.int (rN (num t n x y p))) ∧ V' = vU V [(rd, eO 3 [.ref tp, .int (nI n), .int (nI (rP (num t n x y p)))]), (tp, eI (gB G) 400 f)] ∧ k = sz)) 0 0 (vL lo) := by
  refine vMet (R := RRd) (by decide) rfl (Nat.le_of_ble_eq_true rfl) ?_
  intro pg ev s mi args below meth cd hx hb hr hml hlk hnm hts hown hK hz hV ls hl
  have hl : lv_has ls 5 [(0, .ref rd), (1, .int (nI x)), (2, .int (nI y))] := hl
  have hV0 := hV
  obtain ⟨H, hH⟩ : ∃ H, H = s.heap := ⟨_, rfl⟩
  obtain ⟨locs, hlocs⟩ : ∃ locs : List Loc, locs = [] := ⟨_, rfl⟩
  rw [← hH, ← hlocs]
  rw [← hH] at hz
  replace hV : vS G.1 cls lo s H locs (vU V [(rd, eO 3 [.ref tp, .int (nI n), .int (nI p)]), (tp, eI (gB G) 400 f)]) := by rw [hH, hlocs]; exact hV
  clear hH hlocs hV0
  refine lv_aload_n hx hb d_Rd_readNumber_0 rfl (lv_at hl 0 rfl) ?_
  refine v_call (va_runV (As := []) (rest := []) ⟨hx, hb, hml, hown, hts⟩ (c_Rd_skipBlanks l G lo _ _ rd tp f t n p hn hT h4 (by omega)) (kwV 0 hts w_co_Rd_skipBlanks rfl rfl w_it_Rd w_ml_Rd_152 w_im_Rd_skipBlanks w_se_Rd__Rd_skipBlanks (by decide +kernel) ⟨by decide, by decide⟩) (u_preV hK hV hn [0, 1] rfl hz 0 rfl rfl) rfl rfl hl.1 rfl (lv_room (Nat.le_of_ble_eq_true rfl)) d_Rd_readNumber_1 ⟨(Nat.le_of_ble_eq_true rfl), (Nat.le_of_ble_eq_true rfl)⟩) hV (fun r9 V9 H locs hp hV hle => ?_)
  obtain ⟨rfl, rfl, hz⟩ := hp
  replace hV := u_back hV hn [0, 1] rfl
  have hV : vS G.1 cls lo s H locs (vU V [(rd, eO 3 [.ref tp, .int (nI n), .int (nI (sk t n p))]), (tp, eI (gB G) 400 f)]) := hV
  obtain ⟨q_1, hq_1⟩ : ∃ z, sk t n p = z := ⟨_, rfl⟩
  rw [hq_1] at hV
  have bq_1 : q_1 ≤ n := by rw [← hq_1]; exact sk_le (by omega)
  have gq_1 : p ≤ q_1 := by rw [← hq_1]; exact sk_ge t n p
  have hV : vS G.1 cls lo s H locs (vU V [(rd, eO 3 [.ref tp, .int (nI n), .int (nI q_1)]), (tp, eI (gB G) 400 f)]) := hV
  have hd0 := dgs_r (t := t) 4 0 0 q_1 bq_1
  have fin : ∀ (v d r : Nat), v ≤ 9999 → d ≤ 4 → r ≤ n → r = q_1 + d → dgs t n 4 0 0 (sk t n p) = (v, d, r) → ∀ (H : Heap) (locs : List Loc) (ls : Array Slot), H.size = sz → vS G.1 cls lo s H locs (vU V [(rd, eO 3 [.ref tp, .int (nI n), .int (nI r)]), (tp, eI (gB G) 400 f)]) → lv_has ls 5 [(0, .ref rd), (1, .int (nI x)), (2, .int (nI y)), (3, .int (nI v)), (4, .int (nI d))] → W pg l ev ({ frames := 1, cells := 0, slots := 0, locals := 20 } : Room) s mi args below meth cd H locs 0 0 (MQ below (vPost G lo (fun r V' k => r = some (.int (rN (num t n x y p))) ∧ V' = vU V [(rd, eO 3 [.ref tp, .int (nI n), .int (nI (rP (num t n x y p)))]), (tp, eI (gB G) 400 f)] ∧ k = sz)) args s 0 0 (vL lo)) (F0 mi 65 ls []) := by
    intro v d r  hv hd4 hr1 hr2 hX H locs ls hz hV hl
    refine lv_iload hx hb d_Rd_readNumber_65 (lv_at hl 4 rfl) ?_
    refine lv_if_eq (tgt := 83) hx hb d_Rd_readNumber_67 (by decide) (fun c_2 => ?_) (fun c_2 => ?_)
    · replace c_2 : d = 0 := (nI_eq (a := d) (b := 0) (by omega) (by omega)).mp c_2
      have hE : num t n x y p = .inl r := num_bad hX (Or.inl c_2)
      refine lv_iconst (v := (-1)) hx hb d_Rd_readNumber_83 (by decide) ?_
      exact W.iret (v := (-1)) hx hb hr (v_end hV ⟨by rw [hE]; rfl, by rw [hE]; rfl, hz⟩) hV.2.1.2.2 d_Rd_readNumber_84
    · replace c_2 : ¬ d = 0 := fun z9 => c_2 ((nI_eq (a := d) (b := 0) (by omega) (by omega)).mpr z9)
      refine lv_iload hx hb d_Rd_readNumber_70 (lv_at hl 4 rfl) ?_
      refine lv_iconst (v := 4) hx hb d_Rd_readNumber_72 (by decide) ?_
      refine lv_icmp_ne (tgt := 85) hx hb d_Rd_readNumber_73 (by decide) (fun c_3 => ?_) (fun c_3 => ?_)
      · replace c_3 : ¬ d = 4 := fun z9 => c_3 ((nI_eq (a := d) (b := 4) (by omega) (by omega)).mpr z9)
        have hB : ¬ (d = 0 ∨ (d = 4 ∧ isD t n r = true)) := by rintro (z | ⟨z, -⟩) <;> omega
        refine lv_iload_n hx hb d_Rd_readNumber_85 rfl (lv_at hl 3 rfl) ?_
        refine lv_iload_n hx hb d_Rd_readNumber_86 rfl (lv_at hl 1 rfl) ?_
        refine lv_icmp_lt (tgt := 95) hx hb d_Rd_readNumber_87 (by decide) (fun c_4 => ?_) (fun c_4 => ?_)
        · replace c_4 : v < x := (nI_ltI (a := v) (b := x) (by omega) (by omega)).mp c_4
          have hE : num t n x y p = .inl (r - 1) := num_out hX hB (Or.inl c_4)
          refine lv_aload_n hx hb d_Rd_readNumber_95 rfl (lv_at hl 0 rfl) ?_
          refine lv_dup hx hb d_Rd_readNumber_96 rfl ?_
          refine u_get hx hb hts inRd hown hK hV hn 0 rfl rfl 2 (by decide) w_fl_Rd_19 rfl rfl d_Rd_readNumber_97 ?_
          refine lv_iconst (v := 1) hx hb d_Rd_readNumber_100 (by decide) ?_
          refine e_isub (v := nI (r - 1)) hx hb d_Rd_readNumber_101 (pk_sub (a := r) (b := 1) (by omega)) ?_
          refine u_put hx hb hts inRd tyRd tyRd_ok nmRd hown hK hV hn 0 rfl rfl 2 (by decide) w_fl_Rd_19 rfl rfl rfl rfl (Nat.le_of_ble_eq_true rfl) d_Rd_readNumber_102 (fun H locs hV hz9 => ?_)
          have hV : vS G.1 cls lo s H locs (vU V [(rd, eO 3 [.ref tp, .int (nI n), .int (nI (r - 1))]), (tp, eI (gB G) 400 f)]) := hV
          replace hz := hz9.trans hz
          refine lv_iconst (v := (-1)) hx hb d_Rd_readNumber_105 (by decide) ?_
          exact W.iret (v := (-1)) hx hb hr (v_end hV ⟨by rw [hE]; rfl, by rw [hE]; rfl, hz⟩) hV.2.1.2.2 d_Rd_readNumber_106
        · replace c_4 : ¬ v < x := fun z9 => c_4 ((nI_ltI (a := v) (b := x) (by omega) (by omega)).mpr z9)
          refine lv_iload_n hx hb d_Rd_readNumber_90 rfl (lv_at hl 3 rfl) ?_
          refine lv_iload_n hx hb d_Rd_readNumber_91 rfl (lv_at hl 2 rfl) ?_
          refine lv_icmp_le (tgt := 107) hx hb d_Rd_readNumber_92 (by decide) (fun c_5 => ?_) (fun c_5 => ?_)
          · replace c_5 : v ≤ y := (nI_leI (a := v) (b := y) (by omega) (by omega)).mp c_5
            have hE : num t n x y p = .inr (v, r) := num_in hX hB (by omega)
            refine lv_iload_n hx hb d_Rd_readNumber_107 rfl (lv_at hl 3 rfl) ?_
            exact W.iret (v := nI v) hx hb hr (v_end hV ⟨by rw [hE]; rfl, by rw [hE]; rfl, hz⟩) hV.2.1.2.2 d_Rd_readNumber_108
          · replace c_5 : ¬ v ≤ y := fun z9 => c_5 ((nI_leI (a := v) (b := y) (by omega) (by omega)).mpr z9)
            have hE : num t n x y p = .inl (r - 1) := num_out hX hB (by omega)
            refine lv_aload_n hx hb d_Rd_readNumber_95 rfl (lv_at hl 0 rfl) ?_
            refine lv_dup hx hb d_Rd_readNumber_96 rfl ?_
            refine u_get hx hb hts inRd hown hK hV hn 0 rfl rfl 2 (by decide) w_fl_Rd_19 rfl rfl d_Rd_readNumber_97 ?_
            refine lv_iconst (v := 1) hx hb d_Rd_readNumber_100 (by decide) ?_
            refine e_isub (v := nI (r - 1)) hx hb d_Rd_readNumber_101 (pk_sub (a := r) (b := 1) (by omega)) ?_
            refine u_put hx hb hts inRd tyRd tyRd_ok nmRd hown hK hV hn 0 rfl rfl 2 (by decide) w_fl_Rd_19 rfl rfl rfl rfl (Nat.le_of_ble_eq_true rfl) d_Rd_readNumber_102 (fun H locs hV hz9 => ?_)
            have hV : vS G.1 cls lo s H locs (vU V [(rd, eO 3 [.ref tp, .int (nI n), .int (nI (r - 1))]), (tp, eI (gB G) 400 f)]) := hV
            replace hz := hz9.trans hz
            refine lv_iconst (v := (-1)) hx hb d_Rd_readNumber_105 (by decide) ?_
            exact W.iret (v := (-1)) hx hb hr (v_end hV ⟨by rw [hE]; rfl, by rw [hE]; rfl, hz⟩) hV.2.1.2.2 d_Rd_readNumber_106
      · replace c_3 : d = 4 := (nI_eq (a := d) (b := 4) (by omega) (by omega)).mp c_3
        refine lv_aload_n hx hb d_Rd_readNumber_76 rfl (lv_at hl 0 rfl) ?_
        refine v_call (va_runV (As := []) (rest := []) ⟨hx, hb, hml, hown, hts⟩ (c_Rd_isDigitHere l G lo _ _ rd tp f t n r hn hT h4 (by omega)) (kwV 0 hts w_co_Rd_isDigitHere rfl rfl w_it_Rd w_ml_Rd_155 w_im_Rd_isDigitHere w_se_Rd__Rd_isDigitHere (by decide +kernel) ⟨by decide, by decide⟩) (u_preV hK hV hn [0, 1] rfl hz 0 rfl rfl) rfl rfl hl.1 rfl (lv_room (Nat.le_of_ble_eq_true rfl)) d_Rd_readNumber_77 ⟨(Nat.le_of_ble_eq_true rfl), (Nat.le_of_ble_eq_true rfl)⟩) hV (fun r9 V9 H locs hp hV hle => ?_)
        obtain ⟨rfl, rfl, hz⟩ := hp
        replace hV := uu_same hV hn [0, 1] rfl
        rcases tf (isD t n r) with d_6 | d_6
        · have hV : vS G.1 cls lo s H locs (vU V [(rd, eO 3 [.ref tp, .int (nI n), .int (nI r)]), (tp, eI (gB G) 400 f)]) := hV
          refine W.eq (g2 := F0 mi 80 ls [.int 1]) (by rw [d_6]; rfl) ?_
          refine lv_if_eq (tgt := 85) hx hb d_Rd_readNumber_80 (by decide) (fun c_7 => absurd c_7 (by decide)) (fun _ => ?_)
          have hE : num t n x y p = .inl r := num_bad hX (Or.inr ⟨by omega, d_6⟩)
          refine lv_iconst (v := (-1)) hx hb d_Rd_readNumber_83 (by decide) ?_
          exact W.iret (v := (-1)) hx hb hr (v_end hV ⟨by rw [hE]; rfl, by rw [hE]; rfl, hz⟩) hV.2.1.2.2 d_Rd_readNumber_84
        · have hV : vS G.1 cls lo s H locs (vU V [(rd, eO 3 [.ref tp, .int (nI n), .int (nI r)]), (tp, eI (gB G) 400 f)]) := hV
          refine W.eq (g2 := F0 mi 80 ls [.int 0]) (by rw [d_6]; rfl) ?_
          refine lv_if_eq (tgt := 85) hx hb d_Rd_readNumber_80 (by decide) (fun _ => ?_) (fun c_8 => absurd c_8 (by decide))
          have hB : ¬ (d = 0 ∨ (d = 4 ∧ isD t n r = true)) := by rintro (z | ⟨-, z⟩); omega; rw [d_6] at z; cases z
          refine lv_iload_n hx hb d_Rd_readNumber_85 rfl (lv_at hl 3 rfl) ?_
          refine lv_iload_n hx hb d_Rd_readNumber_86 rfl (lv_at hl 1 rfl) ?_
          refine lv_icmp_lt (tgt := 95) hx hb d_Rd_readNumber_87 (by decide) (fun c_9 => ?_) (fun c_9 => ?_)
          · replace c_9 : v < x := (nI_ltI (a := v) (b := x) (by omega) (by omega)).mp c_9
            have hE : num t n x y p = .inl (r - 1) := num_out hX hB (Or.inl c_9)
            refine lv_aload_n hx hb d_Rd_readNumber_95 rfl (lv_at hl 0 rfl) ?_
            refine lv_dup hx hb d_Rd_readNumber_96 rfl ?_
            refine u_get hx hb hts inRd hown hK hV hn 0 rfl rfl 2 (by decide) w_fl_Rd_19 rfl rfl d_Rd_readNumber_97 ?_
            refine lv_iconst (v := 1) hx hb d_Rd_readNumber_100 (by decide) ?_
            refine e_isub (v := nI (r - 1)) hx hb d_Rd_readNumber_101 (pk_sub (a := r) (b := 1) (by omega)) ?_
            refine u_put hx hb hts inRd tyRd tyRd_ok nmRd hown hK hV hn 0 rfl rfl 2 (by decide) w_fl_Rd_19 rfl rfl rfl rfl (Nat.le_of_ble_eq_true rfl) d_Rd_readNumber_102 (fun H locs hV hz9 => ?_)
            have hV : vS G.1 cls lo s H locs (vU V [(rd, eO 3 [.ref tp, .int (nI n), .int (nI (r - 1))]), (tp, eI (gB G) 400 f)]) := hV
            replace hz := hz9.trans hz
            refine lv_iconst (v := (-1)) hx hb d_Rd_readNumber_105 (by decide) ?_
            exact W.iret (v := (-1)) hx hb hr (v_end hV ⟨by rw [hE]; rfl, by rw [hE]; rfl, hz⟩) hV.2.1.2.2 d_Rd_readNumber_106
          · replace c_9 : ¬ v < x := fun z9 => c_9 ((nI_ltI (a := v) (b := x) (by omega) (by omega)).mpr z9)
            refine lv_iload_n hx hb d_Rd_readNumber_90 rfl (lv_at hl 3 rfl) ?_
            refine lv_iload_n hx hb d_Rd_readNumber_91 rfl (lv_at hl 2 rfl) ?_
            refine lv_icmp_le (tgt := 107) hx hb d_Rd_readNumber_92 (by decide) (fun c_10 => ?_) (fun c_10 => ?_)
            · replace c_10 : v ≤ y := (nI_leI (a := v) (b := y) (by omega) (by omega)).mp c_10
              have hE : num t n x y p = .inr (v, r) := num_in hX hB (by omega)
              refine lv_iload_n hx hb d_Rd_readNumber_107 rfl (lv_at hl 3 rfl) ?_
              exact W.iret (v := nI v) hx hb hr (v_end hV ⟨by rw [hE]; rfl, by rw [hE]; rfl, hz⟩) hV.2.1.2.2 d_Rd_readNumber_108
            · replace c_10 : ¬ v ≤ y := fun z9 => c_10 ((nI_leI (a := v) (b := y) (by omega) (by omega)).mpr z9)
              have hE : num t n x y p = .inl (r - 1) := num_out hX hB (by omega)
              refine lv_aload_n hx hb d_Rd_readNumber_95 rfl (lv_at hl 0 rfl) ?_
              refine lv_dup hx hb d_Rd_readNumber_96 rfl ?_
              refine u_get hx hb hts inRd hown hK hV hn 0 rfl rfl 2 (by decide) w_fl_Rd_19 rfl rfl d_Rd_readNumber_97 ?_
              refine lv_iconst (v := 1) hx hb d_Rd_readNumber_100 (by decide) ?_
              refine e_isub (v := nI (r - 1)) hx hb d_Rd_readNumber_101 (pk_sub (a := r) (b := 1) (by omega)) ?_
              refine u_put hx hb hts inRd tyRd tyRd_ok nmRd hown hK hV hn 0 rfl rfl 2 (by decide) w_fl_Rd_19 rfl rfl rfl rfl (Nat.le_of_ble_eq_true rfl) d_Rd_readNumber_102 (fun H locs hV hz9 => ?_)
              have hV : vS G.1 cls lo s H locs (vU V [(rd, eO 3 [.ref tp, .int (nI n), .int (nI (r - 1))]), (tp, eI (gB G) 400 f)]) := hV
              replace hz := hz9.trans hz
              refine lv_iconst (v := (-1)) hx hb d_Rd_readNumber_105 (by decide) ?_
              exact W.iret (v := (-1)) hx hb hr (v_end hV ⟨by rw [hE]; rfl, by rw [hE]; rfl, hz⟩) hV.2.1.2.2 d_Rd_readNumber_106
  have loop : ∀ (k : Nat) (v d r : Nat), 4 - d < k → d ≤ 4 → (d = 0 → v = 0) ∧ (d ≤ 1 → v ≤ 9) ∧ (d ≤ 2 → v ≤ 99) ∧ (d ≤ 3 → v ≤ 999) ∧ v ≤ 9999 → r ≤ n → r = q_1 + d → True → dgs t n (4 - d) v d r = dgs t n 4 0 0 q_1 → ∀ (H : Heap) (locs : List Loc) (ls : Array Slot), H.size = sz → vS G.1 cls lo s H locs (vU V [(rd, eO 3 [.ref tp, .int (nI n), .int (nI r)]), (tp, eI (gB G) 400 f)]) → lv_has ls 5 [(0, .ref rd), (1, .int (nI x)), (2, .int (nI y)), (3, .int (nI v)), (4, .int (nI d))] → W pg l ev ({ frames := 1, cells := 0, slots := 0, locals := 20 } : Room) s mi args below meth cd H locs 0 0 (MQ below (vPost G lo (fun r V' k => r = some (.int (rN (num t n x y p))) ∧ V' = vU V [(rd, eO 3 [.ref tp, .int (nI n), .int (nI (rP (num t n x y p)))]), (tp, eI (gB G) 400 f)] ∧ k = sz)) args s 0 0 (vL lo)) (F0 mi 9 ls []) := by
    intro k
    induction k with
    | zero => intro v d r hk; exact absurd hk (by omega)
    | succ k ih =>
      intro v d r hk hd4 hv hrn hr2 hX0 hX H locs ls hz hV hl
      refine lv_iload hx hb d_Rd_readNumber_9 (lv_at hl 4 rfl) ?_
      refine lv_iconst (v := 4) hx hb d_Rd_readNumber_11 (by decide) ?_
      refine lv_icmp_ge (tgt := 65) hx hb d_Rd_readNumber_12 (by decide) (fun c_11 => ?_) (fun c_11 => ?_)
      · replace c_11 : 4 ≤ d := (nI_leI (a := 4) (b := d) (by omega) (by omega)).mp c_11
        exact fin v d r (by omega) (by omega) hrn (by omega) (by rw [hq_1, ← hX]; exact dgs_stop (Or.inr (by omega))) H locs ls hz hV (lv_sub hl [0, 1, 2, 3, 4] rfl)
      · replace c_11 : ¬ 4 ≤ d := fun z9 => c_11 ((nI_leI (a := 4) (b := d) (by omega) (by omega)).mpr z9)
        refine lv_aload_n hx hb d_Rd_readNumber_15 rfl (lv_at hl 0 rfl) ?_
        refine v_call (va_runV (As := []) (rest := []) ⟨hx, hb, hml, hown, hts⟩ (c_Rd_isDigitHere l G lo _ _ rd tp f t n r hn hT h4 (by omega)) (kwV 0 hts w_co_Rd_isDigitHere rfl rfl w_it_Rd w_ml_Rd_155 w_im_Rd_isDigitHere w_se_Rd__Rd_isDigitHere (by decide +kernel) ⟨by decide, by decide⟩) (u_preV hK hV hn [0, 1] rfl hz 0 rfl rfl) rfl rfl hl.1 rfl (lv_room (Nat.le_of_ble_eq_true rfl)) d_Rd_readNumber_16 ⟨(Nat.le_of_ble_eq_true rfl), (Nat.le_of_ble_eq_true rfl)⟩) hV (fun r9 V9 H locs hp hV hle => ?_)
        obtain ⟨rfl, rfl, hz⟩ := hp
        replace hV := uu_same hV hn [0, 1] rfl
        rcases tf (isD t n r) with d_12 | d_12
        · have hV : vS G.1 cls lo s H locs (vU V [(rd, eO 3 [.ref tp, .int (nI n), .int (nI r)]), (tp, eI (gB G) 400 f)]) := hV
          refine W.eq (g2 := F0 mi 19 ls [.int 1]) (by rw [d_12]; rfl) ?_
          refine lv_if_eq (tgt := 65) hx hb d_Rd_readNumber_19 (by decide) (fun c_13 => absurd c_13 (by decide)) (fun _ => ?_)
          refine lv_iload hx hb d_Rd_readNumber_22 (lv_at hl 4 rfl) ?_
          refine lv_if_eq (tgt := 31) hx hb d_Rd_readNumber_24 (by decide) (fun c_14 => ?_) (fun c_14 => ?_)
          · replace c_14 : d = 0 := (nI_eq (a := d) (b := 0) (by omega) (by omega)).mp c_14
            refine lv_bipush (v := 10) hx hb d_Rd_readNumber_31 (by decide) ?_
            refine lv_iload_n hx hb d_Rd_readNumber_33 rfl (lv_at hl 3 rfl) ?_
            refine e_imul (v := nI (10 * v)) hx hb d_Rd_readNumber_34 (pk_mul 10 v) ?_
            refine lv_aload_n hx hb d_Rd_readNumber_35 rfl (lv_at hl 0 rfl) ?_
            refine u_get hx hb hts inRd hown hK hV hn 0 rfl rfl 0 (by decide) w_fl_Rd_9 rfl rfl d_Rd_readNumber_36 ?_
            refine lv_aload_n hx hb d_Rd_readNumber_39 rfl (lv_at hl 0 rfl) ?_
            refine u_get hx hb hts inRd hown hK hV hn 0 rfl rfl 2 (by decide) w_fl_Rd_19 rfl rfl d_Rd_readNumber_40 ?_
            have i0 : r < n := (isD_spec d_12).1
            refine u_baldN hx hb hK hV hn 1 rfl (by omega) (by decide) d_Rd_readNumber_43 ?_
            refine lv_bipush (v := 48) hx hb d_Rd_readNumber_44 (by decide) ?_
            obtain ⟨i1, i2, i3⟩ := isD_spec d_12
            refine e_isub (v := nI (t r - 48)) hx hb d_Rd_readNumber_46 (by rw [hT.val i1 (by omega)]; exact pk_sub i2) ?_
            refine e_iadd (v := nI (10 * v + (t r - 48))) hx hb d_Rd_readNumber_47 (nI_add (10 * v) (t r - 48)) ?_
            refine lv_istore_n (lv' := [(3, .int (nI (10 * v + (t r - 48)))), (0, .ref rd), (1, .int (nI x)), (2, .int (nI y)), (4, .int (nI d))]) hx hb d_Rd_readNumber_48 rfl hl (by decide) rfl (fun ls hl => ?_)
            refine lv_iinc (v := nI (d + 1)) (lv' := [(4, .int (nI (d + 1))), (3, .int (nI (10 * v + (t r - 48)))), (0, .ref rd), (1, .int (nI x)), (2, .int (nI y))]) hx hb d_Rd_readNumber_49 hl (k := 4) rfl (nI_add d 1) (by decide) rfl (fun ls hl => ?_)
            refine lv_aload_n hx hb d_Rd_readNumber_52 rfl (lv_at hl 2 rfl) ?_
            refine lv_dup hx hb d_Rd_readNumber_53 rfl ?_
            refine u_get hx hb hts inRd hown hK hV hn 0 rfl rfl 2 (by decide) w_fl_Rd_19 rfl rfl d_Rd_readNumber_54 ?_
            refine lv_iconst (v := 1) hx hb d_Rd_readNumber_57 (by decide) ?_
            refine e_iadd (v := nI (r + 1)) hx hb d_Rd_readNumber_58 (nI_add r 1) ?_
            refine u_put hx hb hts inRd tyRd tyRd_ok nmRd hown hK hV hn 0 rfl rfl 2 (by decide) w_fl_Rd_19 rfl rfl rfl rfl (Nat.le_of_ble_eq_true rfl) d_Rd_readNumber_59 (fun H locs hV hz9 => ?_)
            have hV : vS G.1 cls lo s H locs (vU V [(rd, eO 3 [.ref tp, .int (nI n), .int (nI (r + 1))]), (tp, eI (gB G) 400 f)]) := hV
            replace hz := hz9.trans hz
            refine lv_goto (tgt := 9) hx hb d_Rd_readNumber_62 (by decide) ?_
            exact ih (10 * v + (t r - 48)) (d + 1) (r + 1) (by omega) (by omega) (by omega) (by omega) (by omega) trivial (by rw [← hX]; exact (dgs_go d_12 (by omega) (by omega)).symm) H locs ls hz hV (lv_sub hl [2, 3, 4, 1, 0] rfl)
          · replace c_14 : ¬ d = 0 := fun z9 => c_14 ((nI_eq (a := d) (b := 0) (by omega) (by omega)).mpr z9)
            refine lv_iload_n hx hb d_Rd_readNumber_27 rfl (lv_at hl 3 rfl) ?_
            refine lv_if_eq (tgt := 65) hx hb d_Rd_readNumber_28 (by decide) (fun c_15 => ?_) (fun c_15 => ?_)
            · replace c_15 : v = 0 := (nI_eq (a := v) (b := 0) (by omega) (by omega)).mp c_15
              exact fin v d r (by omega) (by omega) hrn (by omega) (by rw [hq_1, ← hX]; exact dgs_stop (Or.inl (by rintro ⟨-, z | z⟩ <;> omega))) H locs ls hz hV (lv_sub hl [0, 1, 2, 3, 4] rfl)
            · replace c_15 : ¬ v = 0 := fun z9 => c_15 ((nI_eq (a := v) (b := 0) (by omega) (by omega)).mpr z9)
              refine lv_bipush (v := 10) hx hb d_Rd_readNumber_31 (by decide) ?_
              refine lv_iload_n hx hb d_Rd_readNumber_33 rfl (lv_at hl 3 rfl) ?_
              refine e_imul (v := nI (10 * v)) hx hb d_Rd_readNumber_34 (pk_mul 10 v) ?_
              refine lv_aload_n hx hb d_Rd_readNumber_35 rfl (lv_at hl 0 rfl) ?_
              refine u_get hx hb hts inRd hown hK hV hn 0 rfl rfl 0 (by decide) w_fl_Rd_9 rfl rfl d_Rd_readNumber_36 ?_
              refine lv_aload_n hx hb d_Rd_readNumber_39 rfl (lv_at hl 0 rfl) ?_
              refine u_get hx hb hts inRd hown hK hV hn 0 rfl rfl 2 (by decide) w_fl_Rd_19 rfl rfl d_Rd_readNumber_40 ?_
              have i0 : r < n := (isD_spec d_12).1
              refine u_baldN hx hb hK hV hn 1 rfl (by omega) (by decide) d_Rd_readNumber_43 ?_
              refine lv_bipush (v := 48) hx hb d_Rd_readNumber_44 (by decide) ?_
              obtain ⟨i1, i2, i3⟩ := isD_spec d_12
              refine e_isub (v := nI (t r - 48)) hx hb d_Rd_readNumber_46 (by rw [hT.val i1 (by omega)]; exact pk_sub i2) ?_
              refine e_iadd (v := nI (10 * v + (t r - 48))) hx hb d_Rd_readNumber_47 (nI_add (10 * v) (t r - 48)) ?_
              refine lv_istore_n (lv' := [(3, .int (nI (10 * v + (t r - 48)))), (0, .ref rd), (1, .int (nI x)), (2, .int (nI y)), (4, .int (nI d))]) hx hb d_Rd_readNumber_48 rfl hl (by decide) rfl (fun ls hl => ?_)
              refine lv_iinc (v := nI (d + 1)) (lv' := [(4, .int (nI (d + 1))), (3, .int (nI (10 * v + (t r - 48)))), (0, .ref rd), (1, .int (nI x)), (2, .int (nI y))]) hx hb d_Rd_readNumber_49 hl (k := 4) rfl (nI_add d 1) (by decide) rfl (fun ls hl => ?_)
              refine lv_aload_n hx hb d_Rd_readNumber_52 rfl (lv_at hl 2 rfl) ?_
              refine lv_dup hx hb d_Rd_readNumber_53 rfl ?_
              refine u_get hx hb hts inRd hown hK hV hn 0 rfl rfl 2 (by decide) w_fl_Rd_19 rfl rfl d_Rd_readNumber_54 ?_
              refine lv_iconst (v := 1) hx hb d_Rd_readNumber_57 (by decide) ?_
              refine e_iadd (v := nI (r + 1)) hx hb d_Rd_readNumber_58 (nI_add r 1) ?_
              refine u_put hx hb hts inRd tyRd tyRd_ok nmRd hown hK hV hn 0 rfl rfl 2 (by decide) w_fl_Rd_19 rfl rfl rfl rfl (Nat.le_of_ble_eq_true rfl) d_Rd_readNumber_59 (fun H locs hV hz9 => ?_)
              have hV : vS G.1 cls lo s H locs (vU V [(rd, eO 3 [.ref tp, .int (nI n), .int (nI (r + 1))]), (tp, eI (gB G) 400 f)]) := hV
              replace hz := hz9.trans hz
              refine lv_goto (tgt := 9) hx hb d_Rd_readNumber_62 (by decide) ?_
              exact ih (10 * v + (t r - 48)) (d + 1) (r + 1) (by omega) (by omega) (by omega) (by omega) (by omega) trivial (by rw [← hX]; exact (dgs_go d_12 (by omega) (by omega)).symm) H locs ls hz hV (lv_sub hl [2, 3, 4, 1, 0] rfl)
        · have hV : vS G.1 cls lo s H locs (vU V [(rd, eO 3 [.ref tp, .int (nI n), .int (nI r)]), (tp, eI (gB G) 400 f)]) := hV
          refine W.eq (g2 := F0 mi 19 ls [.int 0]) (by rw [d_12]; rfl) ?_
          refine lv_if_eq (tgt := 65) hx hb d_Rd_readNumber_19 (by decide) (fun _ => ?_) (fun c_16 => absurd c_16 (by decide))
          exact fin v d r (by omega) (by omega) hrn (by omega) (by rw [hq_1, ← hX]; exact dgs_stop (Or.inl (by rintro ⟨z, -⟩; rw [d_12] at z; cases z))) H locs ls hz hV (lv_sub hl [0, 1, 2, 3, 4] rfl)
  refine lv_iconst (v := 0) hx hb d_Rd_readNumber_4 (by decide) ?_
  refine lv_istore_n (lv' := [(3, .int 0), (0, .ref rd), (1, .int (nI x)), (2, .int (nI y))]) hx hb d_Rd_readNumber_5 rfl hl (by decide) rfl (fun ls hl => ?_)
  refine lv_iconst (v := 0) hx hb d_Rd_readNumber_6 (by decide) ?_
  refine lv_istore (lv' := [(4, .int 0), (3, .int 0), (0, .ref rd), (1, .int (nI x)), (2, .int (nI y))]) hx hb d_Rd_readNumber_7 hl (by decide) rfl (fun ls hl => ?_)
  exact loop 5 0 0 q_1 (by omega) (by omega) (by omega) bq_1 (by omega) trivial rfl H locs ls hz hV (lv_sub hl [2, 3, 4, 1, 0] rfl)
