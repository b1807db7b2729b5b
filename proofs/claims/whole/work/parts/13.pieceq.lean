theorem lN_i32 (n : Nat) : (lN n).toInt32 = nI n := lN_i n
/-- the letter at i, -1 behind them -/
def letC (ls : List Nat) (x : Int32) : Int32 := if 0 ≤ x ∧ x < nI ls.length then nI (ls.getD x.toNatClampNeg 0) else -1
def whl (k : Nat) : Bool := decide (k < 3)
/-- may be gone from a to b -/
def goesR (R : PcR) (a b : Nat) : Bool := (decide (R.1.1 = a) && decide (R.1.2.2 = b)) || (!R.1.2.1 && decide (R.1.2.2 = a) && decide (R.1.1 = b))
/-- the bits of both ends, of those from which and to which it goes -/
def endsN (R : PcR) : Nat := 2 ^ R.1.1 ||| 2 ^ R.1.2.2
def fromN (R : PcR) : Nat := if R.1.2.1 then 2 ^ R.1.1 else endsN R
def toN (R : PcR) : Nat := if R.1.2.1 then 2 ^ R.1.2.2 else endsN R
theorem pow_lt64 {a : Nat} (h : a ≤ 40) : 2 ^ a < 2 ^ 41 := Nat.pow_lt_pow_right (by decide) (by omega)
theorem ends_lt {R : PcR} (h : pcV R) : endsN R < 2 ^ 41 := Nat.or_lt_two_pow (pow_lt64 h.1.2.1) (pow_lt64 h.1.2.2.2)
theorem one_shl {k : Nat} (h : k ≤ 40) : (1 : Int64) <<< ((nI k).toInt64 &&& 63) = lN (2 ^ k) := by
  have := wb_shl 1 (k := k) (by omega)
  rw [Nat.one_mul] at this
  exact this
theorem lN_or {a b : Nat} (ha : a < 2 ^ 41) (hb : b < 2 ^ 41) : lN a ||| lN b = lN (a ||| b) := wb_or (by omega) (by omega)
theorem nI_eqm {a b : Nat} (ha : a < 2 ^ 31) (hb : b < 2 ^ 31) (h : nI a = nI b) : a = b := (nI_eq ha hb).mp h
theorem b2i_0 {b : Bool} (h : b2i b = 0) : b = false := by cases b <;> first | rfl | exact absurd h (by decide)
theorem b2i_1 {b : Bool} (h : ¬ b2i b = 0) : b = true := by cases b <;> first | rfl | exact absurd rfl h

set_option maxHeartbeats 4000000 in
set_option maxRecDepth 100000 in
theorem c_Pc_isForWheels (l : Launch) (G : Gx) (lo : Nat) (V : Vw) (sz : Nat) (pa x1 x2 x3 : Nat) (R : PcR) (hR : pcV R) : Met l y_Pc_isForWheels ws_Pc_isForWheels ({ frames := 0, cells := 0, slots := 0, locals := 0 } : Room) (vPre G lo [.ref pa] (vU V [(pa, eO 1 [.int (nI R.1.1), .int (nI R.1.2.2), .int (b2i R.1.2.1), .int (nI R.2.1.1), .int (nI R.2.1.2.1), .int (nI R.2.1.2.2), .int (nI R.2.2.1.length), .ref x1, .ref x2, .ref x3, .int (nI R.2.2.2.1.1), .int (nI R.2.2.2.1.2), .long (lN (encN (nmL R.2.2.2.2))), .int (nI ((nmL R.2.2.2.2).length)), .int (nmA R.2.2.2.2)])]) sz) (vPost G lo (fun r V' k => r = some (.int (b2i (whl R.2.1.2.1))) ∧ V' = vU V [(pa, eO 1 [.int (nI R.1.1), .int (nI R.1.2.2), .int (b2i R.1.2.1), .int (nI R.2.1.1), .int (nI R.2.1.2.1), .int (nI R.2.1.2.2), .int (nI R.2.2.1.length), .ref x1, .ref x2, .ref x3, .int (nI R.2.2.2.1.1), .int (nI R.2.2.2.1.2), .long (lN (encN (nmL R.2.2.2.2))), .int (nI ((nmL R.2.2.2.2).length)), .int (nmA R.2.2.2.2)])] ∧ k = sz)) 0 0 (vL lo) := by
  refine vMet (R := RPc) (by decide) rfl (Nat.le_of_ble_eq_true rfl) ?_
  intro pg ev s mi args below meth cd hx hb hr hml hlk hnm hts hown hK hz hV ls hl
  have hl : lv_has ls 1 [(0, .ref pa)] := hl
  have hV0 := hV
  obtain ⟨H, hH⟩ : ∃ H, H = s.heap := ⟨_, rfl⟩
  obtain ⟨locs, hlocs⟩ : ∃ locs : List Loc, locs = [] := ⟨_, rfl⟩
  rw [← hH, ← hlocs]
  rw [← hH] at hz
  replace hV : vS G.1 cls lo s H locs (vU V [(pa, eO 1 [.int (nI R.1.1), .int (nI R.1.2.2), .int (b2i R.1.2.1), .int (nI R.2.1.1), .int (nI R.2.1.2.1), .int (nI R.2.1.2.2), .int (nI R.2.2.1.length), .ref x1, .ref x2, .ref x3, .int (nI R.2.2.2.1.1), .int (nI R.2.2.2.1.2), .long (lN (encN (nmL R.2.2.2.2))), .int (nI ((nmL R.2.2.2.2).length)), .int (nmA R.2.2.2.2)])]) := by rw [hH, hlocs]; exact hV
  clear hH hlocs hV0
  have hn : [pa].Nodup := by simp
  obtain ⟨⟨r1, r2, r3, r4⟩, ⟨r5, r6, r7, r8, r9⟩, ⟨r10, r11⟩, ⟨r12, r13⟩, r14⟩ := id hR
  refine lv_aload_n hx hb d_Pc_isForWheels_0 rfl (lv_at hl 0 rfl) ?_
  refine u_get hx hb hts inPc hown hK hV hn 0 rfl rfl 4 (by decide) w_fl_Pc_38 rfl rfl d_Pc_isForWheels_1 ?_
  refine lv_iconst (v := 3) hx hb d_Pc_isForWheels_4 (by decide) ?_
  refine lv_icmp_ge (tgt := 12) hx hb d_Pc_isForWheels_5 (by decide) (fun c_1 => ?_) (fun c_1 => ?_)
  · replace c_1 : 3 ≤ R.2.1.2.1 := (nI_leI (a := 3) (b := R.2.1.2.1) (by omega) (by omega)).mp c_1
    have hE : whl R.2.1.2.1 = false := by simp [whl]; omega
    refine lv_iconst (v := 0) hx hb d_Pc_isForWheels_12 (by decide) ?_
    exact W.zret (v := 0) hx hb hr (by decide) (v_end hV ⟨by rw [hE]; rfl, rfl, hz⟩) hV.2.1.2.2 d_Pc_isForWheels_13
  · replace c_1 : ¬ 3 ≤ R.2.1.2.1 := fun z9 => c_1 ((nI_leI (a := 3) (b := R.2.1.2.1) (by omega) (by omega)).mpr z9)
    have hE : whl R.2.1.2.1 = true := by simp [whl]; omega
    refine lv_iconst (v := 1) hx hb d_Pc_isForWheels_8 (by decide) ?_
    refine lv_goto (tgt := 13) hx hb d_Pc_isForWheels_9 (by decide) ?_
    exact W.zret (v := 1) hx hb hr (by decide) (v_end hV ⟨by rw [hE]; rfl, rfl, hz⟩) hV.2.1.2.2 d_Pc_isForWheels_13

set_option maxHeartbeats 4000000 in
set_option maxRecDepth 100000 in
theorem c_Pc_leads (l : Launch) (G : Gx) (lo : Nat) (V : Vw) (sz : Nat) (pa x1 x2 x3 : Nat) (R : PcR) (hR : pcV R) (a b : Nat) (ha : a < 41) (hb1 : b < 41) : Met l y_Pc_leads ws_Pc_leads ({ frames := 0, cells := 0, slots := 0, locals := 0 } : Room) (vPre G lo [.ref pa, .int (nI a), .int (nI b)] (vU V [(pa, eO 1 [.int (nI R.1.1), .int (nI R.1.2.2), .int (b2i R.1.2.1), .int (nI R.2.1.1), .int (nI R.2.1.2.1), .int (nI R.2.1.2.2), .int (nI R.2.2.1.length), .ref x1, .ref x2, .ref x3, .int (nI R.2.2.2.1.1), .int (nI R.2.2.2.1.2), .long (lN (encN (nmL R.2.2.2.2))), .int (nI ((nmL R.2.2.2.2).length)), .int (nmA R.2.2.2.2)])]) sz) (vPost G lo (fun r V' k => r = some (.int (b2i (goesR R a b))) ∧ V' = vU V [(pa, eO 1 [.int (nI R.1.1), .int (nI R.1.2.2), .int (b2i R.1.2.1), .int (nI R.2.1.1), .int (nI R.2.1.2.1), .int (nI R.2.1.2.2), .int (nI R.2.2.1.length), .ref x1, .ref x2, .ref x3, .int (nI R.2.2.2.1.1), .int (nI R.2.2.2.1.2), .long (lN (encN (nmL R.2.2.2.2))), .int (nI ((nmL R.2.2.2.2).length)), .int (nmA R.2.2.2.2)])] ∧ k = sz)) 0 0 (vL lo) := by
  refine vMet (R := RPc) (by decide) rfl (Nat.le_of_ble_eq_true rfl) ?_
  intro pg ev s mi args below meth cd hx hb hr hml hlk hnm hts hown hK hz hV ls hl
  have hl : lv_has ls 3 [(0, .ref pa), (1, .int (nI a)), (2, .int (nI b))] := hl
  have hV0 := hV
  obtain ⟨H, hH⟩ : ∃ H, H = s.heap := ⟨_, rfl⟩
  obtain ⟨locs, hlocs⟩ : ∃ locs : List Loc, locs = [] := ⟨_, rfl⟩
  rw [← hH, ← hlocs]
  rw [← hH] at hz
  replace hV : vS G.1 cls lo s H locs (vU V [(pa, eO 1 [.int (nI R.1.1), .int (nI R.1.2.2), .int (b2i R.1.2.1), .int (nI R.2.1.1), .int (nI R.2.1.2.1), .int (nI R.2.1.2.2), .int (nI R.2.2.1.length), .ref x1, .ref x2, .ref x3, .int (nI R.2.2.2.1.1), .int (nI R.2.2.2.1.2), .long (lN (encN (nmL R.2.2.2.2))), .int (nI ((nmL R.2.2.2.2).length)), .int (nmA R.2.2.2.2)])]) := by rw [hH, hlocs]; exact hV
  clear hH hlocs hV0
  have hn : [pa].Nodup := by simp
  obtain ⟨⟨r1, r2, r3, r4⟩, ⟨r5, r6, r7, r8, r9⟩, ⟨r10, r11⟩, ⟨r12, r13⟩, r14⟩ := id hR
  refine lv_aload_n hx hb d_Pc_leads_0 rfl (lv_at hl 0 rfl) ?_
  refine u_get hx hb hts inPc hown hK hV hn 0 rfl rfl 0 (by decide) w_fl_Pc_41 rfl rfl d_Pc_leads_1 ?_
  refine lv_iload_n hx hb d_Pc_leads_4 rfl (lv_at hl 1 rfl) ?_
  refine lv_icmp_ne (tgt := 16) hx hb d_Pc_leads_5 (by decide) (fun c_1 => ?_) (fun c_1 => ?_)
  · replace c_1 : ¬ R.1.1 = a := fun z9 => c_1 ((nI_eq (a := R.1.1) (b := a) (by omega) (by omega)).mpr z9)
    refine lv_aload_n hx hb d_Pc_leads_16 rfl (lv_at hl 0 rfl) ?_
    refine u_get hx hb hts inPc hown hK hV hn 0 rfl rfl 2 (by decide) w_fl_Pc_47 rfl rfl d_Pc_leads_17 ?_
    refine lv_if_ne (tgt := 43) hx hb d_Pc_leads_20 (by decide) (fun c_2 => ?_) (fun c_2 => ?_)
    · have hw := b2i_1 c_2
      refine lv_iconst (v := 0) hx hb d_Pc_leads_43 (by decide) ?_
      exact W.zret (v := 0) hx hb hr (by decide) (v_end hV ⟨by rw [show goesR R a b = false by simp [goesR, *] <;> omega]; rfl, rfl, hz⟩) hV.2.1.2.2 d_Pc_leads_44
    · have hw := b2i_0 c_2
      refine lv_aload_n hx hb d_Pc_leads_23 rfl (lv_at hl 0 rfl) ?_
      refine u_get hx hb hts inPc hown hK hV hn 0 rfl rfl 1 (by decide) w_fl_Pc_44 rfl rfl d_Pc_leads_24 ?_
      refine lv_iload_n hx hb d_Pc_leads_27 rfl (lv_at hl 1 rfl) ?_
      refine lv_icmp_ne (tgt := 43) hx hb d_Pc_leads_28 (by decide) (fun c_3 => ?_) (fun c_3 => ?_)
      · replace c_3 : ¬ R.1.2.2 = a := fun z9 => c_3 ((nI_eq (a := R.1.2.2) (b := a) (by omega) (by omega)).mpr z9)
        refine lv_iconst (v := 0) hx hb d_Pc_leads_43 (by decide) ?_
        exact W.zret (v := 0) hx hb hr (by decide) (v_end hV ⟨by rw [show goesR R a b = false by simp [goesR, *] <;> omega]; rfl, rfl, hz⟩) hV.2.1.2.2 d_Pc_leads_44
      · replace c_3 : R.1.2.2 = a := (nI_eq (a := R.1.2.2) (b := a) (by omega) (by omega)).mp c_3
        refine lv_aload_n hx hb d_Pc_leads_31 rfl (lv_at hl 0 rfl) ?_
        refine u_get hx hb hts inPc hown hK hV hn 0 rfl rfl 0 (by decide) w_fl_Pc_41 rfl rfl d_Pc_leads_32 ?_
        refine lv_iload_n hx hb d_Pc_leads_35 rfl (lv_at hl 2 rfl) ?_
        refine lv_icmp_ne (tgt := 43) hx hb d_Pc_leads_36 (by decide) (fun c_4 => ?_) (fun c_4 => ?_)
        · replace c_4 : ¬ R.1.1 = b := fun z9 => c_4 ((nI_eq (a := R.1.1) (b := b) (by omega) (by omega)).mpr z9)
          refine lv_iconst (v := 0) hx hb d_Pc_leads_43 (by decide) ?_
          exact W.zret (v := 0) hx hb hr (by decide) (v_end hV ⟨by rw [show goesR R a b = false by simp [goesR, *] <;> omega]; rfl, rfl, hz⟩) hV.2.1.2.2 d_Pc_leads_44
        · replace c_4 : R.1.1 = b := (nI_eq (a := R.1.1) (b := b) (by omega) (by omega)).mp c_4
          refine lv_iconst (v := 1) hx hb d_Pc_leads_39 (by decide) ?_
          refine lv_goto (tgt := 44) hx hb d_Pc_leads_40 (by decide) ?_
          exact W.zret (v := 1) hx hb hr (by decide) (v_end hV ⟨by rw [show goesR R a b = true by simp [goesR, *] <;> omega]; rfl, rfl, hz⟩) hV.2.1.2.2 d_Pc_leads_44
  · replace c_1 : R.1.1 = a := (nI_eq (a := R.1.1) (b := a) (by omega) (by omega)).mp c_1
    refine lv_aload_n hx hb d_Pc_leads_8 rfl (lv_at hl 0 rfl) ?_
    refine u_get hx hb hts inPc hown hK hV hn 0 rfl rfl 1 (by decide) w_fl_Pc_44 rfl rfl d_Pc_leads_9 ?_
    refine lv_iload_n hx hb d_Pc_leads_12 rfl (lv_at hl 2 rfl) ?_
    refine lv_icmp_eq (tgt := 39) hx hb d_Pc_leads_13 (by decide) (fun c_5 => ?_) (fun c_5 => ?_)
    · replace c_5 : R.1.2.2 = b := (nI_eq (a := R.1.2.2) (b := b) (by omega) (by omega)).mp c_5
      refine lv_iconst (v := 1) hx hb d_Pc_leads_39 (by decide) ?_
      refine lv_goto (tgt := 44) hx hb d_Pc_leads_40 (by decide) ?_
      exact W.zret (v := 1) hx hb hr (by decide) (v_end hV ⟨by rw [show goesR R a b = true by simp [goesR, *] <;> omega]; rfl, rfl, hz⟩) hV.2.1.2.2 d_Pc_leads_44
    · replace c_5 : ¬ R.1.2.2 = b := fun z9 => c_5 ((nI_eq (a := R.1.2.2) (b := b) (by omega) (by omega)).mpr z9)
      refine lv_aload_n hx hb d_Pc_leads_16 rfl (lv_at hl 0 rfl) ?_
      refine u_get hx hb hts inPc hown hK hV hn 0 rfl rfl 2 (by decide) w_fl_Pc_47 rfl rfl d_Pc_leads_17 ?_
      refine lv_if_ne (tgt := 43) hx hb d_Pc_leads_20 (by decide) (fun c_6 => ?_) (fun c_6 => ?_)
      · have hw := b2i_1 c_6
        refine lv_iconst (v := 0) hx hb d_Pc_leads_43 (by decide) ?_
        exact W.zret (v := 0) hx hb hr (by decide) (v_end hV ⟨by rw [show goesR R a b = false by simp [goesR, *] <;> omega]; rfl, rfl, hz⟩) hV.2.1.2.2 d_Pc_leads_44
      · have hw := b2i_0 c_6
        refine lv_aload_n hx hb d_Pc_leads_23 rfl (lv_at hl 0 rfl) ?_
        refine u_get hx hb hts inPc hown hK hV hn 0 rfl rfl 1 (by decide) w_fl_Pc_44 rfl rfl d_Pc_leads_24 ?_
        refine lv_iload_n hx hb d_Pc_leads_27 rfl (lv_at hl 1 rfl) ?_
        refine lv_icmp_ne (tgt := 43) hx hb d_Pc_leads_28 (by decide) (fun c_7 => ?_) (fun c_7 => ?_)
        · replace c_7 : ¬ R.1.2.2 = a := fun z9 => c_7 ((nI_eq (a := R.1.2.2) (b := a) (by omega) (by omega)).mpr z9)
          refine lv_iconst (v := 0) hx hb d_Pc_leads_43 (by decide) ?_
          exact W.zret (v := 0) hx hb hr (by decide) (v_end hV ⟨by rw [show goesR R a b = false by simp [goesR, *] <;> omega]; rfl, rfl, hz⟩) hV.2.1.2.2 d_Pc_leads_44
        · replace c_7 : R.1.2.2 = a := (nI_eq (a := R.1.2.2) (b := a) (by omega) (by omega)).mp c_7
          refine lv_aload_n hx hb d_Pc_leads_31 rfl (lv_at hl 0 rfl) ?_
          refine u_get hx hb hts inPc hown hK hV hn 0 rfl rfl 0 (by decide) w_fl_Pc_41 rfl rfl d_Pc_leads_32 ?_
          refine lv_iload_n hx hb d_Pc_leads_35 rfl (lv_at hl 2 rfl) ?_
          refine lv_icmp_ne (tgt := 43) hx hb d_Pc_leads_36 (by decide) (fun c_8 => ?_) (fun c_8 => ?_)
          · replace c_8 : ¬ R.1.1 = b := fun z9 => c_8 ((nI_eq (a := R.1.1) (b := b) (by omega) (by omega)).mpr z9)
            refine lv_iconst (v := 0) hx hb d_Pc_leads_43 (by decide) ?_
            exact W.zret (v := 0) hx hb hr (by decide) (v_end hV ⟨by rw [show goesR R a b = false by simp [goesR, *] <;> omega]; rfl, rfl, hz⟩) hV.2.1.2.2 d_Pc_leads_44
          · replace c_8 : R.1.1 = b := (nI_eq (a := R.1.1) (b := b) (by omega) (by omega)).mp c_8
            refine lv_iconst (v := 1) hx hb d_Pc_leads_39 (by decide) ?_
            refine lv_goto (tgt := 44) hx hb d_Pc_leads_40 (by decide) ?_
            exact W.zret (v := 1) hx hb hr (by decide) (v_end hV ⟨by rw [show goesR R a b = true by simp [goesR, *] <;> omega]; rfl, rfl, hz⟩) hV.2.1.2.2 d_Pc_leads_44

set_option maxHeartbeats 4000000 in
set_option maxRecDepth 100000 in
theorem c_Pc_ends (l : Launch) (G : Gx) (lo : Nat) (V : Vw) (sz : Nat) (pa x1 x2 x3 : Nat) (R : PcR) (hR : pcV R) : Met l y_Pc_ends ws_Pc_ends ({ frames := 0, cells := 0, slots := 0, locals := 0 } : Room) (vPre G lo [.ref pa] (vU V [(pa, eO 1 [.int (nI R.1.1), .int (nI R.1.2.2), .int (b2i R.1.2.1), .int (nI R.2.1.1), .int (nI R.2.1.2.1), .int (nI R.2.1.2.2), .int (nI R.2.2.1.length), .ref x1, .ref x2, .ref x3, .int (nI R.2.2.2.1.1), .int (nI R.2.2.2.1.2), .long (lN (encN (nmL R.2.2.2.2))), .int (nI ((nmL R.2.2.2.2).length)), .int (nmA R.2.2.2.2)])]) sz) (vPost G lo (fun r V' k => r = some (.long (lN (endsN R))) ∧ V' = vU V [(pa, eO 1 [.int (nI R.1.1), .int (nI R.1.2.2), .int (b2i R.1.2.1), .int (nI R.2.1.1), .int (nI R.2.1.2.1), .int (nI R.2.1.2.2), .int (nI R.2.2.1.length), .ref x1, .ref x2, .ref x3, .int (nI R.2.2.2.1.1), .int (nI R.2.2.2.1.2), .long (lN (encN (nmL R.2.2.2.2))), .int (nI ((nmL R.2.2.2.2).length)), .int (nmA R.2.2.2.2)])] ∧ k = sz)) 0 0 (vL lo) := by
  refine vMet (R := RPc) (by decide) rfl (Nat.le_of_ble_eq_true rfl) ?_
  intro pg ev s mi args below meth cd hx hb hr hml hlk hnm hts hown hK hz hV ls hl
  have hl : lv_has ls 1 [(0, .ref pa)] := hl
  have hV0 := hV
  obtain ⟨H, hH⟩ : ∃ H, H = s.heap := ⟨_, rfl⟩
  obtain ⟨locs, hlocs⟩ : ∃ locs : List Loc, locs = [] := ⟨_, rfl⟩
  rw [← hH, ← hlocs]
  rw [← hH] at hz
  replace hV : vS G.1 cls lo s H locs (vU V [(pa, eO 1 [.int (nI R.1.1), .int (nI R.1.2.2), .int (b2i R.1.2.1), .int (nI R.2.1.1), .int (nI R.2.1.2.1), .int (nI R.2.1.2.2), .int (nI R.2.2.1.length), .ref x1, .ref x2, .ref x3, .int (nI R.2.2.2.1.1), .int (nI R.2.2.2.1.2), .long (lN (encN (nmL R.2.2.2.2))), .int (nI ((nmL R.2.2.2.2).length)), .int (nmA R.2.2.2.2)])]) := by rw [hH, hlocs]; exact hV
  clear hH hlocs hV0
  have hn : [pa].Nodup := by simp
  obtain ⟨⟨r1, r2, r3, r4⟩, ⟨r5, r6, r7, r8, r9⟩, ⟨r10, r11⟩, ⟨r12, r13⟩, r14⟩ := id hR
  refine lv_lconst (v := 1) hx hb d_Pc_ends_0 (by decide) ?_
  refine lv_aload_n hx hb d_Pc_ends_1 rfl (lv_at hl 0 rfl) ?_
  refine u_get hx hb hts inPc hown hK hV hn 0 rfl rfl 0 (by decide) w_fl_Pc_41 rfl rfl d_Pc_ends_2 ?_
  refine lv_lshl (v := lN (2 ^ R.1.1)) hx hb d_Pc_ends_5 (one_shl r2) ?_
  refine lv_lconst (v := 1) hx hb d_Pc_ends_6 (by decide) ?_
  refine lv_aload_n hx hb d_Pc_ends_7 rfl (lv_at hl 0 rfl) ?_
  refine u_get hx hb hts inPc hown hK hV hn 0 rfl rfl 1 (by decide) w_fl_Pc_44 rfl rfl d_Pc_ends_8 ?_
  refine lv_lshl (v := lN (2 ^ R.1.2.2)) hx hb d_Pc_ends_11 (one_shl r4) ?_
  refine e_lor (v := lN (endsN R)) hx hb d_Pc_ends_12 (lN_or (pow_lt64 r2) (pow_lt64 r4)) ?_
  exact W.lret (v := lN (endsN R)) hx hb hr (v_end hV ⟨rfl, rfl, hz⟩) hV.2.1.2.2 d_Pc_ends_13

set_option maxHeartbeats 4000000 in
set_option maxRecDepth 100000 in
theorem c_Pc_nodesFromWhichItGoes (l : Launch) (G : Gx) (lo : Nat) (V : Vw) (sz : Nat) (pa x1 x2 x3 : Nat) (R : PcR) (hR : pcV R) : Met l y_Pc_nodesFromWhichItGoes ws_Pc_nodesFromWhichItGoes ({ frames := 1, cells := 0, slots := 0, locals := 20 } : Room) (vPre G lo [.ref pa] (vU V [(pa, eO 1 [.int (nI R.1.1), .int (nI R.1.2.2), .int (b2i R.1.2.1), .int (nI R.2.1.1), .int (nI R.2.1.2.1), .int (nI R.2.1.2.2), .int (nI R.2.2.1.length), .ref x1, .ref x2, .ref x3, .int (nI R.2.2.2.1.1), .int (nI R.2.2.2.1.2), .long (lN (encN (nmL R.2.2.2.2))), .int (nI ((nmL R.2.2.2.2).length)), .int (nmA R.2.2.2.2)])]) sz) (vPost G lo (fun r V' k => r = some (.long (lN (fromN R))) ∧ V' = vU V [(pa, eO 1 [.int (nI R.1.1), .int (nI R.1.2.2), .int (b2i R.1.2.1), .int (nI R.2.1.1), .int (nI R.2.1.2.1), .int (nI R.2.1.2.2), .int (nI R.2.2.1.length), .ref x1, .ref x2, .ref x3, .int (nI R.2.2.2.1.1), .int (nI R.2.2.2.1.2), .long (lN (encN (nmL R.2.2.2.2))), .int (nI ((nmL R.2.2.2.2).length)), .int (nmA R.2.2.2.2)])] ∧ k = sz)) 0 0 (vL lo) := by
  refine vMet (R := RPc) (by decide) rfl (Nat.le_of_ble_eq_true rfl) ?_
  intro pg ev s mi args below meth cd hx hb hr hml hlk hnm hts hown hK hz hV ls hl
  have hl : lv_has ls 1 [(0, .ref pa)] := hl
  have hV0 := hV
  obtain ⟨H, hH⟩ : ∃ H, H = s.heap := ⟨_, rfl⟩
  obtain ⟨locs, hlocs⟩ : ∃ locs : List Loc, locs = [] := ⟨_, rfl⟩
  rw [← hH, ← hlocs]
  rw [← hH] at hz
  replace hV : vS G.1 cls lo s H locs (vU V [(pa, eO 1 [.int (nI R.1.1), .int (nI R.1.2.2), .int (b2i R.1.2.1), .int (nI R.2.1.1), .int (nI R.2.1.2.1), .int (nI R.2.1.2.2), .int (nI R.2.2.1.length), .ref x1, .ref x2, .ref x3, .int (nI R.2.2.2.1.1), .int (nI R.2.2.2.1.2), .long (lN (encN (nmL R.2.2.2.2))), .int (nI ((nmL R.2.2.2.2).length)), .int (nmA R.2.2.2.2)])]) := by rw [hH, hlocs]; exact hV
  clear hH hlocs hV0
  have hn : [pa].Nodup := by simp
  obtain ⟨⟨r1, r2, r3, r4⟩, ⟨r5, r6, r7, r8, r9⟩, ⟨r10, r11⟩, ⟨r12, r13⟩, r14⟩ := id hR
  refine lv_aload_n hx hb d_Pc_nodesFromWhichItGoes_0 rfl (lv_at hl 0 rfl) ?_
  refine u_get hx hb hts inPc hown hK hV hn 0 rfl rfl 2 (by decide) w_fl_Pc_47 rfl rfl d_Pc_nodesFromWhichItGoes_1 ?_
  refine lv_if_eq (tgt := 16) hx hb d_Pc_nodesFromWhichItGoes_4 (by decide) (fun c_1 => ?_) (fun c_1 => ?_)
  · have hw := b2i_0 c_1
    refine lv_aload_n hx hb d_Pc_nodesFromWhichItGoes_16 rfl (lv_at hl 0 rfl) ?_
    refine v_call (va_runV (As := []) (rest := []) ⟨hx, hb, hml, hown, hts⟩ (c_Pc_ends l G lo _ _ pa x1 x2 x3 R hR) (kwV 0 hts w_co_Pc_ends rfl rfl w_it_Pc w_ml_Pc_51 w_im_Pc_ends w_se_Pc__Pc_ends (by decide +kernel) ⟨by decide, by decide⟩) (u_preV hK hV hn [0] rfl hz 0 rfl rfl) rfl rfl hl.1 rfl (lv_room (Nat.le_of_ble_eq_true rfl)) d_Pc_nodesFromWhichItGoes_17 ⟨(Nat.le_of_ble_eq_true rfl), (Nat.le_of_ble_eq_true rfl)⟩) hV (fun r9 V9 H locs hp hV hle => ?_)
    obtain ⟨rfl, rfl, hz⟩ := hp
    replace hV := uu_same hV hn [0] rfl
    have hV : vS G.1 cls lo s H locs (vU V [(pa, eO 1 [.int (nI R.1.1), .int (nI R.1.2.2), .int (b2i R.1.2.1), .int (nI R.2.1.1), .int (nI R.2.1.2.1), .int (nI R.2.1.2.2), .int (nI R.2.2.1.length), .ref x1, .ref x2, .ref x3, .int (nI R.2.2.2.1.1), .int (nI R.2.2.2.1.2), .long (lN (encN (nmL R.2.2.2.2))), .int (nI ((nmL R.2.2.2.2).length)), .int (nmA R.2.2.2.2)])]) := hV
    refine W.eq (g2 := F0 mi 20 ls [.long (lN (endsN R))]) rfl ?_
    exact W.lret (v := lN (endsN R)) hx hb hr (v_end hV ⟨by simp [fromN, hw], rfl, hz⟩) hV.2.1.2.2 d_Pc_nodesFromWhichItGoes_20
  · have hw := b2i_1 c_1
    refine lv_lconst (v := 1) hx hb d_Pc_nodesFromWhichItGoes_7 (by decide) ?_
    refine lv_aload_n hx hb d_Pc_nodesFromWhichItGoes_8 rfl (lv_at hl 0 rfl) ?_
    refine u_get hx hb hts inPc hown hK hV hn 0 rfl rfl 0 (by decide) w_fl_Pc_41 rfl rfl d_Pc_nodesFromWhichItGoes_9 ?_
    refine lv_lshl (v := lN (2 ^ R.1.1)) hx hb d_Pc_nodesFromWhichItGoes_12 (one_shl (by omega)) ?_
    refine lv_goto (tgt := 20) hx hb d_Pc_nodesFromWhichItGoes_13 (by decide) ?_
    exact W.lret (v := lN (2 ^ R.1.1)) hx hb hr (v_end hV ⟨by simp [fromN, hw], rfl, hz⟩) hV.2.1.2.2 d_Pc_nodesFromWhichItGoes_20

set_option maxHeartbeats 4000000 in
set_option maxRecDepth 100000 in
theorem c_Pc_nodesToWhichItGoes (l : Launch) (G : Gx) (lo : Nat) (V : Vw) (sz : Nat) (pa x1 x2 x3 : Nat) (R : PcR) (hR : pcV R) : Met l y_Pc_nodesToWhichItGoes ws_Pc_nodesToWhichItGoes ({ frames := 1, cells := 0, slots := 0, locals := 20 } : Room) (vPre G lo [.ref pa] (vU V [(pa, eO 1 [.int (nI R.1.1), .int (nI R.1.2.2), .int (b2i R.1.2.1), .int (nI R.2.1.1), .int (nI R.2.1.2.1), .int (nI R.2.1.2.2), .int (nI R.2.2.1.length), .ref x1, .ref x2, .ref x3, .int (nI R.2.2.2.1.1), .int (nI R.2.2.2.1.2), .long (lN (encN (nmL R.2.2.2.2))), .int (nI ((nmL R.2.2.2.2).length)), .int (nmA R.2.2.2.2)])]) sz) (vPost G lo (fun r V' k => r = some (.long (lN (toN R))) ∧ V' = vU V [(pa, eO 1 [.int (nI R.1.1), .int (nI R.1.2.2), .int (b2i R.1.2.1), .int (nI R.2.1.1), .int (nI R.2.1.2.1), .int (nI R.2.1.2.2), .int (nI R.2.2.1.length), .ref x1, .ref x2, .ref x3, .int (nI R.2.2.2.1.1), .int (nI R.2.2.2.1.2), .long (lN (encN (nmL R.2.2.2.2))), .int (nI ((nmL R.2.2.2.2).length)), .int (nmA R.2.2.2.2)])] ∧ k = sz)) 0 0 (vL lo) := by
  refine vMet (R := RPc) (by decide) rfl (Nat.le_of_ble_eq_true rfl) ?_
  intro pg ev s mi args below meth cd hx hb hr hml hlk hnm hts hown hK hz hV ls hl
  have hl : lv_has ls 1 [(0, .ref pa)] := hl
  have hV0 := hV
  obtain ⟨H, hH⟩ : ∃ H, H = s.heap := ⟨_, rfl⟩
  obtain ⟨locs, hlocs⟩ : ∃ locs : List Loc, locs = [] := ⟨_, rfl⟩
  rw [← hH, ← hlocs]
  rw [← hH] at hz
  replace hV : vS G.1 cls lo s H locs (vU V [(pa, eO 1 [.int (nI R.1.1), .int (nI R.1.2.2), .int (b2i R.1.2.1), .int (nI R.2.1.1), .int (nI R.2.1.2.1), .int (nI R.2.1.2.2), .int (nI R.2.2.1.length), .ref x1, .ref x2, .ref x3, .int (nI R.2.2.2.1.1), .int (nI R.2.2.2.1.2), .long (lN (encN (nmL R.2.2.2.2))), .int (nI ((nmL R.2.2.2.2).length)), .int (nmA R.2.2.2.2)])]) := by rw [hH, hlocs]; exact hV
  clear hH hlocs hV0
  have hn : [pa].Nodup := by simp
  obtain ⟨⟨r1, r2, r3, r4⟩, ⟨r5, r6, r7, r8, r9⟩, ⟨r10, r11⟩, ⟨r12, r13⟩, r14⟩ := id hR
  refine lv_aload_n hx hb d_Pc_nodesToWhichItGoes_0 rfl (lv_at hl 0 rfl) ?_
  refine u_get hx hb hts inPc hown hK hV hn 0 rfl rfl 2 (by decide) w_fl_Pc_47 rfl rfl d_Pc_nodesToWhichItGoes_1 ?_
  refine lv_if_eq (tgt := 16) hx hb d_Pc_nodesToWhichItGoes_4 (by decide) (fun c_1 => ?_) (fun c_1 => ?_)
  · have hw := b2i_0 c_1
    refine lv_aload_n hx hb d_Pc_nodesToWhichItGoes_16 rfl (lv_at hl 0 rfl) ?_
    refine v_call (va_runV (As := []) (rest := []) ⟨hx, hb, hml, hown, hts⟩ (c_Pc_ends l G lo _ _ pa x1 x2 x3 R hR) (kwV 0 hts w_co_Pc_ends rfl rfl w_it_Pc w_ml_Pc_51 w_im_Pc_ends w_se_Pc__Pc_ends (by decide +kernel) ⟨by decide, by decide⟩) (u_preV hK hV hn [0] rfl hz 0 rfl rfl) rfl rfl hl.1 rfl (lv_room (Nat.le_of_ble_eq_true rfl)) d_Pc_nodesToWhichItGoes_17 ⟨(Nat.le_of_ble_eq_true rfl), (Nat.le_of_ble_eq_true rfl)⟩) hV (fun r9 V9 H locs hp hV hle => ?_)
    obtain ⟨rfl, rfl, hz⟩ := hp
    replace hV := uu_same hV hn [0] rfl
    have hV : vS G.1 cls lo s H locs (vU V [(pa, eO 1 [.int (nI R.1.1), .int (nI R.1.2.2), .int (b2i R.1.2.1), .int (nI R.2.1.1), .int (nI R.2.1.2.1), .int (nI R.2.1.2.2), .int (nI R.2.2.1.length), .ref x1, .ref x2, .ref x3, .int (nI R.2.2.2.1.1), .int (nI R.2.2.2.1.2), .long (lN (encN (nmL R.2.2.2.2))), .int (nI ((nmL R.2.2.2.2).length)), .int (nmA R.2.2.2.2)])]) := hV
    refine W.eq (g2 := F0 mi 20 ls [.long (lN (endsN R))]) rfl ?_
    exact W.lret (v := lN (endsN R)) hx hb hr (v_end hV ⟨by simp [toN, hw], rfl, hz⟩) hV.2.1.2.2 d_Pc_nodesToWhichItGoes_20
  · have hw := b2i_1 c_1
    refine lv_lconst (v := 1) hx hb d_Pc_nodesToWhichItGoes_7 (by decide) ?_
    refine lv_aload_n hx hb d_Pc_nodesToWhichItGoes_8 rfl (lv_at hl 0 rfl) ?_
    refine u_get hx hb hts inPc hown hK hV hn 0 rfl rfl 1 (by decide) w_fl_Pc_44 rfl rfl d_Pc_nodesToWhichItGoes_9 ?_
    refine lv_lshl (v := lN (2 ^ R.1.2.2)) hx hb d_Pc_nodesToWhichItGoes_12 (one_shl (by omega)) ?_
    refine lv_goto (tgt := 20) hx hb d_Pc_nodesToWhichItGoes_13 (by decide) ?_
    exact W.lret (v := lN (2 ^ R.1.2.2)) hx hb hr (v_end hV ⟨by simp [toN, hw], rfl, hz⟩) hV.2.1.2.2 d_Pc_nodesToWhichItGoes_20

set_option maxHeartbeats 4000000 in
set_option maxRecDepth 100000 in
theorem c_Pc_speedAt (l : Launch) (G : Gx) (lo : Nat) (V : Vw) (sz : Nat) (pa x1 x2 x3 : Nat) (R : PcR) (hR : pcV R) (h1 h2 h3 : Nat → Int32) (hH : hrOk h1 h2 h3 R.2.2.1) (hn : [pa, x1, x2, x3].Nodup) (h : Nat) (hh : h < 24) : Met l y_Pc_speedAt ws_Pc_speedAt ({ frames := 0, cells := 0, slots := 0, locals := 0 } : Room) (vPre G lo [.ref pa, .int (nI h)] (vU V [(pa, eO 1 [.int (nI R.1.1), .int (nI R.1.2.2), .int (b2i R.1.2.1), .int (nI R.2.1.1), .int (nI R.2.1.2.1), .int (nI R.2.1.2.2), .int (nI R.2.2.1.length), .ref x1, .ref x2, .ref x3, .int (nI R.2.2.2.1.1), .int (nI R.2.2.2.1.2), .long (lN (encN (nmL R.2.2.2.2))), .int (nI ((nmL R.2.2.2.2).length)), .int (nmA R.2.2.2.2)]), (x1, eI (gI G) 3 h1), (x2, eI (gI G) 3 h2), (x3, eI (gI G) 3 h3)]) sz) (vPost G lo (fun r V' k => r = some (.int (nI (spd R.2.1.2.2 R.2.2.1 h))) ∧ V' = vU V [(pa, eO 1 [.int (nI R.1.1), .int (nI R.1.2.2), .int (b2i R.1.2.1), .int (nI R.2.1.1), .int (nI R.2.1.2.1), .int (nI R.2.1.2.2), .int (nI R.2.2.1.length), .ref x1, .ref x2, .ref x3, .int (nI R.2.2.2.1.1), .int (nI R.2.2.2.1.2), .long (lN (encN (nmL R.2.2.2.2))), .int (nI ((nmL R.2.2.2.2).length)), .int (nmA R.2.2.2.2)]), (x1, eI (gI G) 3 h1), (x2, eI (gI G) 3 h2), (x3, eI (gI G) 3 h3)] ∧ k = sz)) 0 0 (vL lo) := by
  refine vMet (R := RPc) (by decide) rfl (Nat.le_of_ble_eq_true rfl) ?_
  intro pg ev s mi args below meth cd hx hb hr hml hlk hnm hts hown hK hz hV ls hl
  have hl : lv_has ls 3 [(0, .ref pa), (1, .int (nI h))] := hl
  have hV0 := hV
  obtain ⟨H, hH⟩ : ∃ H, H = s.heap := ⟨_, rfl⟩
  obtain ⟨locs, hlocs⟩ : ∃ locs : List Loc, locs = [] := ⟨_, rfl⟩
  rw [← hH, ← hlocs]
  rw [← hH] at hz
  replace hV : vS G.1 cls lo s H locs (vU V [(pa, eO 1 [.int (nI R.1.1), .int (nI R.1.2.2), .int (b2i R.1.2.1), .int (nI R.2.1.1), .int (nI R.2.1.2.1), .int (nI R.2.1.2.2), .int (nI R.2.2.1.length), .ref x1, .ref x2, .ref x3, .int (nI R.2.2.2.1.1), .int (nI R.2.2.2.1.2), .long (lN (encN (nmL R.2.2.2.2))), .int (nI ((nmL R.2.2.2.2).length)), .int (nmA R.2.2.2.2)]), (x1, eI (gI G) 3 h1), (x2, eI (gI G) 3 h2), (x3, eI (gI G) 3 h3)]) := by rw [hH, hlocs]; exact hV
  clear hH hlocs hV0
  obtain ⟨⟨r1, r2, r3, r4⟩, ⟨r5, r6, r7, r8, r9⟩, ⟨r10, r11⟩, ⟨r12, r13⟩, r14⟩ := id hR
  refine lv_iconst (v := 0) hx hb d_Pc_speedAt_0 (by decide) ?_
  refine lv_istore_n (lv' := [(2, .int 0), (0, .ref pa), (1, .int (nI h))]) hx hb d_Pc_speedAt_1 rfl hl (by decide) rfl (fun ls hl => ?_)
  have loop : ∀ (k : Nat) (i : Nat), R.2.2.1.length - i < k → (i ≤ R.2.2.1.length) → (spd R.2.1.2.2 (R.2.2.1.drop i) h = spd R.2.1.2.2 R.2.2.1 h) → ∀ (H : Heap) (locs : List Loc) (ls : Array Slot), H.size = sz → vS G.1 cls lo s H locs (vU V [(pa, eO 1 [.int (nI R.1.1), .int (nI R.1.2.2), .int (b2i R.1.2.1), .int (nI R.2.1.1), .int (nI R.2.1.2.1), .int (nI R.2.1.2.2), .int (nI R.2.2.1.length), .ref x1, .ref x2, .ref x3, .int (nI R.2.2.2.1.1), .int (nI R.2.2.2.1.2), .long (lN (encN (nmL R.2.2.2.2))), .int (nI ((nmL R.2.2.2.2).length)), .int (nmA R.2.2.2.2)]), (x1, eI (gI G) 3 h1), (x2, eI (gI G) 3 h2), (x3, eI (gI G) 3 h3)]) → lv_has ls 3 [(0, .ref pa), (1, .int (nI h)), (2, .int (nI i))] → W pg l ev ({ frames := 0, cells := 0, slots := 0, locals := 0 } : Room) s mi args below meth cd H locs 0 0 (MQ below (vPost G lo (fun r V' k => r = some (.int (nI (spd R.2.1.2.2 R.2.2.1 h))) ∧ V' = vU V [(pa, eO 1 [.int (nI R.1.1), .int (nI R.1.2.2), .int (b2i R.1.2.1), .int (nI R.2.1.1), .int (nI R.2.1.2.1), .int (nI R.2.1.2.2), .int (nI R.2.2.1.length), .ref x1, .ref x2, .ref x3, .int (nI R.2.2.2.1.1), .int (nI R.2.2.2.1.2), .long (lN (encN (nmL R.2.2.2.2))), .int (nI ((nmL R.2.2.2.2).length)), .int (nmA R.2.2.2.2)]), (x1, eI (gI G) 3 h1), (x2, eI (gI G) 3 h2), (x3, eI (gI G) 3 h3)] ∧ k = sz)) args s 0 0 (vL lo)) (F0 mi 2 ls []) := by
    intro k
    induction k with
    | zero => intro i hk; exact absurd hk (by omega)
    | succ k ih =>
      intro i hk hi hS H locs ls hz hV hl
      refine lv_iload_n hx hb d_Pc_speedAt_2 rfl (lv_at hl 2 rfl) ?_
      refine lv_aload_n hx hb d_Pc_speedAt_3 rfl (lv_at hl 0 rfl) ?_
      refine u_get hx hb hts inPc hown hK hV hn 0 rfl rfl 6 (by decide) w_fl_Pc_25 rfl rfl d_Pc_speedAt_4 ?_
      refine lv_icmp_ge (tgt := 43) hx hb d_Pc_speedAt_7 (by decide) (fun c_1 => ?_) (fun c_1 => ?_)
      · replace c_1 : R.2.2.1.length ≤ i := (nI_leI (a := R.2.2.1.length) (b := i) (by omega) (by omega)).mp c_1
        have hE : spd R.2.1.2.2 R.2.2.1 h = R.2.1.2.2 := by rw [← hS, List.drop_eq_nil_of_le (by omega)]; rfl
        refine lv_aload_n hx hb d_Pc_speedAt_43 rfl (lv_at hl 0 rfl) ?_
        refine u_get hx hb hts inPc hown hK hV hn 0 rfl rfl 5 (by decide) w_fl_Pc_28 rfl rfl d_Pc_speedAt_44 ?_
        exact W.iret (v := nI R.2.1.2.2) hx hb hr (v_end hV ⟨by rw [hE], rfl, hz⟩) hV.2.1.2.2 d_Pc_speedAt_47
      · replace c_1 : ¬ R.2.2.1.length ≤ i := fun z9 => c_1 ((nI_leI (a := R.2.2.1.length) (b := i) (by omega) (by omega)).mpr z9)
        obtain ⟨o1, o2, o3⟩ := hH i (by omega)
        obtain ⟨o4, o5, o6, o7⟩ := r11 i (by omega)
        rw [drop_getD (d := z3) (show i < R.2.2.1.length by omega)] at hS
        refine lv_aload_n hx hb d_Pc_speedAt_10 rfl (lv_at hl 0 rfl) ?_
        refine u_get hx hb hts inPc hown hK hV hn 0 rfl rfl 7 (by decide) w_fl_Pc_9 rfl rfl d_Pc_speedAt_11 ?_
        refine lv_iload_n hx hb d_Pc_speedAt_14 rfl (lv_at hl 2 rfl) ?_
        refine u_ialdN hx hb hK hV hn 1 rfl (by omega) (by decide) d_Pc_speedAt_15 ?_
        rw [o1]
        refine lv_iload_n hx hb d_Pc_speedAt_16 rfl (lv_at hl 1 rfl) ?_
        refine lv_icmp_gt (tgt := 37) hx hb d_Pc_speedAt_17 (by decide) (fun c_2 => ?_) (fun c_2 => ?_)
        · replace c_2 : h < (R.2.2.1.getD i z3).1 := (nI_ltI (a := h) (b := (R.2.2.1.getD i z3).1) (by omega) (by omega)).mp c_2
          have hN : spd R.2.1.2.2 (R.2.2.1.drop (i + 1)) h = spd R.2.1.2.2 R.2.2.1 h := by rw [← hS]; unfold spd; rw [if_neg (by omega)]; cases (R.2.2.1.drop (i + 1)) <;> rfl
          refine lv_iinc (v := nI (i + 1)) (lv' := [(2, .int (nI (i + 1))), (0, .ref pa), (1, .int (nI h))]) hx hb d_Pc_speedAt_37 hl (k := 2) rfl (nI_add i 1) (by decide) rfl (fun ls hl => ?_)
          refine lv_goto (tgt := 2) hx hb d_Pc_speedAt_40 (by decide) ?_
          exact ih (i + 1) (by omega) (by omega) hN H locs ls hz hV (lv_sub hl [1, 2, 0] rfl)
        · replace c_2 : ¬ h < (R.2.2.1.getD i z3).1 := fun z9 => c_2 ((nI_ltI (a := h) (b := (R.2.2.1.getD i z3).1) (by omega) (by omega)).mpr z9)
          refine lv_iload_n hx hb d_Pc_speedAt_20 rfl (lv_at hl 1 rfl) ?_
          refine lv_aload_n hx hb d_Pc_speedAt_21 rfl (lv_at hl 0 rfl) ?_
          refine u_get hx hb hts inPc hown hK hV hn 0 rfl rfl 8 (by decide) w_fl_Pc_15 rfl rfl d_Pc_speedAt_22 ?_
          refine lv_iload_n hx hb d_Pc_speedAt_25 rfl (lv_at hl 2 rfl) ?_
          refine u_ialdN hx hb hK hV hn 2 rfl (by omega) (by decide) d_Pc_speedAt_26 ?_
          rw [o2]
          refine lv_icmp_gt (tgt := 37) hx hb d_Pc_speedAt_27 (by decide) (fun c_3 => ?_) (fun c_3 => ?_)
          · replace c_3 : (R.2.2.1.getD i z3).2.1 < h := (nI_ltI (a := (R.2.2.1.getD i z3).2.1) (b := h) (by omega) (by omega)).mp c_3
            have hN : spd R.2.1.2.2 (R.2.2.1.drop (i + 1)) h = spd R.2.1.2.2 R.2.2.1 h := by rw [← hS]; unfold spd; rw [if_neg (by omega)]; cases (R.2.2.1.drop (i + 1)) <;> rfl
            refine lv_iinc (v := nI (i + 1)) (lv' := [(2, .int (nI (i + 1))), (0, .ref pa), (1, .int (nI h))]) hx hb d_Pc_speedAt_37 hl (k := 2) rfl (nI_add i 1) (by decide) rfl (fun ls hl => ?_)
            refine lv_goto (tgt := 2) hx hb d_Pc_speedAt_40 (by decide) ?_
            exact ih (i + 1) (by omega) (by omega) hN H locs ls hz hV (lv_sub hl [1, 2, 0] rfl)
          · replace c_3 : ¬ (R.2.2.1.getD i z3).2.1 < h := fun z9 => c_3 ((nI_ltI (a := (R.2.2.1.getD i z3).2.1) (b := h) (by omega) (by omega)).mpr z9)
            refine lv_aload_n hx hb d_Pc_speedAt_30 rfl (lv_at hl 0 rfl) ?_
            refine u_get hx hb hts inPc hown hK hV hn 0 rfl rfl 9 (by decide) w_fl_Pc_18 rfl rfl d_Pc_speedAt_31 ?_
            refine lv_iload_n hx hb d_Pc_speedAt_34 rfl (lv_at hl 2 rfl) ?_
            refine u_ialdN hx hb hK hV hn 3 rfl (by omega) (by decide) d_Pc_speedAt_35 ?_
            rw [o3]
            exact W.iret (v := nI ((R.2.2.1.getD i z3).2.2)) hx hb hr (v_end hV ⟨by rw [← hS]; unfold spd; rw [if_pos ⟨by omega, by omega⟩], rfl, hz⟩) hV.2.1.2.2 d_Pc_speedAt_36
  exact loop (R.2.2.1.length + 1) 0 (by omega) (by omega) rfl H locs ls hz hV (lv_sub hl [1, 2, 0] rfl)
