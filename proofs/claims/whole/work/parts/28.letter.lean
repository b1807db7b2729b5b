theorem enc_dig : ∀ (k : Nat) (ls : List Nat), ls.length = k → (∀ c ∈ ls, c < 256) → ∀ i, i < k → encN ls / 2 ^ (8 * (k - 1 - i)) % 256 = ls.getD i 0 := by
  intro k
  induction k with
  | zero => intro ls _ _ i hi; omega
  | succ k ih =>
    intro ls h hc i hi
    rcases List.eq_nil_or_concat ls with rfl | ⟨xs, c, rfl⟩
    · simp at h
    · rw [List.concat_eq_append] at *
      have hx : xs.length = k := by simpa using h
      have hcc : c < 256 := hc c (by simp)
      rw [encN_app]
      by_cases he : i = k
      · subst he
        rw [show i + 1 - 1 - i = 0 by omega, ← hx, getD_app_r]
        simp
        omega
      · rw [getD_app_l (by omega), ← ih xs hx (fun c h => hc c (by simp [h])) i (by omega)]
        rw [show 8 * (k + 1 - 1 - i) = 8 + 8 * (k - 1 - i) by omega, Nat.pow_add, ← Nat.div_div_eq_div_mul]
        congr 2
        omega
theorem pf_shr3 {a d : Nat} {D : Int64} (hD : (D.toBitVec.smod 64).toNat = d) (h : a < 2 ^ 63) : lN a >>> D = lN (a / 2 ^ d) := by
  have hd : a / 2 ^ d ≤ a := Nat.div_le_self _ _
  apply Int64.toInt_inj.mp
  have e : (lN a >>> D).toInt = (lN a).toInt >>> d := by
    rw [← hD]
    exact BitVec.toInt_sshiftRight ..
  rw [e, Int.shiftRight_eq_div_pow, pf_lI (by omega), pf_lI (by omega)]
  rfl
theorem sh_D : ∀ k, k < 64 → (((nI k).toInt64 &&& 63).toBitVec.smod 64).toNat = k := by decide +kernel
theorem nI_and255 (n : Nat) : nI n &&& 255 = nI (n % 256) := by
  apply Int32.toBitVec_inj.mp
  apply BitVec.eq_of_toNat_eq
  show (BitVec.ofNat 32 n &&& 255#32).toNat = (BitVec.ofNat 32 (n % 256)).toNat
  rw [BitVec.toNat_and, show (255#32).toNat = 2 ^ 8 - 1 from by decide, Nat.and_two_pow_sub_one_eq_mod, BitVec.toNat_ofNat, BitVec.toNat_ofNat]
  omega
theorem nmL_V {o : Option (List Nat × Nat)} (h : nmV o) : (nmL o).length ≤ 8 ∧ ∀ c ∈ nmL o, 97 ≤ c ∧ c ≤ 122 := by
  cases o with
  | none => exact ⟨by simp [nmL], fun c h => by simp [nmL] at h⟩
  | some x => exact ⟨h.2.1, h.2.2.1⟩
theorem nI_sub {a b : Nat} (h : b ≤ a) : nI a - nI b = nI (a - b) := by
  have e : nI a = nI (a - b) + nI b := by rw [nI_add]; congr 1; omega
  rw [e]; simp
theorem nI_mul (a b : Nat) : nI a * nI b = nI (a * b) := by
  apply Int32.toBitVec_inj.mp
  apply BitVec.eq_of_toNat_eq
  show (BitVec.ofNat 32 a * BitVec.ofNat 32 b).toNat = (BitVec.ofNat 32 (a * b)).toNat
  rw [BitVec.toNat_mul, BitVec.toNat_ofNat, BitVec.toNat_ofNat, BitVec.toNat_ofNat, ← Nat.mul_mod]
theorem letC_lo {ls : List Nat} {x : Int32} (h : x < 0) : letC ls x = -1 := if_neg (fun z => absurd h (Int32.not_lt.mpr z.1))
theorem letC_hi {ls : List Nat} {x : Int32} (h : ¬ x < nI ls.length) : letC ls x = -1 := if_neg (fun z => h z.2)
theorem letC_in {ls : List Nat} {i : Nat} (h : i < ls.length) (hl : ls.length ≤ 8) : letC ls (nI i) = nI (ls.getD i 0) := by
  unfold letC
  rw [if_pos ⟨nI_le (a := 0) (by omega) (by omega), nI_lt h (by omega)⟩, nI_clamp (by omega)]
theorem enc_shr {ls : List Nat} (hl : ls.length ≤ 8) (hc : ∀ c ∈ ls, 97 ≤ c ∧ c ≤ 122) {i : Nat} (h : i < ls.length) : nI (encN ls / 2 ^ (8 * (ls.length - 1 - i))) &&& 255 = nI (ls.getD i 0) := by
  rw [nI_and255, enc_dig ls.length ls rfl (fun c h => by have := hc c h; omega) i h]
/-- names: equal numbers, equal letters -/
theorem encN_inj : ∀ (k : Nat) (xs ys : List Nat), xs.length ≤ k → (∀ c ∈ xs, 97 ≤ c ∧ c ≤ 122) → (∀ c ∈ ys, 97 ≤ c ∧ c ≤ 122) → encN xs = encN ys → xs = ys := by
  intro k
  induction k with
  | zero =>
    intro xs ys h _ hy he
    have : xs = [] := List.length_eq_zero_iff.mp (by omega)
    subst this
    rcases List.eq_nil_or_concat ys with rfl | ⟨zs, c, rfl⟩
    · rfl
    · rw [List.concat_eq_append] at *
      rw [encN_app] at he
      have := hy c (by simp)
      simp [encN] at he
      omega
  | succ k ih =>
    intro xs ys h hx hy he
    rcases List.eq_nil_or_concat xs with rfl | ⟨us, d, rfl⟩
    · rcases List.eq_nil_or_concat ys with rfl | ⟨zs, c, rfl⟩
      · rfl
      · rw [List.concat_eq_append] at *
        rw [encN_app] at he
        have := hy c (by simp)
        simp [encN] at he
        omega
    · rcases List.eq_nil_or_concat ys with rfl | ⟨zs, c, rfl⟩
      · rw [List.concat_eq_append] at *
        rw [encN_app] at he
        have := hx d (by simp)
        simp [encN] at he
        omega
      · rw [List.concat_eq_append, List.concat_eq_append] at *
        rw [encN_app, encN_app] at he
        have h1 := hy c (by simp)
        have h2 := hx d (by simp)
        have e2 : us = zs := ih us zs (by simp at h; omega) (fun c h => hx c (by simp [h])) (fun c h => hy c (by simp [h])) (by omega)
        rw [e2, show d = c by omega]
def sameN (R R' : PcR) : Bool := R.2.2.2.2.isSome && decide (R.2.2.2.2 = R'.2.2.2.2)
theorem nmA_m {o : Option (List Nat × Nat)} (h : nmA o = -1) (hv : nmV o) : o = none := by
  cases o with
  | none => rfl
  | some x => exact absurd h (nI_nem (by have := hv.2.2.2; omega))
theorem sameN_no {R R' : PcR} (hv : pcV R) (h : nmA R.2.2.2.2 = -1) : sameN R R' = false := by
  simp [sameN, nmA_m h hv.2.2.2.2]
theorem sameN_a {R R' : PcR} (h : ¬ nmA R.2.2.2.2 = nmA R'.2.2.2.2) : sameN R R' = false := by
  unfold sameN
  rw [decide_eq_false (fun z => h (by rw [z])), Bool.and_false]
theorem sameN_l {R R' : PcR} (h : ¬ lN (encN (nmL R.2.2.2.2)) = lN (encN (nmL R'.2.2.2.2))) : sameN R R' = false := by
  unfold sameN
  rw [decide_eq_false (fun z => h (by rw [z])), Bool.and_false]
theorem lN_inj {a b : Nat} (ha : a < 2 ^ 63) (hb : b < 2 ^ 63) (h : lN a = lN b) : a = b := by
  have := congrArg (fun x : Int64 => x.toBitVec.toNat) h
  simp only [wb_tn (show a < 2 ^ 64 by omega), wb_tn (show b < 2 ^ 64 by omega)] at this
  exact this
theorem sameN_y {R R' : PcR} (hv : pcV R) (hv' : pcV R') (h1 : ¬ nmA R.2.2.2.2 = -1) (h2 : nmA R.2.2.2.2 = nmA R'.2.2.2.2) (h3 : lN (encN (nmL R.2.2.2.2)) = lN (encN (nmL R'.2.2.2.2))) : sameN R R' = true := by
  have g1 := hv.2.2.2.2
  have g2 := hv'.2.2.2.2
  unfold sameN
  rcases e1 : R.2.2.2.2 with _ | ⟨xs, a⟩
  · rw [e1] at h1; exact absurd rfl h1
  · rcases e2 : R'.2.2.2.2 with _ | ⟨ys, b⟩
    · rw [e2] at h2; exact absurd h2 h1
    · rw [e1] at g1 h2 h3
      rw [e2] at g2 h2 h3
      have hab : a = b := (nI_eq (a := a) (b := b) (by have := g1.2.2.2; simp only [] at this; omega) (by have := g2.2.2.2; simp only [] at this; omega)).mp h2
      have k1 : encN xs < 2 ^ 63 := encN_small g1.2.1 (fun c h => by have := g1.2.2.1 c h; omega)
      have k2 : encN ys < 2 ^ 63 := encN_small g2.2.1 (fun c h => by have := g2.2.2.1 c h; omega)
      have hxy : xs = ys := encN_inj xs.length xs ys (Nat.le_refl _) g1.2.2.1 g2.2.2.1 (lN_inj k1 k2 h3)
      rw [hab, hxy]
      simp

set_option maxHeartbeats 4000000 in
set_option maxRecDepth 100000 in
/-- Piece.letter -/
theorem c_Pc_letter (l : Launch) (G : Gx) (lo : Nat) (V : Vw) (sz : Nat) (pa x1 x2 x3 : Nat) (R : PcR) (hR : pcV R) (x : Int32) : Met l y_Pc_letter ws_Pc_letter ({ frames := 0, cells := 0, slots := 0, locals := 0 } : Room) (vPre G lo [.ref pa, .int x] (vU V [(pa, eO 1 [.int (nI R.1.1), .int (nI R.1.2.2), .int (b2i R.1.2.1), .int (nI R.2.1.1), .int (nI R.2.1.2.1), .int (nI R.2.1.2.2), .int (nI R.2.2.1.length), .ref x1, .ref x2, .ref x3, .int (nI R.2.2.2.1.1), .int (nI R.2.2.2.1.2), .long (lN (encN (nmL R.2.2.2.2))), .int (nI ((nmL R.2.2.2.2).length)), .int (nmA R.2.2.2.2)])]) sz) (vPost G lo (fun r V' k => r = some (.int (letC (nmL R.2.2.2.2) x)) ∧ V' = vU V [(pa, eO 1 [.int (nI R.1.1), .int (nI R.1.2.2), .int (b2i R.1.2.1), .int (nI R.2.1.1), .int (nI R.2.1.2.1), .int (nI R.2.1.2.2), .int (nI R.2.2.1.length), .ref x1, .ref x2, .ref x3, .int (nI R.2.2.2.1.1), .int (nI R.2.2.2.1.2), .long (lN (encN (nmL R.2.2.2.2))), .int (nI ((nmL R.2.2.2.2).length)), .int (nmA R.2.2.2.2)])] ∧ k = sz)) 0 0 (vL lo) := by
  refine vMet (R := RPc) (by decide) rfl (Nat.le_of_ble_eq_true rfl) ?_
  intro pg ev s mi args below meth cd hx hb hr hml hlk hnm hts hown hK hz hV ls hl
  have hl : lv_has ls 2 [(0, .ref pa), (1, .int x)] := hl
  have hV0 := hV
  obtain ⟨H, hH⟩ : ∃ H, H = s.heap := ⟨_, rfl⟩
  obtain ⟨locs, hlocs⟩ : ∃ locs : List Loc, locs = [] := ⟨_, rfl⟩
  rw [← hH, ← hlocs]
  rw [← hH] at hz
  replace hV : vS G.1 cls lo s H locs (vU V [(pa, eO 1 [.int (nI R.1.1), .int (nI R.1.2.2), .int (b2i R.1.2.1), .int (nI R.2.1.1), .int (nI R.2.1.2.1), .int (nI R.2.1.2.2), .int (nI R.2.2.1.length), .ref x1, .ref x2, .ref x3, .int (nI R.2.2.2.1.1), .int (nI R.2.2.2.1.2), .long (lN (encN (nmL R.2.2.2.2))), .int (nI ((nmL R.2.2.2.2).length)), .int (nmA R.2.2.2.2)])]) := by rw [hH, hlocs]; exact hV
  clear hH hlocs hV0
  have hn : [pa].Nodup := by simp
  obtain ⟨hn1, hn2⟩ := nmL_V hR.2.2.2.2
  refine lv_iload_n hx hb d_Pc_letter_0 rfl (lv_at hl 1 rfl) ?_
  refine lv_if_lt (tgt := 12) hx hb d_Pc_letter_1 (by decide) (fun c_1 => ?_) (fun c_1 => ?_)
  · have hE : letC (nmL R.2.2.2.2) x = -1 := letC_lo c_1
    refine lv_iconst (v := (-1)) hx hb d_Pc_letter_12 (by decide) ?_
    exact W.iret (v := (-1)) hx hb hr (v_end hV ⟨by rw [hE], rfl, hz⟩) hV.2.1.2.2 d_Pc_letter_13
  · refine lv_iload_n hx hb d_Pc_letter_4 rfl (lv_at hl 1 rfl) ?_
    refine lv_aload_n hx hb d_Pc_letter_5 rfl (lv_at hl 0 rfl) ?_
    refine u_get hx hb hts inPc hown hK hV hn 0 rfl rfl 13 (by decide) w_fl_Pc_35 rfl rfl d_Pc_letter_6 ?_
    refine lv_icmp_lt (tgt := 14) hx hb d_Pc_letter_9 (by decide) (fun c_2 => ?_) (fun c_2 => ?_)
    · obtain ⟨j, hj1, hj2, rfl⟩ := nI_bd (x := x) (a := 0) (b := (nmL R.2.2.2.2).length) (by omega) c_1 (Int32.not_lt.mpr (Int32.le_of_lt c_2)) (by decide)
      have hj3 : j < (nmL R.2.2.2.2).length := (nI_ltI (by omega) (by omega)).mp c_2
      have hE := letC_in hj3 hn1
      refine lv_aload_n hx hb d_Pc_letter_14 rfl (lv_at hl 0 rfl) ?_
      refine u_get hx hb hts inPc hown hK hV hn 0 rfl rfl 12 (by decide) w_fl_Pc_31 rfl rfl d_Pc_letter_15 ?_
      refine lv_bipush (v := 8) hx hb d_Pc_letter_18 (by decide) ?_
      refine lv_aload_n hx hb d_Pc_letter_20 rfl (lv_at hl 0 rfl) ?_
      refine u_get hx hb hts inPc hown hK hV hn 0 rfl rfl 13 (by decide) w_fl_Pc_35 rfl rfl d_Pc_letter_21 ?_
      refine lv_iconst (v := 1) hx hb d_Pc_letter_24 (by decide) ?_
      refine e_isub (v := nI ((nmL R.2.2.2.2).length - 1)) hx hb d_Pc_letter_25 (nI_sub (b := 1) (by omega)) ?_
      refine lv_iload_n hx hb d_Pc_letter_26 rfl (lv_at hl 1 rfl) ?_
      refine e_isub (v := nI ((nmL R.2.2.2.2).length - 1 - j)) hx hb d_Pc_letter_27 (nI_sub (by omega)) ?_
      refine e_imul (v := nI (8 * ((nmL R.2.2.2.2).length - 1 - j))) hx hb d_Pc_letter_28 (nI_mul 8 _) ?_
      refine lv_lshr (v := lN (encN (nmL R.2.2.2.2) / 2 ^ (8 * ((nmL R.2.2.2.2).length - 1 - j)))) hx hb d_Pc_letter_29 (pf_shr3 (sh_D _ (by omega)) (encN_small hn1 (fun c h => by have := hn2 c h; omega))) ?_
      refine lv_l2i (v := nI (encN (nmL R.2.2.2.2) / 2 ^ (8 * ((nmL R.2.2.2.2).length - 1 - j)))) hx hb d_Pc_letter_30 (lN_i32 _) ?_
      refine lv_sipush (v := 255) hx hb d_Pc_letter_31 (by decide) ?_
      refine e_iand (v := nI ((nmL R.2.2.2.2).getD j 0)) hx hb d_Pc_letter_34 (enc_shr hn1 hn2 hj3) ?_
      exact W.iret (v := nI ((nmL R.2.2.2.2).getD j 0)) hx hb hr (v_end hV ⟨by rw [hE], rfl, hz⟩) hV.2.1.2.2 d_Pc_letter_35
    · have hE : letC (nmL R.2.2.2.2) x = -1 := letC_hi c_2
      refine lv_iconst (v := (-1)) hx hb d_Pc_letter_12 (by decide) ?_
      exact W.iret (v := (-1)) hx hb hr (v_end hV ⟨by rw [hE], rfl, hz⟩) hV.2.1.2.2 d_Pc_letter_13

set_option maxHeartbeats 4000000 in
set_option maxRecDepth 100000 in
/-- Piece.isNamedLike -/
theorem c_Pc_isNamedLike (l : Launch) (G : Gx) (lo : Nat) (V : Vw) (sz : Nat) (pa pb x1 x2 x3 y1 y2 y3 : Nat) (R R' : PcR) (hR : pcV R) (hR' : pcV R') (hA : vU V [] pa = some (eO 1 [.int (nI R.1.1), .int (nI R.1.2.2), .int (b2i R.1.2.1), .int (nI R.2.1.1), .int (nI R.2.1.2.1), .int (nI R.2.1.2.2), .int (nI R.2.2.1.length), .ref x1, .ref x2, .ref x3, .int (nI R.2.2.2.1.1), .int (nI R.2.2.2.1.2), .long (lN (encN (nmL R.2.2.2.2))), .int (nI ((nmL R.2.2.2.2).length)), .int (nmA R.2.2.2.2)])) (hB : vU V [] pb = some (eO 1 [.int (nI R'.1.1), .int (nI R'.1.2.2), .int (b2i R'.1.2.1), .int (nI R'.2.1.1), .int (nI R'.2.1.2.1), .int (nI R'.2.1.2.2), .int (nI R'.2.2.1.length), .ref y1, .ref y2, .ref y3, .int (nI R'.2.2.2.1.1), .int (nI R'.2.2.2.1.2), .long (lN (encN (nmL R'.2.2.2.2))), .int (nI ((nmL R'.2.2.2.2).length)), .int (nmA R'.2.2.2.2)])) : Met l y_Pc_isNamedLike ws_Pc_isNamedLike ({ frames := 0, cells := 0, slots := 0, locals := 0 } : Room) (vPre G lo [.ref pa, .ref pb] (vU V []) sz) (vPost G lo (fun r V' k => r = some (.int (b2i (sameN R R'))) ∧ V' = vU V [] ∧ k = sz)) 0 0 (vL lo) := by
  refine vMet (R := RPc) (by decide) rfl (Nat.le_of_ble_eq_true rfl) ?_
  intro pg ev s mi args below meth cd hx hb hr hml hlk hnm hts hown hK hz hV ls hl
  have hl : lv_has ls 2 [(0, .ref pa), (1, .ref pb)] := hl
  have hV0 := hV
  obtain ⟨H, hH⟩ : ∃ H, H = s.heap := ⟨_, rfl⟩
  obtain ⟨locs, hlocs⟩ : ∃ locs : List Loc, locs = [] := ⟨_, rfl⟩
  rw [← hH, ← hlocs]
  rw [← hH] at hz
  replace hV : vS G.1 cls lo s H locs (vU V []) := by rw [hH, hlocs]; exact hV
  clear hH hlocs hV0
  refine lv_aload_n hx hb d_Pc_isNamedLike_0 rfl (lv_at hl 0 rfl) ?_
  refine v_get hx hb hts inPc hown hK.1 hV hA rfl 14 (by decide) (hts _ w_fl_Pc_21) (fun _ h9 => h9) rfl d_Pc_isNamedLike_1 ?_
  refine lv_iconst (v := (-1)) hx hb d_Pc_isNamedLike_4 (by decide) ?_
  refine lv_icmp_eq (tgt := 35) hx hb d_Pc_isNamedLike_5 (by decide) (fun c_1 => ?_) (fun c_1 => ?_)
  · have hE : sameN R R' = false := sameN_no hR c_1
    refine lv_iconst (v := 0) hx hb d_Pc_isNamedLike_35 (by decide) ?_
    exact W.zret (v := 0) hx hb hr (by decide) (v_end hV ⟨by rw [hE]; rfl, rfl, hz⟩) hV.2.1.2.2 d_Pc_isNamedLike_36
  · refine lv_aload_n hx hb d_Pc_isNamedLike_8 rfl (lv_at hl 0 rfl) ?_
    refine v_get hx hb hts inPc hown hK.1 hV hA rfl 14 (by decide) (hts _ w_fl_Pc_21) (fun _ h9 => h9) rfl d_Pc_isNamedLike_9 ?_
    refine lv_aload_n hx hb d_Pc_isNamedLike_12 rfl (lv_at hl 1 rfl) ?_
    refine v_get hx hb hts inPc hown hK.1 hV hB rfl 14 (by decide) (hts _ w_fl_Pc_21) (fun _ h9 => h9) rfl d_Pc_isNamedLike_13 ?_
    refine lv_icmp_ne (tgt := 35) hx hb d_Pc_isNamedLike_16 (by decide) (fun c_2 => ?_) (fun c_2 => ?_)
    · have hE : sameN R R' = false := sameN_a c_2
      refine lv_iconst (v := 0) hx hb d_Pc_isNamedLike_35 (by decide) ?_
      exact W.zret (v := 0) hx hb hr (by decide) (v_end hV ⟨by rw [hE]; rfl, rfl, hz⟩) hV.2.1.2.2 d_Pc_isNamedLike_36
    · refine lv_aload_n hx hb d_Pc_isNamedLike_19 rfl (lv_at hl 0 rfl) ?_
      refine v_get hx hb hts inPc hown hK.1 hV hA rfl 12 (by decide) (hts _ w_fl_Pc_31) (fun _ h9 => h9) rfl d_Pc_isNamedLike_20 ?_
      refine lv_aload_n hx hb d_Pc_isNamedLike_23 rfl (lv_at hl 1 rfl) ?_
      refine v_get hx hb hts inPc hown hK.1 hV hB rfl 12 (by decide) (hts _ w_fl_Pc_31) (fun _ h9 => h9) rfl d_Pc_isNamedLike_24 ?_
      refine W.lcmp hx hb d_Pc_isNamedLike_27 ?_
      refine lv_if_ne (tgt := 35) hx hb d_Pc_isNamedLike_28 (by decide) (fun c_3 => ?_) (fun c_3 => ?_)
      · have hE : sameN R R' = false := sameN_l (fun z => c_3 ((lg_cmp_eq _ _).mpr z))
        refine lv_iconst (v := 0) hx hb d_Pc_isNamedLike_35 (by decide) ?_
        exact W.zret (v := 0) hx hb hr (by decide) (v_end hV ⟨by rw [hE]; rfl, rfl, hz⟩) hV.2.1.2.2 d_Pc_isNamedLike_36
      · have hE : sameN R R' = true := sameN_y hR hR' c_1 c_2 ((lg_cmp_eq _ _).mp c_3)
        refine lv_iconst (v := 1) hx hb d_Pc_isNamedLike_31 (by decide) ?_
        refine lv_goto (tgt := 36) hx hb d_Pc_isNamedLike_32 (by decide) ?_
        exact W.zret (v := 1) hx hb hr (by decide) (v_end hV ⟨by rw [hE]; rfl, rfl, hz⟩) hV.2.1.2.2 d_Pc_isNamedLike_36
