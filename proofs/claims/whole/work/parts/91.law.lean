/-! THE LAW: the start's states, and the rows of its loop -/
theorem rng_nd (lo n : Nat) : ((List.range n).map (fun i => lo + i)).Nodup := List.pairwise_map.mpr (List.Pairwise.imp (fun h e => h (by omega)) List.nodup_range)
theorem rng_in {lo n a : Nat} (h : a ∈ (List.range n).map (fun i => lo + i)) : lo ≤ a ∧ a < lo + n := by
  obtain ⟨i, hi, rfl⟩ := List.mem_map.mp h
  have := List.mem_range.mp hi
  omega
theorem cS_start {G : Gx} {V : Vw} {lo : Nat} (hV : vU V [(lo, eO 7 [.ref (lo + 1), .ref (lo + 3), .ref (lo + 6), .ref (lo + 8), .ref (lo + 20), .int ((-1))]), (lo + 1, eO 3 [.ref (lo + 2), .int 0, .int 0]), (lo + 2, eI (gB G) 400 (fun _ => 0)), (lo + 3, eO 0 [.ref (lo + 4), .ref (lo + 5), .int 0]), (lo + 4, eI (gI G) 250 (fun _ => 0)), (lo + 5, eI (gI G) 250 (fun _ => 0)), (lo + 6, eO 2 [.ref (lo + 7), .int 0]), (lo + 7, eI (gB G) 4880 (fun _ => 0)), (lo + 8, eO 5 [.ref (lo + 9), .ref (lo + 10), .ref (lo + 13), .ref (lo + 16)]), (lo + 9, eQ (gP G) 61 (fun _ => none)), (lo + 10, eO 4 [.ref (lo + 11), .ref (lo + 12)]), (lo + 11, eI (gI G) 31 (fun _ => 0)), (lo + 12, eI (gI G) 31 (fun _ => 0)), (lo + 13, eO 4 [.ref (lo + 14), .ref (lo + 15)]), (lo + 14, eI (gI G) 31 (fun _ => 0)), (lo + 15, eI (gI G) 31 (fun _ => 0)), (lo + 16, eO 6 [.ref (lo + 17), .ref (lo + 18), .ref (lo + 19), .int 0, .int 0]), (lo + 17, eI (gI G) 20 (fun _ => 0)), (lo + 18, eI (gI G) 20 (fun _ => 0)), (lo + 19, eI (gI G) 20 (fun _ => 0)), (lo + 20, eO 5 [.ref (lo + 21), .ref (lo + 22), .ref (lo + 25), .ref (lo + 28)]), (lo + 21, eQ (gP G) 61 (fun _ => none)), (lo + 22, eO 4 [.ref (lo + 23), .ref (lo + 24)]), (lo + 23, eI (gI G) 31 (fun _ => 0)), (lo + 24, eI (gI G) 31 (fun _ => 0)), (lo + 25, eO 4 [.ref (lo + 26), .ref (lo + 27)]), (lo + 26, eI (gI G) 31 (fun _ => 0)), (lo + 27, eI (gI G) 31 (fun _ => 0)), (lo + 28, eO 6 [.ref (lo + 29), .ref (lo + 30), .ref (lo + 31), .int 0, .int 0]), (lo + 29, eI (gI G) 20 (fun _ => 0)), (lo + 30, eI (gI G) 20 (fun _ => 0)), (lo + 31, eI (gI G) 20 (fun _ => 0))] = V) : cS G V lo (lo + 46) (lo + 46) (fun _ => none) (fun _ => none) (fun _ => none) [] (fun _ => 0) 0 (-1) [] [] :=
  cS.mk (rd := lo + 1) (tp := lo + 2) (ck := lo + 3) (kk := lo + 4) (kn := lo + 5) (pr := lo + 6) (bs := lo + 7) (tw := lo + 8) (ps := lo + 9) (bl := lo + 10) (b1 := lo + 11) (b2 := lo + 12) (sn := lo + 13) (s1 := lo + 14) (s2 := lo + 15) (tu := lo + 16) (af := lo + 17) (ao := lo + 18) (a3 := lo + 19) (w0 := lo + 20) (w1 := lo + 21) (w2 := lo + 22) (w3 := lo + 23) (w4 := lo + 24) (w5 := lo + 25) (w6 := lo + 26) (w7 := lo + 27) (w8 := lo + 28) (w9 := lo + 29) (wa := lo + 30) (wb := lo + 31) (p := 0) (f := fun _ => 0) (fk := fun _ => 0) (fn := fun _ => 0) (fo := fun _ => 0) (pf := fun _ => none) (gp := fun _ => none) (fb := fun _ => 0) (fc := fun _ => 0) (fs := fun _ => 0) (fd := fun _ => 0) (gb := fun _ => 0) (gc := fun _ => 0) (gs := fun _ => 0) (gd := fun _ => 0) (fr := fun _ => 0) (ov := fun _ => 0) (tt := fun _ => 0) (g1 := fun _ => 0) (g2 := fun _ => 0) (g3 := fun _ => 0) (L1 := []) (of := false) (of1 := false)
    (rng_nd lo 32) (fun a h => rng_in (n := 32) h) (by omega) (Nat.le_refl _) hV (fun j _ _ => Or.inl ⟨rfl, rfl⟩) (fun j _ _ => Or.inl ⟨rfl, rfl⟩) (fun j _ _ => Or.inl ⟨rfl, rfl⟩) (fun i h => absurd h (Nat.not_lt_zero i)) (Nat.zero_le _) (fun i h => absurd h (Nat.not_lt_zero i)) (Nat.zero_le _) (Nat.zero_le _) (fun i h => absurd h (Nat.not_lt_zero i)) (Nat.zero_le _) (fun i h => absurd h (Nat.not_lt_zero i)) (Nat.zero_le _)
theorem mS_start {G : Gx} {V : Vw} {lo : Nat} (hV : vU V [(lo + 32, eO 8 [.int 0, .int 0, .ref (lo + 33), .int ((-1)), .ref (lo + 34), .ref (lo + 35), .ref (lo + 36), .int 0, .ref (lo + 37), .ref (lo + 38), .ref (lo + 39), .ref (lo + 40), .int 0, .int 0, .int 0, .int 0, .ref (lo + 41), .ref (lo + 42), .ref (lo + 43), .int 0, .ref (lo + 44)]), (lo + 33, eI (gI G) 400 (fun _ => 0)), (lo + 34, eI (gI G) 1769 (fun _ => 0)), (lo + 35, eI (gI G) 62 (fun _ => 0)), (lo + 36, eI (gI G) 62 (fun _ => 0)), (lo + 37, eI (gI G) 600 (fun _ => 0)), (lo + 38, eI (gI G) 1769 (fun _ => 0)), (lo + 39, eI (gI G) 62 (fun _ => 0)), (lo + 40, eI (gI G) 62 (fun _ => 0)), (lo + 41, eI (gI G) 300 (fun _ => 0)), (lo + 42, eI (gI G) 300 (fun _ => 0)), (lo + 43, eI (gZ G) 41 (fun _ => 0)), (lo + 44, eI (gI G) 5000 (fun _ => 0))] = V) : mS G V (lo + 32) 0 (fun _ => none) (fun _ => none) (fun _ => none) [] (fun _ => 0) 0 (-1) [] [] :=
  mS.mk (nb := .int 0) (at0 := .int 0) (wq := .int 0) (g := fun _ => 0) (P := fun _ => 0) (sp := fun _ => 0) (al := fun _ => 0) (b := fun _ => 0) (fN := fun _ => 0) (sN := fun _ => 0) (lN := fun _ => 0) (fk := fun _ => 0) (fn := fun _ => 0) (mk := fun _ => 0) (fo := fun _ => 0) hV (fun i h => absurd h (Nat.not_lt_zero i)) (Nat.zero_le _) (fun j _ _ => Or.inl ⟨rfl, rfl⟩) ⟨fun j _ _ => Or.inl ⟨rfl, rfl⟩, fun j _ _ => Or.inl ⟨rfl, rfl⟩, rfl⟩ (fun i h => absurd h (Nat.not_lt_zero i)) (Nat.zero_le _) (fun x h => absurd h List.not_mem_nil) (fun i h => absurd h (Nat.not_lt_zero i)) (Nat.zero_le _) (fun i h => absurd h (Nat.not_lt_zero i)) (Nat.zero_le _)
theorem tpS_le {n : Nat} (k : Int32) (h4 : n ≤ 400) : tpS n (sgnR n k) ≤ n + 8 := by
  rcases h : sgnR n k with e | z
  · exact Nat.le_add_right _ _
  · exact (sgnR_inr h4 h).2.2
theorem law_in {n i : Nat} (hL : n ≤ 2048) (hi : 4 * i ≤ n) (h : ¬ nI n - 4 < nI (4 * i)) : 4 * i + 4 ≤ n := by
  by_cases c : 4 ≤ n
  · rw [show (4 : Int32) = nI 4 from rfl, nI_sub c] at h
    have h2 : ¬ n - 4 < 4 * i := fun z => h ((nI_ltI (a := n - 4) (b := 4 * i) (by omega) (by omega)).mpr z)
    omega
  · exfalso
    apply h
    have e : i = 0 := by omega
    subst e
    rcases (show n = 0 ∨ n = 1 ∨ n = 2 ∨ n = 3 by omega) with rfl | rfl | rfl | rfl <;> decide
set_option maxHeartbeats 4000000 in
set_option maxRecDepth 100000 in
/-- from the entry, for every script of at most 2048 ints, the law comes to its end with true -/
theorem whole_start {p : Program} {e : Env} {s : State} {m : MethodId} {below : List Frame} {meth : Method} {c : Code} (l : Launch) (hlT : l.stackTraces = false) {b Ln : Nat} {xs : Nat → Int32} (hL : Ln ≤ 2048) (C0 : lw_At p s m meth c b Ln xs) : W p l e room_1 s m #[Value.ref b] below meth c s.heap [] 0 0 (lw_Z below #[Value.ref b] s) (entryFrame m ([Value.ref b] : List Value).toArray 7) := by
  obtain ⟨hx, hb, hr, hml, hown, hts0, hX, hbl, hlk, hgv⟩ := C0
  obtain ⟨G, hK⟩ := gK_start hts0 hgv
  have hts : ∀ w ∈ lwT, w.before #[Value.ref b] s = true := fun w h => hts0 w (lwT_tbl w h)
  have hRc : room_1.cells = 601024 := rfl
  have hRs : room_1.slots = 7293034 := rfl
  have hl := lv_entry ([Value.ref b] : List Value) (n := 7) (Nat.le_of_ble_eq_true rfl)
  rw [lg_entry_eq]
  revert hl
  generalize ((lg_sl ([Value.ref b] : List Value) ++ List.replicate (7 - (lg_sl ([Value.ref b] : List Value)).length) Slot.unset).toArray) = ls
  intro hl
  have hl : lv_has ls 7 [(0, .ref b)] := hl
  obtain ⟨lo, hlo⟩ : ∃ lo : Nat, lo = s.heap.size := ⟨_, rfl⟩
  rw [← hlo] at hK
  have hbA : ¬ vL lo b := by unfold vL; omega
  have hV : vS G.1 cls lo s s.heap [] (vU (fun _ => none) []) := ⟨⟨by omega, fun a x h => by cases h⟩, ⟨Nat.le_refl _, fun _ _ _ => rfl, fun z hz => by cases hz⟩, by omega⟩
  have hz : s.heap.size = lo := hlo.symm
  have lp : ∀ (k : Nat) (i : Nat) (V : Vw) (th : Int32) (Q : Nat → Option PcR) (B S : Nat → Option (Nat × Nat)) (L : List Tri) (t : Nat → Nat) (n : Nat) (wr : Int32) (F : List Two) (PB : List Nat) (fo : Nat → Int64) (sz kc ks : Nat), (Ln < 4 * (i + k)) → (4 * i ≤ Ln) → (kc + 4 * n ≤ 46 + 33 * i) → (ks + 24 * n ≤ 16759 + 198 * i) → (cS G V lo (lo + 46) sz Q B S L t n wr F PB) → (mS G V (lo + 32) th Q B S L t n wr F PB) → (V (lo + 45) = some (eL (gL G) 1 fo)) → ∀ (H : Heap) (locs : List Loc) (ls : Array Slot), H.size = sz → vS G.1 cls lo s H locs V → lv_has ls 7 [(4, .int (nI (4 * i))), (0, .ref b), (1, .ref lo), (2, .ref (lo + 32)), (3, .ref (lo + 45))] → W p l e room_1 s m #[Value.ref b] below meth c H locs kc ks (lw_Z below #[Value.ref b] s) (F0 m 23 ls []) := by
    intro k
    induction k with
    | zero => intro i V th Q B S L t n wr F PB fo sz kc ks hk hi hkc hks hC hM ho; exact absurd hk (by omega)
    | succ k ih =>
      intro i V th Q B S L t n wr F PB fo sz kc ks hk hi hkc hks hC hM ho H locs ls hz hV hl
      obtain ⟨⟨fx, hx0⟩, -, hdz⟩ := hC.at
      have hN4 := hM.len
      refine lv_iload hx hb d_La_law_23 (lv_at hl 0 rfl) ?_
      refine lv_aload_n hx hb d_La_law_25 rfl (lv_at hl 1 rfl) ?_
      refine va_slen hx hb hX hbl hbA hV.2.1 d_La_law_26 ?_
      refine W.eq (g2 := F0 m 27 ls [.int (nI Ln), .int (nI (4 * i))]) rfl ?_
      refine lv_iconst (v := 4) hx hb d_La_law_27 (by decide) ?_
      refine e_isub (v := nI Ln - 4) hx hb d_La_law_28 rfl ?_
      refine lv_icmp_gt (tgt := 953) hx hb d_La_law_29 (by decide) (fun c_1 => ?_) (fun c_1 => ?_)
      · refine lv_iconst (v := 1) hx hb d_La_law_953 (by decide) ?_
        refine va_forget (fun q hq => by have := hV.2.1.2.2 q hq; unfold vL at this; omega) ?_
        refine W.widen (k := 601024) (n := 7293034) (by omega) (by omega) ?_
        exact lw_ret hx hb hr hlk d_La_law_954
      · have h4i := law_in hL hi c_1
        refine lv_aload_n hx hb d_La_law_32 rfl (lv_at hl 1 rfl) ?_
        refine lv_iload hx hb d_La_law_33 (lv_at hl 0 rfl) ?_
        refine va_sld hx hb hX hbl hbA hV.2.1 (i := nI (4 * i)) (nI_in (by omega) (by omega)) d_La_law_35 ?_
        refine W.eq (g2 := F0 m 36 ls [.int (xs (4 * i))]) (by rw [nI_clamp (by omega)]) ?_
        refine lv_bipush (v := 15) hx hb d_La_law_36 (by decide) ?_
        refine e_iand (v := (xs (4 * i)) &&& 15) hx hb d_La_law_38 (rfl) ?_
        obtain ⟨wv, hwv⟩ : ∃ wv : Int32, wv = (xs (4 * i)) &&& 15 := ⟨_, rfl⟩
        refine W.eq (g2 := F0 m 39 ls [.int wv]) (by rw [hwv]) ?_
        by_cases hw9 : wv < 0 ∨ 14 < wv
        · refine lv_tableOut (tgt := 947) hx hb d_La_law_39 (sw_out (b := 14) (by decide) hw9) (by decide) ?_
          refine lv_iinc (v := nI (4 * (i + 1))) (lv' := [(4, .int (nI (4 * (i + 1)))), (0, .ref b), (1, .ref lo), (2, .ref (lo + 32)), (3, .ref (lo + 45))]) hx hb d_La_law_947 hl (k := 0) rfl (nI_add (4 * i) 4) (by decide) rfl (fun ls hl => ?_)
          refine lv_goto (tgt := 23) hx hb d_La_law_950 (by decide) ?_
          exact ih (i + 1) V th Q B S L t n wr F PB fo sz kc ks (by omega) (by omega) (by omega) (by omega) hC hM ho H locs ls hz hV (lv_sub hl [0, 1, 2, 3, 4] rfl)
        · obtain ⟨j9, hj0, hj9, e9⟩ := nI_bd (x := wv) (a := 0) (b := 14) (by decide) (fun z => hw9 (Or.inl z)) (fun z => hw9 (Or.inr z)) (by decide)
          rcases (show j9 = 0 ∨ j9 = 1 ∨ j9 = 2 ∨ j9 = 3 ∨ j9 = 4 ∨ j9 = 5 ∨ j9 = 6 ∨ j9 = 7 ∨ j9 = 8 ∨ j9 = 9 ∨ j9 = 10 ∨ j9 = 11 ∨ j9 = 12 ∨ j9 = 13 ∨ j9 = 14 by omega) with rfl | rfl | rfl | rfl | rfl | rfl | rfl | rfl | rfl | rfl | rfl | rfl | rfl | rfl | rfl <;> subst e9
          · refine lv_tableIn (tgt := 112) (off := 73) hx hb d_La_law_39 (by decide) (by decide) (by decide) (by decide) ?_
            refine lv_aload_n hx hb d_La_law_112 rfl (lv_at hl 2 rfl) ?_
            refine lv_aload_n hx hb d_La_law_113 rfl (lv_at hl 1 rfl) ?_
            refine lv_iload hx hb d_La_law_114 (lv_at hl 0 rfl) ?_
            refine lv_iconst (v := 1) hx hb d_La_law_116 (by decide) ?_
            refine e_iadd (v := nI (4 * i + 1)) hx hb d_La_law_117 (nI_add (4 * i) 1) ?_
            refine va_sld hx hb hX hbl hbA hV.2.1 (i := nI (4 * i + 1)) (nI_in (by omega) (by omega)) d_La_law_118 ?_
            refine W.eq (g2 := F0 m 119 ls [.int (xs (4 * i + 1)), .ref lo]) (by rw [nI_clamp (by omega)]) ?_
            refine lv_i2l (v := (xs (4 * i + 1)).toInt64) hx hb d_La_law_119 (rfl) ?_
            refine lv_bipush (v := 32) hx hb d_La_law_120 (by decide) ?_
            refine lv_lshl (v := ((xs (4 * i + 1)).toInt64) <<< ((32 : Int32).toInt64 &&& 63)) hx hb d_La_law_122 (rfl) ?_
            refine lv_aload_n hx hb d_La_law_123 rfl (lv_at hl 1 rfl) ?_
            refine lv_iload hx hb d_La_law_124 (lv_at hl 0 rfl) ?_
            refine lv_iconst (v := 2) hx hb d_La_law_126 (by decide) ?_
            refine e_iadd (v := nI (4 * i + 2)) hx hb d_La_law_127 (nI_add (4 * i) 2) ?_
            refine va_sld hx hb hX hbl hbA hV.2.1 (i := nI (4 * i + 2)) (nI_in (by omega) (by omega)) d_La_law_128 ?_
            refine W.eq (g2 := F0 m 129 ls [.int (xs (4 * i + 2)), .long (((xs (4 * i + 1)).toInt64) <<< ((32 : Int32).toInt64 &&& 63)), .ref lo]) (by rw [nI_clamp (by omega)]) ?_
            refine lv_i2l (v := (xs (4 * i + 2)).toInt64) hx hb d_La_law_129 (rfl) ?_
            refine lv_ldc2 hx hb hown (hts _ w_cL_La_60) d_La_law_130 ?_
            refine e_land (v := ((xs (4 * i + 2)).toInt64) &&& ((4294967295 : Int64))) hx hb d_La_law_133 (rfl) ?_
            refine e_lor (v := (((xs (4 * i + 1)).toInt64) <<< ((32 : Int32).toInt64 &&& 63)) ||| (((xs (4 * i + 2)).toInt64) &&& ((4294967295 : Int64)))) hx hb d_La_law_134 (rfl) ?_
            refine lv_aload_n hx hb d_La_law_135 rfl (lv_at hl 1 rfl) ?_
            refine lv_iload hx hb d_La_law_136 (lv_at hl 0 rfl) ?_
            refine lv_iconst (v := 3) hx hb d_La_law_138 (by decide) ?_
            refine e_iadd (v := nI (4 * i + 3)) hx hb d_La_law_139 (nI_add (4 * i) 3) ?_
            refine va_sld hx hb hX hbl hbA hV.2.1 (i := nI (4 * i + 3)) (nI_in (by omega) (by omega)) d_La_law_140 ?_
            refine W.eq (g2 := F0 m 141 ls [.int (xs (4 * i + 3)), .long ((((xs (4 * i + 1)).toInt64) <<< ((32 : Int32).toInt64 &&& 63)) ||| (((xs (4 * i + 2)).toInt64) &&& ((4294967295 : Int64)))), .ref lo]) (by rw [nI_clamp (by omega)]) ?_
            refine lv_aload_n hx hb d_La_law_141 rfl (lv_at hl 4 rfl) ?_
            refine x_callSW (n := 4) (As := [.ref lo, .long ((((xs (4 * i + 1)).toInt64) <<< ((32 : Int32).toInt64 &&& 63)) ||| (((xs (4 * i + 2)).toInt64) &&& ((4294967295 : Int64)))), .int (xs (4 * i + 3)), .ref (lo + 45)]) (rest := []) hx hb hml hown hts (c_La_sign l hlT G lo hC (by omega) (by omega) ho ((((xs (4 * i + 1)).toInt64) <<< ((32 : Int32).toInt64 &&& 63)) ||| (((xs (4 * i + 2)).toInt64) &&& ((4294967295 : Int64)))) (xs (4 * i + 3))) w_co_La_sign w_it_La w_ml_La_62 w_st_La_sign (by decide +kernel) rfl rfl ⟨(Nat.le_of_ble_eq_true rfl), (Nat.le_of_ble_eq_true rfl)⟩ (v_preS hK hV rfl hz) rfl hl.1 rfl (Nat.le_of_ble_eq_true rfl) d_La_law_142 ⟨by rw [hRc]; omega, by rw [hRs]; omega⟩ hV (fun r9 V1 H locs hp hV hle => ?_)
            obtain ⟨rfl, f9, ho1, hf9, hC1, hfr, hsz9⟩ := hp
            have hM1 : mS G V1 (lo + 32) th Q B S L t n wr F PB := hM.eq (fun a h1 h2 => hfr a (by omega) (by omega) (by omega))
            refine W.eq (g2 := F0 m 145 ls [.int (thI (sgnR n (xs (4 * i + 3))))]) rfl ?_
            refine lv_istore (lv' := [(5, .int (thI (sgnR n (xs (4 * i + 3))))), (4, .int (nI (4 * i))), (0, .ref b), (1, .ref lo), (2, .ref (lo + 32)), (3, .ref (lo + 45))]) hx hb d_La_law_145 hl (by decide) rfl (fun ls hl => ?_)
            refine lv_aload_n hx hb d_La_law_147 rfl (lv_at hl 4 rfl) ?_
            refine lv_aload_n hx hb d_La_law_148 rfl (lv_at hl 2 rfl) ?_
            refine lv_iload hx hb d_La_law_149 (lv_at hl 1 rfl) ?_
            refine lv_iconst (v := 1) hx hb d_La_law_151 (by decide) ?_
            refine e_iadd (v := nI (4 * i + 1)) hx hb d_La_law_152 (nI_add (4 * i) 1) ?_
            refine va_sld hx hb hX hbl hbA hV.2.1 (i := nI (4 * i + 1)) (nI_in (by omega) (by omega)) d_La_law_153 ?_
            refine W.eq (g2 := F0 m 154 ls [.int (xs (4 * i + 1)), .ref (lo + 32)]) (by rw [nI_clamp (by omega)]) ?_
            refine lv_i2l (v := (xs (4 * i + 1)).toInt64) hx hb d_La_law_154 (rfl) ?_
            refine lv_bipush (v := 32) hx hb d_La_law_155 (by decide) ?_
            refine lv_lshl (v := ((xs (4 * i + 1)).toInt64) <<< ((32 : Int32).toInt64 &&& 63)) hx hb d_La_law_157 (rfl) ?_
            refine lv_aload_n hx hb d_La_law_158 rfl (lv_at hl 2 rfl) ?_
            refine lv_iload hx hb d_La_law_159 (lv_at hl 1 rfl) ?_
            refine lv_iconst (v := 2) hx hb d_La_law_161 (by decide) ?_
            refine e_iadd (v := nI (4 * i + 2)) hx hb d_La_law_162 (nI_add (4 * i) 2) ?_
            refine va_sld hx hb hX hbl hbA hV.2.1 (i := nI (4 * i + 2)) (nI_in (by omega) (by omega)) d_La_law_163 ?_
            refine W.eq (g2 := F0 m 164 ls [.int (xs (4 * i + 2)), .long (((xs (4 * i + 1)).toInt64) <<< ((32 : Int32).toInt64 &&& 63)), .ref (lo + 32)]) (by rw [nI_clamp (by omega)]) ?_
            refine lv_i2l (v := (xs (4 * i + 2)).toInt64) hx hb d_La_law_164 (rfl) ?_
            refine lv_ldc2 hx hb hown (hts _ w_cL_La_60) d_La_law_165 ?_
            refine e_land (v := ((xs (4 * i + 2)).toInt64) &&& ((4294967295 : Int64))) hx hb d_La_law_168 (rfl) ?_
            refine e_lor (v := (((xs (4 * i + 1)).toInt64) <<< ((32 : Int32).toInt64 &&& 63)) ||| (((xs (4 * i + 2)).toInt64) &&& ((4294967295 : Int64)))) hx hb d_La_law_169 (rfl) ?_
            refine lv_aload_n hx hb d_La_law_170 rfl (lv_at hl 2 rfl) ?_
            refine lv_iload hx hb d_La_law_171 (lv_at hl 1 rfl) ?_
            refine lv_iconst (v := 3) hx hb d_La_law_173 (by decide) ?_
            refine e_iadd (v := nI (4 * i + 3)) hx hb d_La_law_174 (nI_add (4 * i) 3) ?_
            refine va_sld hx hb hX hbl hbA hV.2.1 (i := nI (4 * i + 3)) (nI_in (by omega) (by omega)) d_La_law_175 ?_
            refine W.eq (g2 := F0 m 176 ls [.int (xs (4 * i + 3)), .long ((((xs (4 * i + 1)).toInt64) <<< ((32 : Int32).toInt64 &&& 63)) ||| (((xs (4 * i + 2)).toInt64) &&& ((4294967295 : Int64)))), .ref (lo + 32)]) (by rw [nI_clamp (by omega)]) ?_
            obtain ⟨fy, hy0⟩ := hM1.at
            refine v_call (va_runV (As := [.long ((((xs (4 * i + 1)).toInt64) <<< ((32 : Int32).toInt64 &&& 63)) ||| (((xs (4 * i + 2)).toInt64) &&& ((4294967295 : Int64)))), .int (xs (4 * i + 3))]) (rest := []) ⟨hx, hb, hml, hown, hts⟩ (k_Mo_sign l G lo hM1 _ ((((xs (4 * i + 1)).toInt64) <<< ((32 : Int32).toInt64 &&& 63)) ||| (((xs (4 * i + 2)).toInt64) &&& ((4294967295 : Int64)))) (xs (4 * i + 3))) (kwV 2 hts w_co_Mo_sign rfl rfl w_it_Mo w_ml_La_67 w_im_Mo_sign w_se_Mo__Mo_sign (by decide +kernel) ⟨(Nat.le_of_ble_eq_true rfl), (Nat.le_of_ble_eq_true rfl)⟩) (v_preV hK hV rfl rfl hy0 rfl) rfl rfl hl.1 rfl (lv_room (Nat.le_of_ble_eq_true rfl)) d_La_law_176 ⟨by rw [hRc]; omega, by rw [hRs]; omega⟩) hV (fun r9 V2 H2 locs hp hV hle => ?_)
            obtain ⟨rfl, ⟨hM2, hfr2⟩, hz2⟩ := hp
            have hC2 : cS G V2 lo (lo + 46) H2.size Q B S L (tpT ((((xs (4 * i + 1)).toInt64) <<< ((32 : Int32).toInt64 &&& 63)) ||| (((xs (4 * i + 2)).toInt64) &&& ((4294967295 : Int64)))) t n (sgnR n (xs (4 * i + 3)))) (tpS n (sgnR n (xs (4 * i + 3)))) wr F PB := by rw [hz2]; exact hC1.eq (fun a h1 h2 => hfr2 a (by omega)) (fun a h1 h2 => hfr2 a (by omega))
            have ho2 : V2 (lo + 45) = some (eL (gL G) 1 f9) := (hfr2 _ (by omega)).trans ho1
            refine W.eq (g2 := F0 m 179 ls [.int (vaS (sgnR n (xs (4 * i + 3))))]) rfl ?_
            refine lv_istore (lv' := [(6, .int (vaS (sgnR n (xs (4 * i + 3))))), (5, .int (thI (sgnR n (xs (4 * i + 3))))), (4, .int (nI (4 * i))), (0, .ref b), (1, .ref lo), (2, .ref (lo + 32)), (3, .ref (lo + 45))]) hx hb d_La_law_179 hl (by decide) rfl (fun ls hl => ?_)
            refine lv_aload_n hx hb d_La_law_181 rfl (lv_at hl 5 rfl) ?_
            obtain ⟨fz, hz0⟩ := hM2.at
            refine v_call (va_runV (As := []) (rest := []) ⟨hx, hb, hml, hown, hts⟩ (k_Mo_thrown l G lo hM2 _) (kwV 0 hts w_co_Mo_thrown rfl rfl w_it_Mo w_ml_La_68 w_im_Mo_thrown w_se_Mo__Mo_thrown (by decide +kernel) ⟨(Nat.le_of_ble_eq_true rfl), (Nat.le_of_ble_eq_true rfl)⟩) (v_preV hK hV rfl rfl hz0 rfl) rfl rfl hl.1 rfl (lv_room (Nat.le_of_ble_eq_true rfl)) d_La_law_182 ⟨by rw [hRc]; omega, by rw [hRs]; omega⟩) hV (fun r9 V3 H3 locs hp hV hle => ?_)
            obtain ⟨rfl, hv3, hz3⟩ := hp
            rw [hv3] at hV
            have hC3 : cS G V2 lo (lo + 46) H3.size Q B S L (tpT ((((xs (4 * i + 1)).toInt64) <<< ((32 : Int32).toInt64 &&& 63)) ||| (((xs (4 * i + 2)).toInt64) &&& ((4294967295 : Int64)))) t n (sgnR n (xs (4 * i + 3)))) (tpS n (sgnR n (xs (4 * i + 3)))) wr F PB := by rw [hz3]; exact hC2
            refine W.eq (g2 := F0 m 185 ls [.int (thI (sgnR n (xs (4 * i + 3))))]) rfl ?_
            refine lv_iload hx hb d_La_law_185 (lv_at hl 1 rfl) ?_
            refine lv_icmp_eq (tgt := 192) hx hb d_La_law_187 (by decide) (fun c_2 => ?_) (fun c_2 => absurd (rfl) c_2)
            refine lv_iload hx hb d_La_law_192 (lv_at hl 1 rfl) ?_
            refine lv_if_ne (tgt := 209) hx hb d_La_law_194 (by decide) (fun c_3 => ?_) (fun c_3 => ?_)
            · refine lv_goto (tgt := 947) hx hb d_La_law_209 (by decide) ?_
              refine lv_iinc (v := nI (4 * (i + 1))) (lv' := [(4, .int (nI (4 * (i + 1)))), (6, .int (vaS (sgnR n (xs (4 * i + 3))))), (5, .int (thI (sgnR n (xs (4 * i + 3))))), (0, .ref b), (1, .ref lo), (2, .ref (lo + 32)), (3, .ref (lo + 45))]) hx hb d_La_law_947 hl (k := 2) rfl (nI_add (4 * i) 4) (by decide) rfl (fun ls hl => ?_)
              refine lv_goto (tgt := 23) hx hb d_La_law_950 (by decide) ?_
              have hsg : tpS n (sgnR n (xs (4 * i + 3))) ≤ n + 8 := tpS_le (xs (4 * i + 3)) hN4.2
              exact ih (i + 1) V2 _ Q B S L (tpT ((((xs (4 * i + 1)).toInt64) <<< ((32 : Int32).toInt64 &&& 63)) ||| (((xs (4 * i + 2)).toInt64) &&& ((4294967295 : Int64)))) t n (sgnR n (xs (4 * i + 3)))) (tpS n (sgnR n (xs (4 * i + 3)))) wr F PB f9 H3.size _ _ (by omega) (by omega) (by omega) (by omega) hC3 hM2 ho2 H3 locs ls rfl hV (lv_sub hl [0, 3, 4, 5, 6] rfl)
            · refine lv_aload_n hx hb d_La_law_197 rfl (lv_at hl 6 rfl) ?_
              refine lv_iconst (v := 0) hx hb d_La_law_198 (by decide) ?_
              have hV4 : vS G.1 cls lo s H3 locs (vU V2 [(lo + 45, eL (gL G) 1 f9)]) := by rw [vU_all (W := V2) (ds := [(lo + 45, eL (gL G) 1 f9)]) (fun z hz => by rw [List.mem_singleton.mp hz]; exact ho2)]; exact hV
              refine u_laldN (j := 0) hx hb hK hV4 (show [lo + 45].Nodup by simp) 0 rfl (by decide) (by decide) d_La_law_199 ?_
              refine W.eq (g2 := F0 m 200 ls [.long ((vaS (sgnR n (xs (4 * i + 3)))).toInt64)]) (by rw [hf9 c_3]) ?_
              refine lv_iload hx hb d_La_law_200 (lv_at hl 0 rfl) ?_
              refine lv_i2l (v := (vaS (sgnR n (xs (4 * i + 3)))).toInt64) hx hb d_La_law_202 (rfl) ?_
              refine W.lcmp hx hb d_La_law_203 ?_
              refine lv_if_eq (tgt := 209) hx hb d_La_law_204 (by decide) (fun c_4 => ?_) (fun c_4 => absurd ((lg_cmp_eq _ _).mpr rfl) c_4)
              refine lv_goto (tgt := 947) hx hb d_La_law_209 (by decide) ?_
              refine lv_iinc (v := nI (4 * (i + 1))) (lv' := [(4, .int (nI (4 * (i + 1)))), (6, .int (vaS (sgnR n (xs (4 * i + 3))))), (5, .int (thI (sgnR n (xs (4 * i + 3))))), (0, .ref b), (1, .ref lo), (2, .ref (lo + 32)), (3, .ref (lo + 45))]) hx hb d_La_law_947 hl (k := 2) rfl (nI_add (4 * i) 4) (by decide) rfl (fun ls hl => ?_)
              refine lv_goto (tgt := 23) hx hb d_La_law_950 (by decide) ?_
              have hsg : tpS n (sgnR n (xs (4 * i + 3))) ≤ n + 8 := tpS_le (xs (4 * i + 3)) hN4.2
              exact ih (i + 1) V2 _ Q B S L (tpT ((((xs (4 * i + 1)).toInt64) <<< ((32 : Int32).toInt64 &&& 63)) ||| (((xs (4 * i + 2)).toInt64) &&& ((4294967295 : Int64)))) t n (sgnR n (xs (4 * i + 3)))) (tpS n (sgnR n (xs (4 * i + 3)))) wr F PB f9 H3.size _ _ (by omega) (by omega) (by omega) (by omega) hC3 hM2 ho2 H3 locs ls rfl hV (lv_sub hl [0, 3, 4, 5, 6] rfl)
          · refine lv_tableIn (tgt := 212) (off := 173) hx hb d_La_law_39 (by decide) (by decide) (by decide) (by decide) ?_
            refine lv_aload_n hx hb d_La_law_212 rfl (lv_at hl 2 rfl) ?_
            refine lv_aload_n hx hb d_La_law_213 rfl (lv_at hl 4 rfl) ?_
            refine x_callSW (n := 2) (As := [.ref lo, .ref (lo + 45)]) (rest := []) hx hb hml hown hts (c_La_read l hlT G lo hC (by omega) (by omega) ho ) w_co_La_read w_it_La w_ml_La_71 w_st_La_read (by decide +kernel) rfl rfl ⟨(Nat.le_of_ble_eq_true rfl), (Nat.le_of_ble_eq_true rfl)⟩ (v_preS hK hV rfl hz) rfl hl.1 rfl (Nat.le_of_ble_eq_true rfl) d_La_law_214 ⟨by rw [hRc]; omega, by rw [hRs]; omega⟩ hV (fun r9 V1 H locs hp hV hle => ?_)
            obtain ⟨rfl, f9, ho1, hf9, hC1, hfr, hsz9⟩ := hp
            have hM1 : mS G V1 (lo + 32) th Q B S L t n wr F PB := hM.eq (fun a h1 h2 => hfr a (by omega) (by omega) (by omega))
            refine W.eq (g2 := F0 m 217 ls [.int (thI (rdR t n (Q, B, S, L)))]) rfl ?_
            refine lv_istore (lv' := [(5, .int (thI (rdR t n (Q, B, S, L)))), (4, .int (nI (4 * i))), (0, .ref b), (1, .ref lo), (2, .ref (lo + 32)), (3, .ref (lo + 45))]) hx hb d_La_law_217 hl (by decide) rfl (fun ls hl => ?_)
            refine lv_aload_n hx hb d_La_law_219 rfl (lv_at hl 4 rfl) ?_
            obtain ⟨fy, hy0⟩ := hM1.at
            refine v_call (va_runV (As := []) (rest := []) ⟨hx, hb, hml, hown, hts⟩ (k_Mo_read l G lo hM1 _ ) (kwV 0 hts w_co_Mo_read rfl rfl w_it_Mo w_ml_La_74 w_im_Mo_read w_se_Mo__Mo_read (by decide +kernel) ⟨(Nat.le_of_ble_eq_true rfl), (Nat.le_of_ble_eq_true rfl)⟩) (v_preV hK hV rfl rfl hy0 rfl) rfl rfl hl.1 rfl (lv_room (Nat.le_of_ble_eq_true rfl)) d_La_law_220 ⟨by rw [hRc]; omega, by rw [hRs]; omega⟩) hV (fun r9 V2 H2 locs hp hV hle => ?_)
            obtain ⟨rfl, ⟨hM2, hfr2⟩, hz2⟩ := hp
            have hC2 : cS G V2 lo (lo + 46) H2.size (rdA (Q, B, S, L) (rdR t n (Q, B, S, L))).1 (rdA (Q, B, S, L) (rdR t n (Q, B, S, L))).2.1 (rdA (Q, B, S, L) (rdR t n (Q, B, S, L))).2.2.1 (rdA (Q, B, S, L) (rdR t n (Q, B, S, L))).2.2.2 t 0 (wI (txtR t n (Q, B, S, L))) F PB := by rw [hz2]; exact hC1.eq (fun a h1 h2 => hfr2 a (by omega)) (fun a h1 h2 => hfr2 a (by omega))
            have ho2 : V2 (lo + 45) = some (eL (gL G) 1 f9) := (hfr2 _ (by omega)).trans ho1
            refine W.eq (g2 := F0 m 223 ls [.int (vaT (rdR t n (Q, B, S, L)))]) rfl ?_
            refine lv_istore (lv' := [(6, .int (vaT (rdR t n (Q, B, S, L)))), (5, .int (thI (rdR t n (Q, B, S, L)))), (4, .int (nI (4 * i))), (0, .ref b), (1, .ref lo), (2, .ref (lo + 32)), (3, .ref (lo + 45))]) hx hb d_La_law_223 hl (by decide) rfl (fun ls hl => ?_)
            refine lv_aload_n hx hb d_La_law_225 rfl (lv_at hl 5 rfl) ?_
            obtain ⟨fz, hz0⟩ := hM2.at
            refine v_call (va_runV (As := []) (rest := []) ⟨hx, hb, hml, hown, hts⟩ (k_Mo_thrown l G lo hM2 _) (kwV 0 hts w_co_Mo_thrown rfl rfl w_it_Mo w_ml_La_68 w_im_Mo_thrown w_se_Mo__Mo_thrown (by decide +kernel) ⟨(Nat.le_of_ble_eq_true rfl), (Nat.le_of_ble_eq_true rfl)⟩) (v_preV hK hV rfl rfl hz0 rfl) rfl rfl hl.1 rfl (lv_room (Nat.le_of_ble_eq_true rfl)) d_La_law_226 ⟨by rw [hRc]; omega, by rw [hRs]; omega⟩) hV (fun r9 V3 H3 locs hp hV hle => ?_)
            obtain ⟨rfl, hv3, hz3⟩ := hp
            rw [hv3] at hV
            have hC3 : cS G V2 lo (lo + 46) H3.size (rdA (Q, B, S, L) (rdR t n (Q, B, S, L))).1 (rdA (Q, B, S, L) (rdR t n (Q, B, S, L))).2.1 (rdA (Q, B, S, L) (rdR t n (Q, B, S, L))).2.2.1 (rdA (Q, B, S, L) (rdR t n (Q, B, S, L))).2.2.2 t 0 (wI (txtR t n (Q, B, S, L))) F PB := by rw [hz3]; exact hC2
            refine W.eq (g2 := F0 m 229 ls [.int (thI (rdR t n (Q, B, S, L)))]) rfl ?_
            refine lv_iload hx hb d_La_law_229 (lv_at hl 1 rfl) ?_
            refine lv_icmp_eq (tgt := 236) hx hb d_La_law_231 (by decide) (fun c_5 => ?_) (fun c_5 => absurd (rfl) c_5)
            refine lv_iload hx hb d_La_law_236 (lv_at hl 1 rfl) ?_
            refine lv_if_ne (tgt := 253) hx hb d_La_law_238 (by decide) (fun c_6 => ?_) (fun c_6 => ?_)
            · refine lv_goto (tgt := 947) hx hb d_La_law_253 (by decide) ?_
              refine lv_iinc (v := nI (4 * (i + 1))) (lv' := [(4, .int (nI (4 * (i + 1)))), (6, .int (vaT (rdR t n (Q, B, S, L)))), (5, .int (thI (rdR t n (Q, B, S, L)))), (0, .ref b), (1, .ref lo), (2, .ref (lo + 32)), (3, .ref (lo + 45))]) hx hb d_La_law_947 hl (k := 2) rfl (nI_add (4 * i) 4) (by decide) rfl (fun ls hl => ?_)
              refine lv_goto (tgt := 23) hx hb d_La_law_950 (by decide) ?_
              exact ih (i + 1) V2 _ (rdA (Q, B, S, L) (rdR t n (Q, B, S, L))).1 (rdA (Q, B, S, L) (rdR t n (Q, B, S, L))).2.1 (rdA (Q, B, S, L) (rdR t n (Q, B, S, L))).2.2.1 (rdA (Q, B, S, L) (rdR t n (Q, B, S, L))).2.2.2 t 0 (wI (txtR t n (Q, B, S, L))) F PB f9 H3.size _ _ (by omega) (by omega) (by omega) (by omega) hC3 hM2 ho2 H3 locs ls rfl hV (lv_sub hl [0, 3, 4, 5, 6] rfl)
            · refine lv_aload_n hx hb d_La_law_241 rfl (lv_at hl 6 rfl) ?_
              refine lv_iconst (v := 0) hx hb d_La_law_242 (by decide) ?_
              have hV4 : vS G.1 cls lo s H3 locs (vU V2 [(lo + 45, eL (gL G) 1 f9)]) := by rw [vU_all (W := V2) (ds := [(lo + 45, eL (gL G) 1 f9)]) (fun z hz => by rw [List.mem_singleton.mp hz]; exact ho2)]; exact hV
              refine u_laldN (j := 0) hx hb hK hV4 (show [lo + 45].Nodup by simp) 0 rfl (by decide) (by decide) d_La_law_243 ?_
              refine W.eq (g2 := F0 m 244 ls [.long ((vaT (rdR t n (Q, B, S, L))).toInt64)]) (by rw [hf9 c_6]) ?_
              refine lv_iload hx hb d_La_law_244 (lv_at hl 0 rfl) ?_
              refine lv_i2l (v := (vaT (rdR t n (Q, B, S, L))).toInt64) hx hb d_La_law_246 (rfl) ?_
              refine W.lcmp hx hb d_La_law_247 ?_
              refine lv_if_eq (tgt := 253) hx hb d_La_law_248 (by decide) (fun c_7 => ?_) (fun c_7 => absurd ((lg_cmp_eq _ _).mpr rfl) c_7)
              refine lv_goto (tgt := 947) hx hb d_La_law_253 (by decide) ?_
              refine lv_iinc (v := nI (4 * (i + 1))) (lv' := [(4, .int (nI (4 * (i + 1)))), (6, .int (vaT (rdR t n (Q, B, S, L)))), (5, .int (thI (rdR t n (Q, B, S, L)))), (0, .ref b), (1, .ref lo), (2, .ref (lo + 32)), (3, .ref (lo + 45))]) hx hb d_La_law_947 hl (k := 2) rfl (nI_add (4 * i) 4) (by decide) rfl (fun ls hl => ?_)
              refine lv_goto (tgt := 23) hx hb d_La_law_950 (by decide) ?_
              exact ih (i + 1) V2 _ (rdA (Q, B, S, L) (rdR t n (Q, B, S, L))).1 (rdA (Q, B, S, L) (rdR t n (Q, B, S, L))).2.1 (rdA (Q, B, S, L) (rdR t n (Q, B, S, L))).2.2.1 (rdA (Q, B, S, L) (rdR t n (Q, B, S, L))).2.2.2 t 0 (wI (txtR t n (Q, B, S, L))) F PB f9 H3.size _ _ (by omega) (by omega) (by omega) (by omega) hC3 hM2 ho2 H3 locs ls rfl hV (lv_sub hl [0, 3, 4, 5, 6] rfl)
          · refine lv_tableIn (tgt := 256) (off := 217) hx hb d_La_law_39 (by decide) (by decide) (by decide) (by decide) ?_
            refine lv_aload_n hx hb d_La_law_256 rfl (lv_at hl 2 rfl) ?_
            refine v_call (va_runV (As := []) (rest := []) ⟨hx, hb, hml, hown, hts⟩ (k_SG_place l G lo hC) (kwV 0 hts w_co_SG_place rfl rfl w_it_SG w_ml_La_75 w_im_SG_place w_se_SG__SG_place (by decide +kernel) ⟨(Nat.le_of_ble_eq_true rfl), (Nat.le_of_ble_eq_true rfl)⟩) (v_preV hK hV rfl hz hx0 rfl) rfl rfl hl.1 rfl (lv_room (Nat.le_of_ble_eq_true rfl)) d_La_law_257 ⟨by rw [hRc]; omega, by rw [hRs]; omega⟩) hV (fun r9 V1 H locs hp hV hle => ?_)
            obtain ⟨rfl, ⟨hC1, hfr, hsz9⟩, hz1⟩ := hp
            have hM1 : mS G V1 (lo + 32) th Q B S L t n wr F PB := hM.eq (fun a h1 h2 => hfr a (by omega) (by omega))
            have ho1 : V1 (lo + 45) = some (eL (gL G) 1 fo) := (hfr _ (by omega) (by omega)).trans ho
            refine W.eq (g2 := F0 m 260 ls [.int wr]) rfl ?_
            refine lv_aload_n hx hb d_La_law_260 rfl (lv_at hl 3 rfl) ?_
            obtain ⟨fy, hy0⟩ := hM1.at
            refine v_call (va_runV (As := []) (rest := [.int wr]) ⟨hx, hb, hml, hown, hts⟩ (k_Mo_place l G lo hM1 _ ) (kwV 0 hts w_co_Mo_place rfl rfl w_it_Mo w_ml_La_78 w_im_Mo_place w_se_Mo__Mo_place (by decide +kernel) ⟨(Nat.le_of_ble_eq_true rfl), (Nat.le_of_ble_eq_true rfl)⟩) (v_preV hK hV rfl rfl hy0 rfl) rfl rfl hl.1 rfl (lv_room (Nat.le_of_ble_eq_true rfl)) d_La_law_261 ⟨by rw [hRc]; omega, by rw [hRs]; omega⟩) hV (fun r9 V2 H2 locs hp hV hle => ?_)
            obtain ⟨rfl, ⟨hM2, hfr2⟩, hz2⟩ := hp
            have hC2 : cS G V2 lo (lo + 46) H2.size Q B S L t n wr F PB := by rw [hz2]; exact hC1.eq (fun a h1 h2 => hfr2 a (by omega)) (fun a h1 h2 => hfr2 a (by omega))
            have ho2 : V2 (lo + 45) = some (eL (gL G) 1 fo) := (hfr2 _ (by omega)).trans ho1
            refine W.eq (g2 := F0 m 264 ls [.int wr, .int wr]) rfl ?_
            refine lv_icmp_eq (tgt := 947) hx hb d_La_law_264 (by decide) (fun c_8 => ?_) (fun c_8 => absurd (rfl) c_8)
            refine lv_iinc (v := nI (4 * (i + 1))) (lv' := [(4, .int (nI (4 * (i + 1)))), (0, .ref b), (1, .ref lo), (2, .ref (lo + 32)), (3, .ref (lo + 45))]) hx hb d_La_law_947 hl (k := 0) rfl (nI_add (4 * i) 4) (by decide) rfl (fun ls hl => ?_)
            refine lv_goto (tgt := 23) hx hb d_La_law_950 (by decide) ?_
            exact ih (i + 1) V2 _ Q B S L t n wr F PB fo H2.size _ _ (by omega) (by omega) (by omega) (by omega) hC2 hM2 ho2 H2 locs ls rfl hV (lv_sub hl [0, 1, 2, 3, 4] rfl)
          · refine lv_tableIn (tgt := 269) (off := 230) hx hb d_La_law_39 (by decide) (by decide) (by decide) (by decide) ?_
            refine lv_aload_n hx hb d_La_law_269 rfl (lv_at hl 2 rfl) ?_
            refine lv_aload_n hx hb d_La_law_270 rfl (lv_at hl 1 rfl) ?_
            refine lv_iload hx hb d_La_law_271 (lv_at hl 0 rfl) ?_
            refine lv_iconst (v := 1) hx hb d_La_law_273 (by decide) ?_
            refine e_iadd (v := nI (4 * i + 1)) hx hb d_La_law_274 (nI_add (4 * i) 1) ?_
            refine va_sld hx hb hX hbl hbA hV.2.1 (i := nI (4 * i + 1)) (nI_in (by omega) (by omega)) d_La_law_275 ?_
            refine W.eq (g2 := F0 m 276 ls [.int (xs (4 * i + 1)), .ref lo]) (by rw [nI_clamp (by omega)]) ?_
            refine lv_aload_n hx hb d_La_law_276 rfl (lv_at hl 1 rfl) ?_
            refine lv_iload hx hb d_La_law_277 (lv_at hl 0 rfl) ?_
            refine lv_iconst (v := 2) hx hb d_La_law_279 (by decide) ?_
            refine e_iadd (v := nI (4 * i + 2)) hx hb d_La_law_280 (nI_add (4 * i) 2) ?_
            refine va_sld hx hb hX hbl hbA hV.2.1 (i := nI (4 * i + 2)) (nI_in (by omega) (by omega)) d_La_law_281 ?_
            refine W.eq (g2 := F0 m 282 ls [.int (xs (4 * i + 2)), .int (xs (4 * i + 1)), .ref lo]) (by rw [nI_clamp (by omega)]) ?_
            refine lv_aload_n hx hb d_La_law_282 rfl (lv_at hl 4 rfl) ?_
            refine x_callSW (n := 4) (As := [.ref lo, .int (xs (4 * i + 1)), .int (xs (4 * i + 2)), .ref (lo + 45)]) (rest := []) hx hb hml hown hts (c_La_piece l hlT G lo hC (by omega) (by omega) ho (xs (4 * i + 1)) (xs (4 * i + 2))) w_co_La_piece w_it_La w_ml_La_79 w_st_La_piece (by decide +kernel) rfl rfl ⟨(Nat.le_of_ble_eq_true rfl), (Nat.le_of_ble_eq_true rfl)⟩ (v_preS hK hV rfl hz) rfl hl.1 rfl (Nat.le_of_ble_eq_true rfl) d_La_law_283 ⟨by rw [hRc]; omega, by rw [hRs]; omega⟩ hV (fun r9 V1 H locs hp hV hle => ?_)
            obtain ⟨rfl, f9, ho1, hf9, hC1, hfr, hsz9⟩ := hp
            have hM1 : mS G V1 (lo + 32) th Q B S L t n wr F PB := hM.eq (fun a h1 h2 => hfr a (by omega) (by omega) (by omega))
            refine W.eq (g2 := F0 m 286 ls [.int (thI (pieR Q (xs (4 * i + 1)) (xs (4 * i + 2))))]) rfl ?_
            refine lv_istore (lv' := [(5, .int (thI (pieR Q (xs (4 * i + 1)) (xs (4 * i + 2))))), (4, .int (nI (4 * i))), (0, .ref b), (1, .ref lo), (2, .ref (lo + 32)), (3, .ref (lo + 45))]) hx hb d_La_law_286 hl (by decide) rfl (fun ls hl => ?_)
            refine lv_aload_n hx hb d_La_law_288 rfl (lv_at hl 4 rfl) ?_
            refine lv_aload_n hx hb d_La_law_289 rfl (lv_at hl 2 rfl) ?_
            refine lv_iload hx hb d_La_law_290 (lv_at hl 1 rfl) ?_
            refine lv_iconst (v := 1) hx hb d_La_law_292 (by decide) ?_
            refine e_iadd (v := nI (4 * i + 1)) hx hb d_La_law_293 (nI_add (4 * i) 1) ?_
            refine va_sld hx hb hX hbl hbA hV.2.1 (i := nI (4 * i + 1)) (nI_in (by omega) (by omega)) d_La_law_294 ?_
            refine W.eq (g2 := F0 m 295 ls [.int (xs (4 * i + 1)), .ref (lo + 32)]) (by rw [nI_clamp (by omega)]) ?_
            refine lv_aload_n hx hb d_La_law_295 rfl (lv_at hl 2 rfl) ?_
            refine lv_iload hx hb d_La_law_296 (lv_at hl 1 rfl) ?_
            refine lv_iconst (v := 2) hx hb d_La_law_298 (by decide) ?_
            refine e_iadd (v := nI (4 * i + 2)) hx hb d_La_law_299 (nI_add (4 * i) 2) ?_
            refine va_sld hx hb hX hbl hbA hV.2.1 (i := nI (4 * i + 2)) (nI_in (by omega) (by omega)) d_La_law_300 ?_
            refine W.eq (g2 := F0 m 301 ls [.int (xs (4 * i + 2)), .int (xs (4 * i + 1)), .ref (lo + 32)]) (by rw [nI_clamp (by omega)]) ?_
            obtain ⟨fy, hy0⟩ := hM1.at
            refine v_call (va_runV (As := [.int (xs (4 * i + 1)), .int (xs (4 * i + 2))]) (rest := []) ⟨hx, hb, hml, hown, hts⟩ (k_Mo_piece l G lo hM1 _ (xs (4 * i + 1)) (xs (4 * i + 2))) (kwV 2 hts w_co_Mo_piece rfl rfl w_it_Mo w_ml_La_82 w_im_Mo_piece w_se_Mo__Mo_piece (by decide +kernel) ⟨(Nat.le_of_ble_eq_true rfl), (Nat.le_of_ble_eq_true rfl)⟩) (v_preV hK hV rfl rfl hy0 rfl) rfl rfl hl.1 rfl (lv_room (Nat.le_of_ble_eq_true rfl)) d_La_law_301 ⟨by rw [hRc]; omega, by rw [hRs]; omega⟩) hV (fun r9 V2 H2 locs hp hV hle => ?_)
            obtain ⟨rfl, ⟨hM2, hfr2⟩, hz2⟩ := hp
            have hC2 : cS G V2 lo (lo + 46) H2.size Q B S L t n wr F PB := by rw [hz2]; exact hC1.eq (fun a h1 h2 => hfr2 a (by omega)) (fun a h1 h2 => hfr2 a (by omega))
            have ho2 : V2 (lo + 45) = some (eL (gL G) 1 f9) := (hfr2 _ (by omega)).trans ho1
            refine W.eq (g2 := F0 m 304 ls [.int (vaI (pieR Q (xs (4 * i + 1)) (xs (4 * i + 2))))]) rfl ?_
            refine lv_istore (lv' := [(6, .int (vaI (pieR Q (xs (4 * i + 1)) (xs (4 * i + 2))))), (5, .int (thI (pieR Q (xs (4 * i + 1)) (xs (4 * i + 2))))), (4, .int (nI (4 * i))), (0, .ref b), (1, .ref lo), (2, .ref (lo + 32)), (3, .ref (lo + 45))]) hx hb d_La_law_304 hl (by decide) rfl (fun ls hl => ?_)
            refine lv_aload_n hx hb d_La_law_306 rfl (lv_at hl 5 rfl) ?_
            obtain ⟨fz, hz0⟩ := hM2.at
            refine v_call (va_runV (As := []) (rest := []) ⟨hx, hb, hml, hown, hts⟩ (k_Mo_thrown l G lo hM2 _) (kwV 0 hts w_co_Mo_thrown rfl rfl w_it_Mo w_ml_La_68 w_im_Mo_thrown w_se_Mo__Mo_thrown (by decide +kernel) ⟨(Nat.le_of_ble_eq_true rfl), (Nat.le_of_ble_eq_true rfl)⟩) (v_preV hK hV rfl rfl hz0 rfl) rfl rfl hl.1 rfl (lv_room (Nat.le_of_ble_eq_true rfl)) d_La_law_307 ⟨by rw [hRc]; omega, by rw [hRs]; omega⟩) hV (fun r9 V3 H3 locs hp hV hle => ?_)
            obtain ⟨rfl, hv3, hz3⟩ := hp
            rw [hv3] at hV
            have hC3 : cS G V2 lo (lo + 46) H3.size Q B S L t n wr F PB := by rw [hz3]; exact hC2
            refine W.eq (g2 := F0 m 310 ls [.int (thI (pieR Q (xs (4 * i + 1)) (xs (4 * i + 2))))]) rfl ?_
            refine lv_iload hx hb d_La_law_310 (lv_at hl 1 rfl) ?_
            refine lv_icmp_eq (tgt := 317) hx hb d_La_law_312 (by decide) (fun c_9 => ?_) (fun c_9 => absurd (rfl) c_9)
            refine lv_iload hx hb d_La_law_317 (lv_at hl 1 rfl) ?_
            refine lv_if_ne (tgt := 334) hx hb d_La_law_319 (by decide) (fun c_10 => ?_) (fun c_10 => ?_)
            · refine lv_goto (tgt := 947) hx hb d_La_law_334 (by decide) ?_
              refine lv_iinc (v := nI (4 * (i + 1))) (lv' := [(4, .int (nI (4 * (i + 1)))), (6, .int (vaI (pieR Q (xs (4 * i + 1)) (xs (4 * i + 2))))), (5, .int (thI (pieR Q (xs (4 * i + 1)) (xs (4 * i + 2))))), (0, .ref b), (1, .ref lo), (2, .ref (lo + 32)), (3, .ref (lo + 45))]) hx hb d_La_law_947 hl (k := 2) rfl (nI_add (4 * i) 4) (by decide) rfl (fun ls hl => ?_)
              refine lv_goto (tgt := 23) hx hb d_La_law_950 (by decide) ?_
              exact ih (i + 1) V2 _ Q B S L t n wr F PB f9 H3.size _ _ (by omega) (by omega) (by omega) (by omega) hC3 hM2 ho2 H3 locs ls rfl hV (lv_sub hl [0, 3, 4, 5, 6] rfl)
            · refine lv_aload_n hx hb d_La_law_322 rfl (lv_at hl 6 rfl) ?_
              refine lv_iconst (v := 0) hx hb d_La_law_323 (by decide) ?_
              have hV4 : vS G.1 cls lo s H3 locs (vU V2 [(lo + 45, eL (gL G) 1 f9)]) := by rw [vU_all (W := V2) (ds := [(lo + 45, eL (gL G) 1 f9)]) (fun z hz => by rw [List.mem_singleton.mp hz]; exact ho2)]; exact hV
              refine u_laldN (j := 0) hx hb hK hV4 (show [lo + 45].Nodup by simp) 0 rfl (by decide) (by decide) d_La_law_324 ?_
              refine W.eq (g2 := F0 m 325 ls [.long ((vaI (pieR Q (xs (4 * i + 1)) (xs (4 * i + 2)))).toInt64)]) (by rw [hf9 c_10]) ?_
              refine lv_iload hx hb d_La_law_325 (lv_at hl 0 rfl) ?_
              refine lv_i2l (v := (vaI (pieR Q (xs (4 * i + 1)) (xs (4 * i + 2)))).toInt64) hx hb d_La_law_327 (rfl) ?_
              refine W.lcmp hx hb d_La_law_328 ?_
              refine lv_if_eq (tgt := 334) hx hb d_La_law_329 (by decide) (fun c_11 => ?_) (fun c_11 => absurd ((lg_cmp_eq _ _).mpr rfl) c_11)
              refine lv_goto (tgt := 947) hx hb d_La_law_334 (by decide) ?_
              refine lv_iinc (v := nI (4 * (i + 1))) (lv' := [(4, .int (nI (4 * (i + 1)))), (6, .int (vaI (pieR Q (xs (4 * i + 1)) (xs (4 * i + 2))))), (5, .int (thI (pieR Q (xs (4 * i + 1)) (xs (4 * i + 2))))), (0, .ref b), (1, .ref lo), (2, .ref (lo + 32)), (3, .ref (lo + 45))]) hx hb d_La_law_947 hl (k := 2) rfl (nI_add (4 * i) 4) (by decide) rfl (fun ls hl => ?_)
              refine lv_goto (tgt := 23) hx hb d_La_law_950 (by decide) ?_
              exact ih (i + 1) V2 _ Q B S L t n wr F PB f9 H3.size _ _ (by omega) (by omega) (by omega) (by omega) hC3 hM2 ho2 H3 locs ls rfl hV (lv_sub hl [0, 3, 4, 5, 6] rfl)
          · refine lv_tableIn (tgt := 337) (off := 298) hx hb d_La_law_39 (by decide) (by decide) (by decide) (by decide) ?_
            refine lv_aload_n hx hb d_La_law_337 rfl (lv_at hl 2 rfl) ?_
            refine lv_aload_n hx hb d_La_law_338 rfl (lv_at hl 1 rfl) ?_
            refine lv_iload hx hb d_La_law_339 (lv_at hl 0 rfl) ?_
            refine lv_iconst (v := 1) hx hb d_La_law_341 (by decide) ?_
            refine e_iadd (v := nI (4 * i + 1)) hx hb d_La_law_342 (nI_add (4 * i) 1) ?_
            refine va_sld hx hb hX hbl hbA hV.2.1 (i := nI (4 * i + 1)) (nI_in (by omega) (by omega)) d_La_law_343 ?_
            refine W.eq (g2 := F0 m 344 ls [.int (xs (4 * i + 1)), .ref lo]) (by rw [nI_clamp (by omega)]) ?_
            refine lv_aload_n hx hb d_La_law_344 rfl (lv_at hl 1 rfl) ?_
            refine lv_iload hx hb d_La_law_345 (lv_at hl 0 rfl) ?_
            refine lv_iconst (v := 2) hx hb d_La_law_347 (by decide) ?_
            refine e_iadd (v := nI (4 * i + 2)) hx hb d_La_law_348 (nI_add (4 * i) 2) ?_
            refine va_sld hx hb hX hbl hbA hV.2.1 (i := nI (4 * i + 2)) (nI_in (by omega) (by omega)) d_La_law_349 ?_
            refine W.eq (g2 := F0 m 350 ls [.int (xs (4 * i + 2)), .int (xs (4 * i + 1)), .ref lo]) (by rw [nI_clamp (by omega)]) ?_
            refine lv_aload_n hx hb d_La_law_350 rfl (lv_at hl 4 rfl) ?_
            refine x_callSW (n := 4) (As := [.ref lo, .int (xs (4 * i + 1)), .int (xs (4 * i + 2)), .ref (lo + 45)]) (rest := []) hx hb hml hown hts (c_La_speed l hlT G lo hC (by omega) (by omega) ho (xs (4 * i + 1)) (xs (4 * i + 2))) w_co_La_speed w_it_La w_ml_La_83 w_st_La_speed (by decide +kernel) rfl rfl ⟨(Nat.le_of_ble_eq_true rfl), (Nat.le_of_ble_eq_true rfl)⟩ (v_preS hK hV rfl hz) rfl hl.1 rfl (Nat.le_of_ble_eq_true rfl) d_La_law_351 ⟨by rw [hRc]; omega, by rw [hRs]; omega⟩ hV (fun r9 V1 H locs hp hV hle => ?_)
            obtain ⟨rfl, f9, ho1, hf9, hC1, hfr, hsz9⟩ := hp
            have hM1 : mS G V1 (lo + 32) th Q B S L t n wr F PB := hM.eq (fun a h1 h2 => hfr a (by omega) (by omega) (by omega))
            refine W.eq (g2 := F0 m 354 ls [.int (thI (speR Q (xs (4 * i + 1)) (xs (4 * i + 2))))]) rfl ?_
            refine lv_istore (lv' := [(5, .int (thI (speR Q (xs (4 * i + 1)) (xs (4 * i + 2))))), (4, .int (nI (4 * i))), (0, .ref b), (1, .ref lo), (2, .ref (lo + 32)), (3, .ref (lo + 45))]) hx hb d_La_law_354 hl (by decide) rfl (fun ls hl => ?_)
            refine lv_aload_n hx hb d_La_law_356 rfl (lv_at hl 4 rfl) ?_
            refine lv_aload_n hx hb d_La_law_357 rfl (lv_at hl 2 rfl) ?_
            refine lv_iload hx hb d_La_law_358 (lv_at hl 1 rfl) ?_
            refine lv_iconst (v := 1) hx hb d_La_law_360 (by decide) ?_
            refine e_iadd (v := nI (4 * i + 1)) hx hb d_La_law_361 (nI_add (4 * i) 1) ?_
            refine va_sld hx hb hX hbl hbA hV.2.1 (i := nI (4 * i + 1)) (nI_in (by omega) (by omega)) d_La_law_362 ?_
            refine W.eq (g2 := F0 m 363 ls [.int (xs (4 * i + 1)), .ref (lo + 32)]) (by rw [nI_clamp (by omega)]) ?_
            refine lv_aload_n hx hb d_La_law_363 rfl (lv_at hl 2 rfl) ?_
            refine lv_iload hx hb d_La_law_364 (lv_at hl 1 rfl) ?_
            refine lv_iconst (v := 2) hx hb d_La_law_366 (by decide) ?_
            refine e_iadd (v := nI (4 * i + 2)) hx hb d_La_law_367 (nI_add (4 * i) 2) ?_
            refine va_sld hx hb hX hbl hbA hV.2.1 (i := nI (4 * i + 2)) (nI_in (by omega) (by omega)) d_La_law_368 ?_
            refine W.eq (g2 := F0 m 369 ls [.int (xs (4 * i + 2)), .int (xs (4 * i + 1)), .ref (lo + 32)]) (by rw [nI_clamp (by omega)]) ?_
            obtain ⟨fy, hy0⟩ := hM1.at
            refine v_call (va_runV (As := [.int (xs (4 * i + 1)), .int (xs (4 * i + 2))]) (rest := []) ⟨hx, hb, hml, hown, hts⟩ (k_Mo_speed l G lo hM1 _ (xs (4 * i + 1)) (xs (4 * i + 2))) (kwV 2 hts w_co_Mo_speed rfl rfl w_it_Mo w_ml_La_85 w_im_Mo_speed w_se_Mo__Mo_speed (by decide +kernel) ⟨(Nat.le_of_ble_eq_true rfl), (Nat.le_of_ble_eq_true rfl)⟩) (v_preV hK hV rfl rfl hy0 rfl) rfl rfl hl.1 rfl (lv_room (Nat.le_of_ble_eq_true rfl)) d_La_law_369 ⟨by rw [hRc]; omega, by rw [hRs]; omega⟩) hV (fun r9 V2 H2 locs hp hV hle => ?_)
            obtain ⟨rfl, ⟨hM2, hfr2⟩, hz2⟩ := hp
            have hC2 : cS G V2 lo (lo + 46) H2.size Q B S L t n wr F PB := by rw [hz2]; exact hC1.eq (fun a h1 h2 => hfr2 a (by omega)) (fun a h1 h2 => hfr2 a (by omega))
            have ho2 : V2 (lo + 45) = some (eL (gL G) 1 f9) := (hfr2 _ (by omega)).trans ho1
            refine W.eq (g2 := F0 m 372 ls [.int (vaI (speR Q (xs (4 * i + 1)) (xs (4 * i + 2))))]) rfl ?_
            refine lv_istore (lv' := [(6, .int (vaI (speR Q (xs (4 * i + 1)) (xs (4 * i + 2))))), (5, .int (thI (speR Q (xs (4 * i + 1)) (xs (4 * i + 2))))), (4, .int (nI (4 * i))), (0, .ref b), (1, .ref lo), (2, .ref (lo + 32)), (3, .ref (lo + 45))]) hx hb d_La_law_372 hl (by decide) rfl (fun ls hl => ?_)
            refine lv_aload_n hx hb d_La_law_374 rfl (lv_at hl 5 rfl) ?_
            obtain ⟨fz, hz0⟩ := hM2.at
            refine v_call (va_runV (As := []) (rest := []) ⟨hx, hb, hml, hown, hts⟩ (k_Mo_thrown l G lo hM2 _) (kwV 0 hts w_co_Mo_thrown rfl rfl w_it_Mo w_ml_La_68 w_im_Mo_thrown w_se_Mo__Mo_thrown (by decide +kernel) ⟨(Nat.le_of_ble_eq_true rfl), (Nat.le_of_ble_eq_true rfl)⟩) (v_preV hK hV rfl rfl hz0 rfl) rfl rfl hl.1 rfl (lv_room (Nat.le_of_ble_eq_true rfl)) d_La_law_375 ⟨by rw [hRc]; omega, by rw [hRs]; omega⟩) hV (fun r9 V3 H3 locs hp hV hle => ?_)
            obtain ⟨rfl, hv3, hz3⟩ := hp
            rw [hv3] at hV
            have hC3 : cS G V2 lo (lo + 46) H3.size Q B S L t n wr F PB := by rw [hz3]; exact hC2
            refine W.eq (g2 := F0 m 378 ls [.int (thI (speR Q (xs (4 * i + 1)) (xs (4 * i + 2))))]) rfl ?_
            refine lv_iload hx hb d_La_law_378 (lv_at hl 1 rfl) ?_
            refine lv_icmp_eq (tgt := 385) hx hb d_La_law_380 (by decide) (fun c_12 => ?_) (fun c_12 => absurd (rfl) c_12)
            refine lv_iload hx hb d_La_law_385 (lv_at hl 1 rfl) ?_
            refine lv_if_ne (tgt := 402) hx hb d_La_law_387 (by decide) (fun c_13 => ?_) (fun c_13 => ?_)
            · refine lv_goto (tgt := 947) hx hb d_La_law_402 (by decide) ?_
              refine lv_iinc (v := nI (4 * (i + 1))) (lv' := [(4, .int (nI (4 * (i + 1)))), (6, .int (vaI (speR Q (xs (4 * i + 1)) (xs (4 * i + 2))))), (5, .int (thI (speR Q (xs (4 * i + 1)) (xs (4 * i + 2))))), (0, .ref b), (1, .ref lo), (2, .ref (lo + 32)), (3, .ref (lo + 45))]) hx hb d_La_law_947 hl (k := 2) rfl (nI_add (4 * i) 4) (by decide) rfl (fun ls hl => ?_)
              refine lv_goto (tgt := 23) hx hb d_La_law_950 (by decide) ?_
              exact ih (i + 1) V2 _ Q B S L t n wr F PB f9 H3.size _ _ (by omega) (by omega) (by omega) (by omega) hC3 hM2 ho2 H3 locs ls rfl hV (lv_sub hl [0, 3, 4, 5, 6] rfl)
            · refine lv_aload_n hx hb d_La_law_390 rfl (lv_at hl 6 rfl) ?_
              refine lv_iconst (v := 0) hx hb d_La_law_391 (by decide) ?_
              have hV4 : vS G.1 cls lo s H3 locs (vU V2 [(lo + 45, eL (gL G) 1 f9)]) := by rw [vU_all (W := V2) (ds := [(lo + 45, eL (gL G) 1 f9)]) (fun z hz => by rw [List.mem_singleton.mp hz]; exact ho2)]; exact hV
              refine u_laldN (j := 0) hx hb hK hV4 (show [lo + 45].Nodup by simp) 0 rfl (by decide) (by decide) d_La_law_392 ?_
              refine W.eq (g2 := F0 m 393 ls [.long ((vaI (speR Q (xs (4 * i + 1)) (xs (4 * i + 2)))).toInt64)]) (by rw [hf9 c_13]) ?_
              refine lv_iload hx hb d_La_law_393 (lv_at hl 0 rfl) ?_
              refine lv_i2l (v := (vaI (speR Q (xs (4 * i + 1)) (xs (4 * i + 2)))).toInt64) hx hb d_La_law_395 (rfl) ?_
              refine W.lcmp hx hb d_La_law_396 ?_
              refine lv_if_eq (tgt := 402) hx hb d_La_law_397 (by decide) (fun c_14 => ?_) (fun c_14 => absurd ((lg_cmp_eq _ _).mpr rfl) c_14)
              refine lv_goto (tgt := 947) hx hb d_La_law_402 (by decide) ?_
              refine lv_iinc (v := nI (4 * (i + 1))) (lv' := [(4, .int (nI (4 * (i + 1)))), (6, .int (vaI (speR Q (xs (4 * i + 1)) (xs (4 * i + 2))))), (5, .int (thI (speR Q (xs (4 * i + 1)) (xs (4 * i + 2))))), (0, .ref b), (1, .ref lo), (2, .ref (lo + 32)), (3, .ref (lo + 45))]) hx hb d_La_law_947 hl (k := 2) rfl (nI_add (4 * i) 4) (by decide) rfl (fun ls hl => ?_)
              refine lv_goto (tgt := 23) hx hb d_La_law_950 (by decide) ?_
              exact ih (i + 1) V2 _ Q B S L t n wr F PB f9 H3.size _ _ (by omega) (by omega) (by omega) (by omega) hC3 hM2 ho2 H3 locs ls rfl hV (lv_sub hl [0, 3, 4, 5, 6] rfl)
          · refine lv_tableIn (tgt := 405) (off := 366) hx hb d_La_law_39 (by decide) (by decide) (by decide) (by decide) ?_
            refine lv_aload_n hx hb d_La_law_405 rfl (lv_at hl 2 rfl) ?_
            refine lv_aload_n hx hb d_La_law_406 rfl (lv_at hl 1 rfl) ?_
            refine lv_iload hx hb d_La_law_407 (lv_at hl 0 rfl) ?_
            refine lv_iconst (v := 1) hx hb d_La_law_409 (by decide) ?_
            refine e_iadd (v := nI (4 * i + 1)) hx hb d_La_law_410 (nI_add (4 * i) 1) ?_
            refine va_sld hx hb hX hbl hbA hV.2.1 (i := nI (4 * i + 1)) (nI_in (by omega) (by omega)) d_La_law_411 ?_
            refine W.eq (g2 := F0 m 412 ls [.int (xs (4 * i + 1)), .ref lo]) (by rw [nI_clamp (by omega)]) ?_
            refine lv_aload_n hx hb d_La_law_412 rfl (lv_at hl 1 rfl) ?_
            refine lv_iload hx hb d_La_law_413 (lv_at hl 0 rfl) ?_
            refine lv_iconst (v := 2) hx hb d_La_law_415 (by decide) ?_
            refine e_iadd (v := nI (4 * i + 2)) hx hb d_La_law_416 (nI_add (4 * i) 2) ?_
            refine va_sld hx hb hX hbl hbA hV.2.1 (i := nI (4 * i + 2)) (nI_in (by omega) (by omega)) d_La_law_417 ?_
            refine W.eq (g2 := F0 m 418 ls [.int (xs (4 * i + 2)), .int (xs (4 * i + 1)), .ref lo]) (by rw [nI_clamp (by omega)]) ?_
            refine lv_aload_n hx hb d_La_law_418 rfl (lv_at hl 4 rfl) ?_
            refine x_callSW (n := 4) (As := [.ref lo, .int (xs (4 * i + 1)), .int (xs (4 * i + 2)), .ref (lo + 45)]) (rest := []) hx hb hml hown hts (c_La_name l hlT G lo hC (by omega) (by omega) ho (xs (4 * i + 1)) (xs (4 * i + 2))) w_co_La_name w_it_La w_ml_La_86 w_st_La_name (by decide +kernel) rfl rfl ⟨(Nat.le_of_ble_eq_true rfl), (Nat.le_of_ble_eq_true rfl)⟩ (v_preS hK hV rfl hz) rfl hl.1 rfl (Nat.le_of_ble_eq_true rfl) d_La_law_419 ⟨by rw [hRc]; omega, by rw [hRs]; omega⟩ hV (fun r9 V1 H locs hp hV hle => ?_)
            obtain ⟨rfl, f9, ho1, hf9, hC1, hfr, hsz9⟩ := hp
            have hM1 : mS G V1 (lo + 32) th Q B S L t n wr F PB := hM.eq (fun a h1 h2 => hfr a (by omega) (by omega) (by omega))
            refine W.eq (g2 := F0 m 422 ls [.int (thI (nmeR Q (xs (4 * i + 1)) (xs (4 * i + 2))))]) rfl ?_
            refine lv_istore (lv' := [(5, .int (thI (nmeR Q (xs (4 * i + 1)) (xs (4 * i + 2))))), (4, .int (nI (4 * i))), (0, .ref b), (1, .ref lo), (2, .ref (lo + 32)), (3, .ref (lo + 45))]) hx hb d_La_law_422 hl (by decide) rfl (fun ls hl => ?_)
            refine lv_aload_n hx hb d_La_law_424 rfl (lv_at hl 4 rfl) ?_
            refine lv_aload_n hx hb d_La_law_425 rfl (lv_at hl 2 rfl) ?_
            refine lv_iload hx hb d_La_law_426 (lv_at hl 1 rfl) ?_
            refine lv_iconst (v := 1) hx hb d_La_law_428 (by decide) ?_
            refine e_iadd (v := nI (4 * i + 1)) hx hb d_La_law_429 (nI_add (4 * i) 1) ?_
            refine va_sld hx hb hX hbl hbA hV.2.1 (i := nI (4 * i + 1)) (nI_in (by omega) (by omega)) d_La_law_430 ?_
            refine W.eq (g2 := F0 m 431 ls [.int (xs (4 * i + 1)), .ref (lo + 32)]) (by rw [nI_clamp (by omega)]) ?_
            refine lv_aload_n hx hb d_La_law_431 rfl (lv_at hl 2 rfl) ?_
            refine lv_iload hx hb d_La_law_432 (lv_at hl 1 rfl) ?_
            refine lv_iconst (v := 2) hx hb d_La_law_434 (by decide) ?_
            refine e_iadd (v := nI (4 * i + 2)) hx hb d_La_law_435 (nI_add (4 * i) 2) ?_
            refine va_sld hx hb hX hbl hbA hV.2.1 (i := nI (4 * i + 2)) (nI_in (by omega) (by omega)) d_La_law_436 ?_
            refine W.eq (g2 := F0 m 437 ls [.int (xs (4 * i + 2)), .int (xs (4 * i + 1)), .ref (lo + 32)]) (by rw [nI_clamp (by omega)]) ?_
            obtain ⟨fy, hy0⟩ := hM1.at
            refine v_call (va_runV (As := [.int (xs (4 * i + 1)), .int (xs (4 * i + 2))]) (rest := []) ⟨hx, hb, hml, hown, hts⟩ (k_Mo_name l G lo hM1 _ (xs (4 * i + 1)) (xs (4 * i + 2))) (kwV 2 hts w_co_Mo_name rfl rfl w_it_Mo w_ml_La_88 w_im_Mo_name w_se_Mo__Mo_name (by decide +kernel) ⟨(Nat.le_of_ble_eq_true rfl), (Nat.le_of_ble_eq_true rfl)⟩) (v_preV hK hV rfl rfl hy0 rfl) rfl rfl hl.1 rfl (lv_room (Nat.le_of_ble_eq_true rfl)) d_La_law_437 ⟨by rw [hRc]; omega, by rw [hRs]; omega⟩) hV (fun r9 V2 H2 locs hp hV hle => ?_)
            obtain ⟨rfl, ⟨hM2, hfr2⟩, hz2⟩ := hp
            have hC2 : cS G V2 lo (lo + 46) H2.size Q B S L t n wr F PB := by rw [hz2]; exact hC1.eq (fun a h1 h2 => hfr2 a (by omega)) (fun a h1 h2 => hfr2 a (by omega))
            have ho2 : V2 (lo + 45) = some (eL (gL G) 1 f9) := (hfr2 _ (by omega)).trans ho1
            refine W.eq (g2 := F0 m 440 ls [.int (vaI (nmeR Q (xs (4 * i + 1)) (xs (4 * i + 2))))]) rfl ?_
            refine lv_istore (lv' := [(6, .int (vaI (nmeR Q (xs (4 * i + 1)) (xs (4 * i + 2))))), (5, .int (thI (nmeR Q (xs (4 * i + 1)) (xs (4 * i + 2))))), (4, .int (nI (4 * i))), (0, .ref b), (1, .ref lo), (2, .ref (lo + 32)), (3, .ref (lo + 45))]) hx hb d_La_law_440 hl (by decide) rfl (fun ls hl => ?_)
            refine lv_aload_n hx hb d_La_law_442 rfl (lv_at hl 5 rfl) ?_
            obtain ⟨fz, hz0⟩ := hM2.at
            refine v_call (va_runV (As := []) (rest := []) ⟨hx, hb, hml, hown, hts⟩ (k_Mo_thrown l G lo hM2 _) (kwV 0 hts w_co_Mo_thrown rfl rfl w_it_Mo w_ml_La_68 w_im_Mo_thrown w_se_Mo__Mo_thrown (by decide +kernel) ⟨(Nat.le_of_ble_eq_true rfl), (Nat.le_of_ble_eq_true rfl)⟩) (v_preV hK hV rfl rfl hz0 rfl) rfl rfl hl.1 rfl (lv_room (Nat.le_of_ble_eq_true rfl)) d_La_law_443 ⟨by rw [hRc]; omega, by rw [hRs]; omega⟩) hV (fun r9 V3 H3 locs hp hV hle => ?_)
            obtain ⟨rfl, hv3, hz3⟩ := hp
            rw [hv3] at hV
            have hC3 : cS G V2 lo (lo + 46) H3.size Q B S L t n wr F PB := by rw [hz3]; exact hC2
            refine W.eq (g2 := F0 m 446 ls [.int (thI (nmeR Q (xs (4 * i + 1)) (xs (4 * i + 2))))]) rfl ?_
            refine lv_iload hx hb d_La_law_446 (lv_at hl 1 rfl) ?_
            refine lv_icmp_eq (tgt := 453) hx hb d_La_law_448 (by decide) (fun c_15 => ?_) (fun c_15 => absurd (rfl) c_15)
            refine lv_iload hx hb d_La_law_453 (lv_at hl 1 rfl) ?_
            refine lv_if_ne (tgt := 470) hx hb d_La_law_455 (by decide) (fun c_16 => ?_) (fun c_16 => ?_)
            · refine lv_goto (tgt := 947) hx hb d_La_law_470 (by decide) ?_
              refine lv_iinc (v := nI (4 * (i + 1))) (lv' := [(4, .int (nI (4 * (i + 1)))), (6, .int (vaI (nmeR Q (xs (4 * i + 1)) (xs (4 * i + 2))))), (5, .int (thI (nmeR Q (xs (4 * i + 1)) (xs (4 * i + 2))))), (0, .ref b), (1, .ref lo), (2, .ref (lo + 32)), (3, .ref (lo + 45))]) hx hb d_La_law_947 hl (k := 2) rfl (nI_add (4 * i) 4) (by decide) rfl (fun ls hl => ?_)
              refine lv_goto (tgt := 23) hx hb d_La_law_950 (by decide) ?_
              exact ih (i + 1) V2 _ Q B S L t n wr F PB f9 H3.size _ _ (by omega) (by omega) (by omega) (by omega) hC3 hM2 ho2 H3 locs ls rfl hV (lv_sub hl [0, 3, 4, 5, 6] rfl)
            · refine lv_aload_n hx hb d_La_law_458 rfl (lv_at hl 6 rfl) ?_
              refine lv_iconst (v := 0) hx hb d_La_law_459 (by decide) ?_
              have hV4 : vS G.1 cls lo s H3 locs (vU V2 [(lo + 45, eL (gL G) 1 f9)]) := by rw [vU_all (W := V2) (ds := [(lo + 45, eL (gL G) 1 f9)]) (fun z hz => by rw [List.mem_singleton.mp hz]; exact ho2)]; exact hV
              refine u_laldN (j := 0) hx hb hK hV4 (show [lo + 45].Nodup by simp) 0 rfl (by decide) (by decide) d_La_law_460 ?_
              refine W.eq (g2 := F0 m 461 ls [.long ((vaI (nmeR Q (xs (4 * i + 1)) (xs (4 * i + 2)))).toInt64)]) (by rw [hf9 c_16]) ?_
              refine lv_iload hx hb d_La_law_461 (lv_at hl 0 rfl) ?_
              refine lv_i2l (v := (vaI (nmeR Q (xs (4 * i + 1)) (xs (4 * i + 2)))).toInt64) hx hb d_La_law_463 (rfl) ?_
              refine W.lcmp hx hb d_La_law_464 ?_
              refine lv_if_eq (tgt := 470) hx hb d_La_law_465 (by decide) (fun c_17 => ?_) (fun c_17 => absurd ((lg_cmp_eq _ _).mpr rfl) c_17)
              refine lv_goto (tgt := 947) hx hb d_La_law_470 (by decide) ?_
              refine lv_iinc (v := nI (4 * (i + 1))) (lv' := [(4, .int (nI (4 * (i + 1)))), (6, .int (vaI (nmeR Q (xs (4 * i + 1)) (xs (4 * i + 2))))), (5, .int (thI (nmeR Q (xs (4 * i + 1)) (xs (4 * i + 2))))), (0, .ref b), (1, .ref lo), (2, .ref (lo + 32)), (3, .ref (lo + 45))]) hx hb d_La_law_947 hl (k := 2) rfl (nI_add (4 * i) 4) (by decide) rfl (fun ls hl => ?_)
              refine lv_goto (tgt := 23) hx hb d_La_law_950 (by decide) ?_
              exact ih (i + 1) V2 _ Q B S L t n wr F PB f9 H3.size _ _ (by omega) (by omega) (by omega) (by omega) hC3 hM2 ho2 H3 locs ls rfl hV (lv_sub hl [0, 3, 4, 5, 6] rfl)
          · refine lv_tableIn (tgt := 473) (off := 434) hx hb d_La_law_39 (by decide) (by decide) (by decide) (by decide) ?_
            refine lv_aload_n hx hb d_La_law_473 rfl (lv_at hl 2 rfl) ?_
            refine lv_aload_n hx hb d_La_law_474 rfl (lv_at hl 1 rfl) ?_
            refine lv_iload hx hb d_La_law_475 (lv_at hl 0 rfl) ?_
            refine lv_iconst (v := 1) hx hb d_La_law_477 (by decide) ?_
            refine e_iadd (v := nI (4 * i + 1)) hx hb d_La_law_478 (nI_add (4 * i) 1) ?_
            refine va_sld hx hb hX hbl hbA hV.2.1 (i := nI (4 * i + 1)) (nI_in (by omega) (by omega)) d_La_law_479 ?_
            refine W.eq (g2 := F0 m 480 ls [.int (xs (4 * i + 1)), .ref lo]) (by rw [nI_clamp (by omega)]) ?_
            refine lv_aload_n hx hb d_La_law_480 rfl (lv_at hl 1 rfl) ?_
            refine lv_iload hx hb d_La_law_481 (lv_at hl 0 rfl) ?_
            refine lv_iconst (v := 2) hx hb d_La_law_483 (by decide) ?_
            refine e_iadd (v := nI (4 * i + 2)) hx hb d_La_law_484 (nI_add (4 * i) 2) ?_
            refine va_sld hx hb hX hbl hbA hV.2.1 (i := nI (4 * i + 2)) (nI_in (by omega) (by omega)) d_La_law_485 ?_
            refine W.eq (g2 := F0 m 486 ls [.int (xs (4 * i + 2)), .int (xs (4 * i + 1)), .ref lo]) (by rw [nI_clamp (by omega)]) ?_
            refine lv_aload_n hx hb d_La_law_486 rfl (lv_at hl 1 rfl) ?_
            refine lv_iload hx hb d_La_law_487 (lv_at hl 0 rfl) ?_
            refine lv_iconst (v := 3) hx hb d_La_law_489 (by decide) ?_
            refine e_iadd (v := nI (4 * i + 3)) hx hb d_La_law_490 (nI_add (4 * i) 3) ?_
            refine va_sld hx hb hX hbl hbA hV.2.1 (i := nI (4 * i + 3)) (nI_in (by omega) (by omega)) d_La_law_491 ?_
            refine W.eq (g2 := F0 m 492 ls [.int (xs (4 * i + 3)), .int (xs (4 * i + 2)), .int (xs (4 * i + 1)), .ref lo]) (by rw [nI_clamp (by omega)]) ?_
            refine lv_aload_n hx hb d_La_law_492 rfl (lv_at hl 4 rfl) ?_
            refine x_callSW (n := 5) (As := [.ref lo, .int (xs (4 * i + 1)), .int (xs (4 * i + 2)), .int (xs (4 * i + 3)), .ref (lo + 45)]) (rest := []) hx hb hml hown hts (c_La_barred l hlT G lo hC (by omega) (by omega) ho (xs (4 * i + 1)) (xs (4 * i + 2)) (xs (4 * i + 3))) w_co_La_barred w_it_La w_ml_La_89 w_st_La_barred (by decide +kernel) rfl rfl ⟨(Nat.le_of_ble_eq_true rfl), (Nat.le_of_ble_eq_true rfl)⟩ (v_preS hK hV rfl hz) rfl hl.1 rfl (Nat.le_of_ble_eq_true rfl) d_La_law_493 ⟨by rw [hRc]; omega, by rw [hRs]; omega⟩ hV (fun r9 V1 H locs hp hV hle => ?_)
            obtain ⟨rfl, f9, ho1, hf9, hC1, hfr, hsz9⟩ := hp
            have hM1 : mS G V1 (lo + 32) th Q B S L t n wr F PB := hM.eq (fun a h1 h2 => hfr a (by omega) (by omega) (by omega))
            refine W.eq (g2 := F0 m 496 ls [.int (thI (barR L (xs (4 * i + 1)) (xs (4 * i + 2)) (xs (4 * i + 3))))]) rfl ?_
            refine lv_istore (lv' := [(5, .int (thI (barR L (xs (4 * i + 1)) (xs (4 * i + 2)) (xs (4 * i + 3))))), (4, .int (nI (4 * i))), (0, .ref b), (1, .ref lo), (2, .ref (lo + 32)), (3, .ref (lo + 45))]) hx hb d_La_law_496 hl (by decide) rfl (fun ls hl => ?_)
            refine lv_aload_n hx hb d_La_law_498 rfl (lv_at hl 4 rfl) ?_
            refine lv_aload_n hx hb d_La_law_499 rfl (lv_at hl 2 rfl) ?_
            refine lv_iload hx hb d_La_law_500 (lv_at hl 1 rfl) ?_
            refine lv_iconst (v := 1) hx hb d_La_law_502 (by decide) ?_
            refine e_iadd (v := nI (4 * i + 1)) hx hb d_La_law_503 (nI_add (4 * i) 1) ?_
            refine va_sld hx hb hX hbl hbA hV.2.1 (i := nI (4 * i + 1)) (nI_in (by omega) (by omega)) d_La_law_504 ?_
            refine W.eq (g2 := F0 m 505 ls [.int (xs (4 * i + 1)), .ref (lo + 32)]) (by rw [nI_clamp (by omega)]) ?_
            refine lv_aload_n hx hb d_La_law_505 rfl (lv_at hl 2 rfl) ?_
            refine lv_iload hx hb d_La_law_506 (lv_at hl 1 rfl) ?_
            refine lv_iconst (v := 2) hx hb d_La_law_508 (by decide) ?_
            refine e_iadd (v := nI (4 * i + 2)) hx hb d_La_law_509 (nI_add (4 * i) 2) ?_
            refine va_sld hx hb hX hbl hbA hV.2.1 (i := nI (4 * i + 2)) (nI_in (by omega) (by omega)) d_La_law_510 ?_
            refine W.eq (g2 := F0 m 511 ls [.int (xs (4 * i + 2)), .int (xs (4 * i + 1)), .ref (lo + 32)]) (by rw [nI_clamp (by omega)]) ?_
            refine lv_aload_n hx hb d_La_law_511 rfl (lv_at hl 2 rfl) ?_
            refine lv_iload hx hb d_La_law_512 (lv_at hl 1 rfl) ?_
            refine lv_iconst (v := 3) hx hb d_La_law_514 (by decide) ?_
            refine e_iadd (v := nI (4 * i + 3)) hx hb d_La_law_515 (nI_add (4 * i) 3) ?_
            refine va_sld hx hb hX hbl hbA hV.2.1 (i := nI (4 * i + 3)) (nI_in (by omega) (by omega)) d_La_law_516 ?_
            refine W.eq (g2 := F0 m 517 ls [.int (xs (4 * i + 3)), .int (xs (4 * i + 2)), .int (xs (4 * i + 1)), .ref (lo + 32)]) (by rw [nI_clamp (by omega)]) ?_
            obtain ⟨fy, hy0⟩ := hM1.at
            refine v_call (va_runV (As := [.int (xs (4 * i + 1)), .int (xs (4 * i + 2)), .int (xs (4 * i + 3))]) (rest := []) ⟨hx, hb, hml, hown, hts⟩ (k_Mo_barred l G lo hM1 _ (xs (4 * i + 1)) (xs (4 * i + 2)) (xs (4 * i + 3))) (kwV 3 hts w_co_Mo_barred rfl rfl w_it_Mo w_ml_La_92 w_im_Mo_barred w_se_Mo__Mo_barred (by decide +kernel) ⟨(Nat.le_of_ble_eq_true rfl), (Nat.le_of_ble_eq_true rfl)⟩) (v_preV hK hV rfl rfl hy0 rfl) rfl rfl hl.1 rfl (lv_room (Nat.le_of_ble_eq_true rfl)) d_La_law_517 ⟨by rw [hRc]; omega, by rw [hRs]; omega⟩) hV (fun r9 V2 H2 locs hp hV hle => ?_)
            obtain ⟨rfl, ⟨hM2, hfr2⟩, hz2⟩ := hp
            have hC2 : cS G V2 lo (lo + 46) H2.size Q B S L t n wr F PB := by rw [hz2]; exact hC1.eq (fun a h1 h2 => hfr2 a (by omega)) (fun a h1 h2 => hfr2 a (by omega))
            have ho2 : V2 (lo + 45) = some (eL (gL G) 1 f9) := (hfr2 _ (by omega)).trans ho1
            refine W.eq (g2 := F0 m 520 ls [.int (b2i (vaB (barR L (xs (4 * i + 1)) (xs (4 * i + 2)) (xs (4 * i + 3)))))]) rfl ?_
            refine lv_istore (lv' := [(6, .int (b2i (vaB (barR L (xs (4 * i + 1)) (xs (4 * i + 2)) (xs (4 * i + 3)))))), (5, .int (thI (barR L (xs (4 * i + 1)) (xs (4 * i + 2)) (xs (4 * i + 3))))), (4, .int (nI (4 * i))), (0, .ref b), (1, .ref lo), (2, .ref (lo + 32)), (3, .ref (lo + 45))]) hx hb d_La_law_520 hl (by decide) rfl (fun ls hl => ?_)
            refine lv_aload_n hx hb d_La_law_522 rfl (lv_at hl 5 rfl) ?_
            obtain ⟨fz, hz0⟩ := hM2.at
            refine v_call (va_runV (As := []) (rest := []) ⟨hx, hb, hml, hown, hts⟩ (k_Mo_thrown l G lo hM2 _) (kwV 0 hts w_co_Mo_thrown rfl rfl w_it_Mo w_ml_La_68 w_im_Mo_thrown w_se_Mo__Mo_thrown (by decide +kernel) ⟨(Nat.le_of_ble_eq_true rfl), (Nat.le_of_ble_eq_true rfl)⟩) (v_preV hK hV rfl rfl hz0 rfl) rfl rfl hl.1 rfl (lv_room (Nat.le_of_ble_eq_true rfl)) d_La_law_523 ⟨by rw [hRc]; omega, by rw [hRs]; omega⟩) hV (fun r9 V3 H3 locs hp hV hle => ?_)
            obtain ⟨rfl, hv3, hz3⟩ := hp
            rw [hv3] at hV
            have hC3 : cS G V2 lo (lo + 46) H3.size Q B S L t n wr F PB := by rw [hz3]; exact hC2
            refine W.eq (g2 := F0 m 526 ls [.int (thI (barR L (xs (4 * i + 1)) (xs (4 * i + 2)) (xs (4 * i + 3))))]) rfl ?_
            refine lv_iload hx hb d_La_law_526 (lv_at hl 1 rfl) ?_
            refine lv_icmp_eq (tgt := 533) hx hb d_La_law_528 (by decide) (fun c_18 => ?_) (fun c_18 => absurd (rfl) c_18)
            refine lv_iload hx hb d_La_law_533 (lv_at hl 1 rfl) ?_
            refine lv_if_ne (tgt := 557) hx hb d_La_law_535 (by decide) (fun c_19 => ?_) (fun c_19 => ?_)
            · refine lv_goto (tgt := 947) hx hb d_La_law_557 (by decide) ?_
              refine lv_iinc (v := nI (4 * (i + 1))) (lv' := [(4, .int (nI (4 * (i + 1)))), (6, .int (b2i (vaB (barR L (xs (4 * i + 1)) (xs (4 * i + 2)) (xs (4 * i + 3)))))), (5, .int (thI (barR L (xs (4 * i + 1)) (xs (4 * i + 2)) (xs (4 * i + 3))))), (0, .ref b), (1, .ref lo), (2, .ref (lo + 32)), (3, .ref (lo + 45))]) hx hb d_La_law_947 hl (k := 2) rfl (nI_add (4 * i) 4) (by decide) rfl (fun ls hl => ?_)
              refine lv_goto (tgt := 23) hx hb d_La_law_950 (by decide) ?_
              exact ih (i + 1) V2 _ Q B S L t n wr F PB f9 H3.size _ _ (by omega) (by omega) (by omega) (by omega) hC3 hM2 ho2 H3 locs ls rfl hV (lv_sub hl [0, 3, 4, 5, 6] rfl)
            · refine lv_aload_n hx hb d_La_law_538 rfl (lv_at hl 6 rfl) ?_
              refine lv_iconst (v := 0) hx hb d_La_law_539 (by decide) ?_
              have hV4 : vS G.1 cls lo s H3 locs (vU V2 [(lo + 45, eL (gL G) 1 f9)]) := by rw [vU_all (W := V2) (ds := [(lo + 45, eL (gL G) 1 f9)]) (fun z hz => by rw [List.mem_singleton.mp hz]; exact ho2)]; exact hV
              refine u_laldN (j := 0) hx hb hK hV4 (show [lo + 45].Nodup by simp) 0 rfl (by decide) (by decide) d_La_law_540 ?_
              refine W.eq (g2 := F0 m 541 ls [.long ((b2i (vaB (barR L (xs (4 * i + 1)) (xs (4 * i + 2)) (xs (4 * i + 3))))).toInt64)]) (by rw [hf9 c_19]) ?_
              refine lv_iload hx hb d_La_law_541 (lv_at hl 0 rfl) ?_
              refine lv_if_eq (tgt := 550) hx hb d_La_law_543 (by decide) (fun c_20 => ?_) (fun c_20 => ?_)
              · refine lv_lconst (v := 0) hx hb d_La_law_550 (by decide) ?_
                refine W.lcmp hx hb d_La_law_551 ?_
                refine lv_if_eq (tgt := 557) hx hb d_La_law_552 (by decide) (fun c_21 => ?_) (fun c_21 => absurd ((lg_cmp_eq _ _).mpr (by rw [c_20]; rfl)) c_21)
                refine lv_goto (tgt := 947) hx hb d_La_law_557 (by decide) ?_
                refine lv_iinc (v := nI (4 * (i + 1))) (lv' := [(4, .int (nI (4 * (i + 1)))), (6, .int (b2i (vaB (barR L (xs (4 * i + 1)) (xs (4 * i + 2)) (xs (4 * i + 3)))))), (5, .int (thI (barR L (xs (4 * i + 1)) (xs (4 * i + 2)) (xs (4 * i + 3))))), (0, .ref b), (1, .ref lo), (2, .ref (lo + 32)), (3, .ref (lo + 45))]) hx hb d_La_law_947 hl (k := 2) rfl (nI_add (4 * i) 4) (by decide) rfl (fun ls hl => ?_)
                refine lv_goto (tgt := 23) hx hb d_La_law_950 (by decide) ?_
                exact ih (i + 1) V2 _ Q B S L t n wr F PB f9 H3.size _ _ (by omega) (by omega) (by omega) (by omega) hC3 hM2 ho2 H3 locs ls rfl hV (lv_sub hl [0, 3, 4, 5, 6] rfl)
              · refine lv_lconst (v := 1) hx hb d_La_law_546 (by decide) ?_
                refine lv_goto (tgt := 551) hx hb d_La_law_547 (by decide) ?_
                refine W.lcmp hx hb d_La_law_551 ?_
                refine lv_if_eq (tgt := 557) hx hb d_La_law_552 (by decide) (fun c_22 => ?_) (fun c_22 => absurd ((lg_cmp_eq _ _).mpr (by rw [b2i_1n c_20]; rfl)) c_22)
                refine lv_goto (tgt := 947) hx hb d_La_law_557 (by decide) ?_
                refine lv_iinc (v := nI (4 * (i + 1))) (lv' := [(4, .int (nI (4 * (i + 1)))), (6, .int (b2i (vaB (barR L (xs (4 * i + 1)) (xs (4 * i + 2)) (xs (4 * i + 3)))))), (5, .int (thI (barR L (xs (4 * i + 1)) (xs (4 * i + 2)) (xs (4 * i + 3))))), (0, .ref b), (1, .ref lo), (2, .ref (lo + 32)), (3, .ref (lo + 45))]) hx hb d_La_law_947 hl (k := 2) rfl (nI_add (4 * i) 4) (by decide) rfl (fun ls hl => ?_)
                refine lv_goto (tgt := 23) hx hb d_La_law_950 (by decide) ?_
                exact ih (i + 1) V2 _ Q B S L t n wr F PB f9 H3.size _ _ (by omega) (by omega) (by omega) (by omega) hC3 hM2 ho2 H3 locs ls rfl hV (lv_sub hl [0, 3, 4, 5, 6] rfl)
          · refine lv_tableIn (tgt := 560) (off := 521) hx hb d_La_law_39 (by decide) (by decide) (by decide) (by decide) ?_
            refine lv_aload_n hx hb d_La_law_560 rfl (lv_at hl 2 rfl) ?_
            refine v_call (va_runV (As := []) (rest := []) ⟨hx, hb, hml, hown, hts⟩ (k_SG_clear l G lo hC) (kwV 0 hts w_co_SG_clear rfl rfl w_it_SG w_ml_La_93 w_im_SG_clear w_se_SG__SG_clear (by decide +kernel) ⟨(Nat.le_of_ble_eq_true rfl), (Nat.le_of_ble_eq_true rfl)⟩) (v_preV hK hV rfl hz hx0 rfl) rfl rfl hl.1 rfl (lv_room (Nat.le_of_ble_eq_true rfl)) d_La_law_561 ⟨by rw [hRc]; omega, by rw [hRs]; omega⟩) hV (fun r9 V1 H locs hp hV hle => ?_)
            obtain ⟨rfl, ⟨hC1, hfr, hsz9⟩, hz1⟩ := hp
            have hM1 : mS G V1 (lo + 32) th Q B S L t n wr F PB := hM.eq (fun a h1 h2 => hfr a (by omega) (by omega))
            have ho1 : V1 (lo + 45) = some (eL (gL G) 1 fo) := (hfr _ (by omega) (by omega)).trans ho
            refine W.eq (g2 := F0 m 564 ls [.int (nI L.length)]) rfl ?_
            refine lv_aload_n hx hb d_La_law_564 rfl (lv_at hl 3 rfl) ?_
            obtain ⟨fy, hy0⟩ := hM1.at
            refine v_call (va_runV (As := []) (rest := [.int (nI L.length)]) ⟨hx, hb, hml, hown, hts⟩ (k_Mo_clear l G lo hM1 _ ) (kwV 0 hts w_co_Mo_clear rfl rfl w_it_Mo w_ml_La_96 w_im_Mo_clear w_se_Mo__Mo_clear (by decide +kernel) ⟨(Nat.le_of_ble_eq_true rfl), (Nat.le_of_ble_eq_true rfl)⟩) (v_preV hK hV rfl rfl hy0 rfl) rfl rfl hl.1 rfl (lv_room (Nat.le_of_ble_eq_true rfl)) d_La_law_565 ⟨by rw [hRc]; omega, by rw [hRs]; omega⟩) hV (fun r9 V2 H2 locs hp hV hle => ?_)
            obtain ⟨rfl, ⟨hM2, hfr2⟩, hz2⟩ := hp
            have hC2 : cS G V2 lo (lo + 46) H2.size Q B S [] t n wr F PB := by rw [hz2]; exact hC1.eq (fun a h1 h2 => hfr2 a (by omega)) (fun a h1 h2 => hfr2 a (by omega))
            have ho2 : V2 (lo + 45) = some (eL (gL G) 1 fo) := (hfr2 _ (by omega)).trans ho1
            refine W.eq (g2 := F0 m 568 ls [.int (nI L.length), .int (nI L.length)]) rfl ?_
            refine lv_icmp_eq (tgt := 947) hx hb d_La_law_568 (by decide) (fun c_23 => ?_) (fun c_23 => absurd (rfl) c_23)
            refine lv_iinc (v := nI (4 * (i + 1))) (lv' := [(4, .int (nI (4 * (i + 1)))), (0, .ref b), (1, .ref lo), (2, .ref (lo + 32)), (3, .ref (lo + 45))]) hx hb d_La_law_947 hl (k := 0) rfl (nI_add (4 * i) 4) (by decide) rfl (fun ls hl => ?_)
            refine lv_goto (tgt := 23) hx hb d_La_law_950 (by decide) ?_
            exact ih (i + 1) V2 _ Q B S [] t n wr F PB fo H2.size _ _ (by omega) (by omega) (by omega) (by omega) hC2 hM2 ho2 H2 locs ls rfl hV (lv_sub hl [0, 1, 2, 3, 4] rfl)
          · refine lv_tableIn (tgt := 573) (off := 534) hx hb d_La_law_39 (by decide) (by decide) (by decide) (by decide) ?_
            refine lv_aload_n hx hb d_La_law_573 rfl (lv_at hl 2 rfl) ?_
            refine lv_aload_n hx hb d_La_law_574 rfl (lv_at hl 1 rfl) ?_
            refine lv_iload hx hb d_La_law_575 (lv_at hl 0 rfl) ?_
            refine lv_iconst (v := 1) hx hb d_La_law_577 (by decide) ?_
            refine e_iadd (v := nI (4 * i + 1)) hx hb d_La_law_578 (nI_add (4 * i) 1) ?_
            refine va_sld hx hb hX hbl hbA hV.2.1 (i := nI (4 * i + 1)) (nI_in (by omega) (by omega)) d_La_law_579 ?_
            refine W.eq (g2 := F0 m 580 ls [.int (xs (4 * i + 1)), .ref lo]) (by rw [nI_clamp (by omega)]) ?_
            refine lv_aload_n hx hb d_La_law_580 rfl (lv_at hl 1 rfl) ?_
            refine lv_iload hx hb d_La_law_581 (lv_at hl 0 rfl) ?_
            refine lv_iconst (v := 2) hx hb d_La_law_583 (by decide) ?_
            refine e_iadd (v := nI (4 * i + 2)) hx hb d_La_law_584 (nI_add (4 * i) 2) ?_
            refine va_sld hx hb hX hbl hbA hV.2.1 (i := nI (4 * i + 2)) (nI_in (by omega) (by omega)) d_La_law_585 ?_
            refine W.eq (g2 := F0 m 586 ls [.int (xs (4 * i + 2)), .int (xs (4 * i + 1)), .ref lo]) (by rw [nI_clamp (by omega)]) ?_
            refine lv_if_eq (tgt := 593) hx hb d_La_law_586 (by decide) (fun c_24 => ?_) (fun c_24 => ?_)
            · refine lv_iconst (v := 0) hx hb d_La_law_593 (by decide) ?_
              refine lv_aload_n hx hb d_La_law_594 rfl (lv_at hl 4 rfl) ?_
              refine x_callSW (n := 4) (As := [.ref lo, .int (xs (4 * i + 1)), .int 0, .ref (lo + 45)]) (rest := []) hx hb hml hown hts (c_La_spot l hlT G lo hC (by omega) (by omega) ho (xs (4 * i + 1)) 0) w_co_La_spot w_it_La w_ml_La_97 w_st_La_spot (by decide +kernel) rfl rfl ⟨(Nat.le_of_ble_eq_true rfl), (Nat.le_of_ble_eq_true rfl)⟩ (v_preS hK hV rfl hz) rfl hl.1 rfl (Nat.le_of_ble_eq_true rfl) d_La_law_595 ⟨by rw [hRc]; omega, by rw [hRs]; omega⟩ hV (fun r9 V1 H locs hp hV hle => ?_)
              obtain ⟨rfl, f9, ho1, hf9, hC1, hfr, hsz9⟩ := hp
              have hM1 : mS G V1 (lo + 32) th Q B S L t n wr F PB := hM.eq (fun a h1 h2 => hfr a (by omega) (by omega) (by omega))
              refine W.eq (g2 := F0 m 598 ls [.int (thI (spoR (bsel 0 B S) (xs (4 * i + 1))))]) rfl ?_
              refine lv_istore (lv' := [(5, .int (thI (spoR (bsel 0 B S) (xs (4 * i + 1))))), (4, .int (nI (4 * i))), (0, .ref b), (1, .ref lo), (2, .ref (lo + 32)), (3, .ref (lo + 45))]) hx hb d_La_law_598 hl (by decide) rfl (fun ls hl => ?_)
              refine lv_aload_n hx hb d_La_law_600 rfl (lv_at hl 4 rfl) ?_
              refine lv_aload_n hx hb d_La_law_601 rfl (lv_at hl 2 rfl) ?_
              refine lv_iload hx hb d_La_law_602 (lv_at hl 1 rfl) ?_
              refine lv_iconst (v := 1) hx hb d_La_law_604 (by decide) ?_
              refine e_iadd (v := nI (4 * i + 1)) hx hb d_La_law_605 (nI_add (4 * i) 1) ?_
              refine va_sld hx hb hX hbl hbA hV.2.1 (i := nI (4 * i + 1)) (nI_in (by omega) (by omega)) d_La_law_606 ?_
              refine W.eq (g2 := F0 m 607 ls [.int (xs (4 * i + 1)), .ref (lo + 32)]) (by rw [nI_clamp (by omega)]) ?_
              refine lv_aload_n hx hb d_La_law_607 rfl (lv_at hl 2 rfl) ?_
              refine lv_iload hx hb d_La_law_608 (lv_at hl 1 rfl) ?_
              refine lv_iconst (v := 2) hx hb d_La_law_610 (by decide) ?_
              refine e_iadd (v := nI (4 * i + 2)) hx hb d_La_law_611 (nI_add (4 * i) 2) ?_
              refine va_sld hx hb hX hbl hbA hV.2.1 (i := nI (4 * i + 2)) (nI_in (by omega) (by omega)) d_La_law_612 ?_
              refine W.eq (g2 := F0 m 613 ls [.int (xs (4 * i + 2)), .int (xs (4 * i + 1)), .ref (lo + 32)]) (by rw [nI_clamp (by omega)]) ?_
              refine lv_if_eq (tgt := 620) hx hb d_La_law_613 (by decide) (fun c_25 => ?_) (fun c_25 => absurd (c_24) c_25)
              refine lv_iconst (v := 0) hx hb d_La_law_620 (by decide) ?_
              obtain ⟨fy, hy0⟩ := hM1.at
              refine v_call (va_runV (As := [.int (xs (4 * i + 1)), .int 0]) (rest := []) ⟨hx, hb, hml, hown, hts⟩ (k_Mo_spot l G lo hM1 _ (xs (4 * i + 1)) 0) (kwV 2 hts w_co_Mo_spot rfl rfl w_it_Mo w_ml_La_100 w_im_Mo_spot w_se_Mo__Mo_spot (by decide +kernel) ⟨(Nat.le_of_ble_eq_true rfl), (Nat.le_of_ble_eq_true rfl)⟩) (v_preV hK hV rfl rfl hy0 rfl) rfl rfl hl.1 rfl (lv_room (Nat.le_of_ble_eq_true rfl)) d_La_law_621 ⟨by rw [hRc]; omega, by rw [hRs]; omega⟩) hV (fun r9 V2 H2 locs hp hV hle => ?_)
              obtain ⟨rfl, ⟨hM2, hfr2⟩, hz2⟩ := hp
              have hC2 : cS G V2 lo (lo + 46) H2.size Q B S L t n wr F PB := by rw [hz2]; exact hC1.eq (fun a h1 h2 => hfr2 a (by omega)) (fun a h1 h2 => hfr2 a (by omega))
              have ho2 : V2 (lo + 45) = some (eL (gL G) 1 f9) := (hfr2 _ (by omega)).trans ho1
              refine W.eq (g2 := F0 m 624 ls [.int (vaI (spoR (bsel 0 B S) (xs (4 * i + 1))))]) rfl ?_
              refine lv_istore (lv' := [(6, .int (vaI (spoR (bsel 0 B S) (xs (4 * i + 1))))), (5, .int (thI (spoR (bsel 0 B S) (xs (4 * i + 1))))), (4, .int (nI (4 * i))), (0, .ref b), (1, .ref lo), (2, .ref (lo + 32)), (3, .ref (lo + 45))]) hx hb d_La_law_624 hl (by decide) rfl (fun ls hl => ?_)
              refine lv_aload_n hx hb d_La_law_626 rfl (lv_at hl 5 rfl) ?_
              obtain ⟨fz, hz0⟩ := hM2.at
              refine v_call (va_runV (As := []) (rest := []) ⟨hx, hb, hml, hown, hts⟩ (k_Mo_thrown l G lo hM2 _) (kwV 0 hts w_co_Mo_thrown rfl rfl w_it_Mo w_ml_La_68 w_im_Mo_thrown w_se_Mo__Mo_thrown (by decide +kernel) ⟨(Nat.le_of_ble_eq_true rfl), (Nat.le_of_ble_eq_true rfl)⟩) (v_preV hK hV rfl rfl hz0 rfl) rfl rfl hl.1 rfl (lv_room (Nat.le_of_ble_eq_true rfl)) d_La_law_627 ⟨by rw [hRc]; omega, by rw [hRs]; omega⟩) hV (fun r9 V3 H3 locs hp hV hle => ?_)
              obtain ⟨rfl, hv3, hz3⟩ := hp
              rw [hv3] at hV
              have hC3 : cS G V2 lo (lo + 46) H3.size Q B S L t n wr F PB := by rw [hz3]; exact hC2
              refine W.eq (g2 := F0 m 630 ls [.int (thI (spoR (bsel 0 B S) (xs (4 * i + 1))))]) rfl ?_
              refine lv_iload hx hb d_La_law_630 (lv_at hl 1 rfl) ?_
              refine lv_icmp_eq (tgt := 637) hx hb d_La_law_632 (by decide) (fun c_26 => ?_) (fun c_26 => absurd (rfl) c_26)
              refine lv_iload hx hb d_La_law_637 (lv_at hl 1 rfl) ?_
              refine lv_if_ne (tgt := 654) hx hb d_La_law_639 (by decide) (fun c_27 => ?_) (fun c_27 => ?_)
              · refine lv_goto (tgt := 947) hx hb d_La_law_654 (by decide) ?_
                refine lv_iinc (v := nI (4 * (i + 1))) (lv' := [(4, .int (nI (4 * (i + 1)))), (6, .int (vaI (spoR (bsel 0 B S) (xs (4 * i + 1))))), (5, .int (thI (spoR (bsel 0 B S) (xs (4 * i + 1))))), (0, .ref b), (1, .ref lo), (2, .ref (lo + 32)), (3, .ref (lo + 45))]) hx hb d_La_law_947 hl (k := 2) rfl (nI_add (4 * i) 4) (by decide) rfl (fun ls hl => ?_)
                refine lv_goto (tgt := 23) hx hb d_La_law_950 (by decide) ?_
                exact ih (i + 1) V2 _ Q B S L t n wr F PB f9 H3.size _ _ (by omega) (by omega) (by omega) (by omega) hC3 hM2 ho2 H3 locs ls rfl hV (lv_sub hl [0, 3, 4, 5, 6] rfl)
              · refine lv_aload_n hx hb d_La_law_642 rfl (lv_at hl 6 rfl) ?_
                refine lv_iconst (v := 0) hx hb d_La_law_643 (by decide) ?_
                have hV4 : vS G.1 cls lo s H3 locs (vU V2 [(lo + 45, eL (gL G) 1 f9)]) := by rw [vU_all (W := V2) (ds := [(lo + 45, eL (gL G) 1 f9)]) (fun z hz => by rw [List.mem_singleton.mp hz]; exact ho2)]; exact hV
                refine u_laldN (j := 0) hx hb hK hV4 (show [lo + 45].Nodup by simp) 0 rfl (by decide) (by decide) d_La_law_644 ?_
                refine W.eq (g2 := F0 m 645 ls [.long ((vaI (spoR (bsel 0 B S) (xs (4 * i + 1)))).toInt64)]) (by rw [hf9 c_27]) ?_
                refine lv_iload hx hb d_La_law_645 (lv_at hl 0 rfl) ?_
                refine lv_i2l (v := (vaI (spoR (bsel 0 B S) (xs (4 * i + 1)))).toInt64) hx hb d_La_law_647 (rfl) ?_
                refine W.lcmp hx hb d_La_law_648 ?_
                refine lv_if_eq (tgt := 654) hx hb d_La_law_649 (by decide) (fun c_28 => ?_) (fun c_28 => absurd ((lg_cmp_eq _ _).mpr rfl) c_28)
                refine lv_goto (tgt := 947) hx hb d_La_law_654 (by decide) ?_
                refine lv_iinc (v := nI (4 * (i + 1))) (lv' := [(4, .int (nI (4 * (i + 1)))), (6, .int (vaI (spoR (bsel 0 B S) (xs (4 * i + 1))))), (5, .int (thI (spoR (bsel 0 B S) (xs (4 * i + 1))))), (0, .ref b), (1, .ref lo), (2, .ref (lo + 32)), (3, .ref (lo + 45))]) hx hb d_La_law_947 hl (k := 2) rfl (nI_add (4 * i) 4) (by decide) rfl (fun ls hl => ?_)
                refine lv_goto (tgt := 23) hx hb d_La_law_950 (by decide) ?_
                exact ih (i + 1) V2 _ Q B S L t n wr F PB f9 H3.size _ _ (by omega) (by omega) (by omega) (by omega) hC3 hM2 ho2 H3 locs ls rfl hV (lv_sub hl [0, 3, 4, 5, 6] rfl)
            · refine lv_iconst (v := 1) hx hb d_La_law_589 (by decide) ?_
              refine lv_goto (tgt := 594) hx hb d_La_law_590 (by decide) ?_
              refine lv_aload_n hx hb d_La_law_594 rfl (lv_at hl 4 rfl) ?_
              refine x_callSW (n := 4) (As := [.ref lo, .int (xs (4 * i + 1)), .int 1, .ref (lo + 45)]) (rest := []) hx hb hml hown hts (c_La_spot l hlT G lo hC (by omega) (by omega) ho (xs (4 * i + 1)) 1) w_co_La_spot w_it_La w_ml_La_97 w_st_La_spot (by decide +kernel) rfl rfl ⟨(Nat.le_of_ble_eq_true rfl), (Nat.le_of_ble_eq_true rfl)⟩ (v_preS hK hV rfl hz) rfl hl.1 rfl (Nat.le_of_ble_eq_true rfl) d_La_law_595 ⟨by rw [hRc]; omega, by rw [hRs]; omega⟩ hV (fun r9 V1 H locs hp hV hle => ?_)
              obtain ⟨rfl, f9, ho1, hf9, hC1, hfr, hsz9⟩ := hp
              have hM1 : mS G V1 (lo + 32) th Q B S L t n wr F PB := hM.eq (fun a h1 h2 => hfr a (by omega) (by omega) (by omega))
              refine W.eq (g2 := F0 m 598 ls [.int (thI (spoR (bsel 1 B S) (xs (4 * i + 1))))]) rfl ?_
              refine lv_istore (lv' := [(5, .int (thI (spoR (bsel 1 B S) (xs (4 * i + 1))))), (4, .int (nI (4 * i))), (0, .ref b), (1, .ref lo), (2, .ref (lo + 32)), (3, .ref (lo + 45))]) hx hb d_La_law_598 hl (by decide) rfl (fun ls hl => ?_)
              refine lv_aload_n hx hb d_La_law_600 rfl (lv_at hl 4 rfl) ?_
              refine lv_aload_n hx hb d_La_law_601 rfl (lv_at hl 2 rfl) ?_
              refine lv_iload hx hb d_La_law_602 (lv_at hl 1 rfl) ?_
              refine lv_iconst (v := 1) hx hb d_La_law_604 (by decide) ?_
              refine e_iadd (v := nI (4 * i + 1)) hx hb d_La_law_605 (nI_add (4 * i) 1) ?_
              refine va_sld hx hb hX hbl hbA hV.2.1 (i := nI (4 * i + 1)) (nI_in (by omega) (by omega)) d_La_law_606 ?_
              refine W.eq (g2 := F0 m 607 ls [.int (xs (4 * i + 1)), .ref (lo + 32)]) (by rw [nI_clamp (by omega)]) ?_
              refine lv_aload_n hx hb d_La_law_607 rfl (lv_at hl 2 rfl) ?_
              refine lv_iload hx hb d_La_law_608 (lv_at hl 1 rfl) ?_
              refine lv_iconst (v := 2) hx hb d_La_law_610 (by decide) ?_
              refine e_iadd (v := nI (4 * i + 2)) hx hb d_La_law_611 (nI_add (4 * i) 2) ?_
              refine va_sld hx hb hX hbl hbA hV.2.1 (i := nI (4 * i + 2)) (nI_in (by omega) (by omega)) d_La_law_612 ?_
              refine W.eq (g2 := F0 m 613 ls [.int (xs (4 * i + 2)), .int (xs (4 * i + 1)), .ref (lo + 32)]) (by rw [nI_clamp (by omega)]) ?_
              refine lv_if_eq (tgt := 620) hx hb d_La_law_613 (by decide) (fun c_29 => absurd c_29 (c_24)) (fun c_29 => ?_)
              refine lv_iconst (v := 1) hx hb d_La_law_616 (by decide) ?_
              refine lv_goto (tgt := 621) hx hb d_La_law_617 (by decide) ?_
              obtain ⟨fy, hy0⟩ := hM1.at
              refine v_call (va_runV (As := [.int (xs (4 * i + 1)), .int 1]) (rest := []) ⟨hx, hb, hml, hown, hts⟩ (k_Mo_spot l G lo hM1 _ (xs (4 * i + 1)) 1) (kwV 2 hts w_co_Mo_spot rfl rfl w_it_Mo w_ml_La_100 w_im_Mo_spot w_se_Mo__Mo_spot (by decide +kernel) ⟨(Nat.le_of_ble_eq_true rfl), (Nat.le_of_ble_eq_true rfl)⟩) (v_preV hK hV rfl rfl hy0 rfl) rfl rfl hl.1 rfl (lv_room (Nat.le_of_ble_eq_true rfl)) d_La_law_621 ⟨by rw [hRc]; omega, by rw [hRs]; omega⟩) hV (fun r9 V2 H2 locs hp hV hle => ?_)
              obtain ⟨rfl, ⟨hM2, hfr2⟩, hz2⟩ := hp
              have hC2 : cS G V2 lo (lo + 46) H2.size Q B S L t n wr F PB := by rw [hz2]; exact hC1.eq (fun a h1 h2 => hfr2 a (by omega)) (fun a h1 h2 => hfr2 a (by omega))
              have ho2 : V2 (lo + 45) = some (eL (gL G) 1 f9) := (hfr2 _ (by omega)).trans ho1
              refine W.eq (g2 := F0 m 624 ls [.int (vaI (spoR (bsel 1 B S) (xs (4 * i + 1))))]) rfl ?_
              refine lv_istore (lv' := [(6, .int (vaI (spoR (bsel 1 B S) (xs (4 * i + 1))))), (5, .int (thI (spoR (bsel 1 B S) (xs (4 * i + 1))))), (4, .int (nI (4 * i))), (0, .ref b), (1, .ref lo), (2, .ref (lo + 32)), (3, .ref (lo + 45))]) hx hb d_La_law_624 hl (by decide) rfl (fun ls hl => ?_)
              refine lv_aload_n hx hb d_La_law_626 rfl (lv_at hl 5 rfl) ?_
              obtain ⟨fz, hz0⟩ := hM2.at
              refine v_call (va_runV (As := []) (rest := []) ⟨hx, hb, hml, hown, hts⟩ (k_Mo_thrown l G lo hM2 _) (kwV 0 hts w_co_Mo_thrown rfl rfl w_it_Mo w_ml_La_68 w_im_Mo_thrown w_se_Mo__Mo_thrown (by decide +kernel) ⟨(Nat.le_of_ble_eq_true rfl), (Nat.le_of_ble_eq_true rfl)⟩) (v_preV hK hV rfl rfl hz0 rfl) rfl rfl hl.1 rfl (lv_room (Nat.le_of_ble_eq_true rfl)) d_La_law_627 ⟨by rw [hRc]; omega, by rw [hRs]; omega⟩) hV (fun r9 V3 H3 locs hp hV hle => ?_)
              obtain ⟨rfl, hv3, hz3⟩ := hp
              rw [hv3] at hV
              have hC3 : cS G V2 lo (lo + 46) H3.size Q B S L t n wr F PB := by rw [hz3]; exact hC2
              refine W.eq (g2 := F0 m 630 ls [.int (thI (spoR (bsel 1 B S) (xs (4 * i + 1))))]) rfl ?_
              refine lv_iload hx hb d_La_law_630 (lv_at hl 1 rfl) ?_
              refine lv_icmp_eq (tgt := 637) hx hb d_La_law_632 (by decide) (fun c_30 => ?_) (fun c_30 => absurd (rfl) c_30)
              refine lv_iload hx hb d_La_law_637 (lv_at hl 1 rfl) ?_
              refine lv_if_ne (tgt := 654) hx hb d_La_law_639 (by decide) (fun c_31 => ?_) (fun c_31 => ?_)
              · refine lv_goto (tgt := 947) hx hb d_La_law_654 (by decide) ?_
                refine lv_iinc (v := nI (4 * (i + 1))) (lv' := [(4, .int (nI (4 * (i + 1)))), (6, .int (vaI (spoR (bsel 1 B S) (xs (4 * i + 1))))), (5, .int (thI (spoR (bsel 1 B S) (xs (4 * i + 1))))), (0, .ref b), (1, .ref lo), (2, .ref (lo + 32)), (3, .ref (lo + 45))]) hx hb d_La_law_947 hl (k := 2) rfl (nI_add (4 * i) 4) (by decide) rfl (fun ls hl => ?_)
                refine lv_goto (tgt := 23) hx hb d_La_law_950 (by decide) ?_
                exact ih (i + 1) V2 _ Q B S L t n wr F PB f9 H3.size _ _ (by omega) (by omega) (by omega) (by omega) hC3 hM2 ho2 H3 locs ls rfl hV (lv_sub hl [0, 3, 4, 5, 6] rfl)
              · refine lv_aload_n hx hb d_La_law_642 rfl (lv_at hl 6 rfl) ?_
                refine lv_iconst (v := 0) hx hb d_La_law_643 (by decide) ?_
                have hV4 : vS G.1 cls lo s H3 locs (vU V2 [(lo + 45, eL (gL G) 1 f9)]) := by rw [vU_all (W := V2) (ds := [(lo + 45, eL (gL G) 1 f9)]) (fun z hz => by rw [List.mem_singleton.mp hz]; exact ho2)]; exact hV
                refine u_laldN (j := 0) hx hb hK hV4 (show [lo + 45].Nodup by simp) 0 rfl (by decide) (by decide) d_La_law_644 ?_
                refine W.eq (g2 := F0 m 645 ls [.long ((vaI (spoR (bsel 1 B S) (xs (4 * i + 1)))).toInt64)]) (by rw [hf9 c_31]) ?_
                refine lv_iload hx hb d_La_law_645 (lv_at hl 0 rfl) ?_
                refine lv_i2l (v := (vaI (spoR (bsel 1 B S) (xs (4 * i + 1)))).toInt64) hx hb d_La_law_647 (rfl) ?_
                refine W.lcmp hx hb d_La_law_648 ?_
                refine lv_if_eq (tgt := 654) hx hb d_La_law_649 (by decide) (fun c_32 => ?_) (fun c_32 => absurd ((lg_cmp_eq _ _).mpr rfl) c_32)
                refine lv_goto (tgt := 947) hx hb d_La_law_654 (by decide) ?_
                refine lv_iinc (v := nI (4 * (i + 1))) (lv' := [(4, .int (nI (4 * (i + 1)))), (6, .int (vaI (spoR (bsel 1 B S) (xs (4 * i + 1))))), (5, .int (thI (spoR (bsel 1 B S) (xs (4 * i + 1))))), (0, .ref b), (1, .ref lo), (2, .ref (lo + 32)), (3, .ref (lo + 45))]) hx hb d_La_law_947 hl (k := 2) rfl (nI_add (4 * i) 4) (by decide) rfl (fun ls hl => ?_)
                refine lv_goto (tgt := 23) hx hb d_La_law_950 (by decide) ?_
                exact ih (i + 1) V2 _ Q B S L t n wr F PB f9 H3.size _ _ (by omega) (by omega) (by omega) (by omega) hC3 hM2 ho2 H3 locs ls rfl hV (lv_sub hl [0, 3, 4, 5, 6] rfl)
          · refine lv_tableIn (tgt := 657) (off := 618) hx hb d_La_law_39 (by decide) (by decide) (by decide) (by decide) ?_
            refine lv_aload_n hx hb d_La_law_657 rfl (lv_at hl 2 rfl) ?_
            refine lv_aload_n hx hb d_La_law_658 rfl (lv_at hl 1 rfl) ?_
            refine lv_iload hx hb d_La_law_659 (lv_at hl 0 rfl) ?_
            refine lv_iconst (v := 1) hx hb d_La_law_661 (by decide) ?_
            refine e_iadd (v := nI (4 * i + 1)) hx hb d_La_law_662 (nI_add (4 * i) 1) ?_
            refine va_sld hx hb hX hbl hbA hV.2.1 (i := nI (4 * i + 1)) (nI_in (by omega) (by omega)) d_La_law_663 ?_
            refine W.eq (g2 := F0 m 664 ls [.int (xs (4 * i + 1)), .ref lo]) (by rw [nI_clamp (by omega)]) ?_
            refine lv_aload_n hx hb d_La_law_664 rfl (lv_at hl 1 rfl) ?_
            refine lv_iload hx hb d_La_law_665 (lv_at hl 0 rfl) ?_
            refine lv_iconst (v := 2) hx hb d_La_law_667 (by decide) ?_
            refine e_iadd (v := nI (4 * i + 2)) hx hb d_La_law_668 (nI_add (4 * i) 2) ?_
            refine va_sld hx hb hX hbl hbA hV.2.1 (i := nI (4 * i + 2)) (nI_in (by omega) (by omega)) d_La_law_669 ?_
            refine W.eq (g2 := F0 m 670 ls [.int (xs (4 * i + 2)), .int (xs (4 * i + 1)), .ref lo]) (by rw [nI_clamp (by omega)]) ?_
            refine lv_if_eq (tgt := 677) hx hb d_La_law_670 (by decide) (fun c_33 => ?_) (fun c_33 => ?_)
            · refine lv_iconst (v := 0) hx hb d_La_law_677 (by decide) ?_
              refine lv_aload_n hx hb d_La_law_678 rfl (lv_at hl 4 rfl) ?_
              refine x_callSW (n := 4) (As := [.ref lo, .int (xs (4 * i + 1)), .int 0, .ref (lo + 45)]) (rest := []) hx hb hml hown hts (c_La_along l hlT G lo hC (by omega) (by omega) ho (xs (4 * i + 1)) 0) w_co_La_along w_it_La w_ml_La_101 w_st_La_along (by decide +kernel) rfl rfl ⟨(Nat.le_of_ble_eq_true rfl), (Nat.le_of_ble_eq_true rfl)⟩ (v_preS hK hV rfl hz) rfl hl.1 rfl (Nat.le_of_ble_eq_true rfl) d_La_law_679 ⟨by rw [hRc]; omega, by rw [hRs]; omega⟩ hV (fun r9 V1 H locs hp hV hle => ?_)
              obtain ⟨rfl, f9, ho1, hf9, hC1, hfr, hsz9⟩ := hp
              have hM1 : mS G V1 (lo + 32) th Q B S L t n wr F PB := hM.eq (fun a h1 h2 => hfr a (by omega) (by omega) (by omega))
              refine W.eq (g2 := F0 m 682 ls [.int (thI (aloR (bsel 0 B S) (xs (4 * i + 1))))]) rfl ?_
              refine lv_istore (lv' := [(5, .int (thI (aloR (bsel 0 B S) (xs (4 * i + 1))))), (4, .int (nI (4 * i))), (0, .ref b), (1, .ref lo), (2, .ref (lo + 32)), (3, .ref (lo + 45))]) hx hb d_La_law_682 hl (by decide) rfl (fun ls hl => ?_)
              refine lv_aload_n hx hb d_La_law_684 rfl (lv_at hl 4 rfl) ?_
              refine lv_aload_n hx hb d_La_law_685 rfl (lv_at hl 2 rfl) ?_
              refine lv_iload hx hb d_La_law_686 (lv_at hl 1 rfl) ?_
              refine lv_iconst (v := 1) hx hb d_La_law_688 (by decide) ?_
              refine e_iadd (v := nI (4 * i + 1)) hx hb d_La_law_689 (nI_add (4 * i) 1) ?_
              refine va_sld hx hb hX hbl hbA hV.2.1 (i := nI (4 * i + 1)) (nI_in (by omega) (by omega)) d_La_law_690 ?_
              refine W.eq (g2 := F0 m 691 ls [.int (xs (4 * i + 1)), .ref (lo + 32)]) (by rw [nI_clamp (by omega)]) ?_
              refine lv_aload_n hx hb d_La_law_691 rfl (lv_at hl 2 rfl) ?_
              refine lv_iload hx hb d_La_law_692 (lv_at hl 1 rfl) ?_
              refine lv_iconst (v := 2) hx hb d_La_law_694 (by decide) ?_
              refine e_iadd (v := nI (4 * i + 2)) hx hb d_La_law_695 (nI_add (4 * i) 2) ?_
              refine va_sld hx hb hX hbl hbA hV.2.1 (i := nI (4 * i + 2)) (nI_in (by omega) (by omega)) d_La_law_696 ?_
              refine W.eq (g2 := F0 m 697 ls [.int (xs (4 * i + 2)), .int (xs (4 * i + 1)), .ref (lo + 32)]) (by rw [nI_clamp (by omega)]) ?_
              refine lv_if_eq (tgt := 704) hx hb d_La_law_697 (by decide) (fun c_34 => ?_) (fun c_34 => absurd (c_33) c_34)
              refine lv_iconst (v := 0) hx hb d_La_law_704 (by decide) ?_
              obtain ⟨fy, hy0⟩ := hM1.at
              refine v_call (va_runV (As := [.int (xs (4 * i + 1)), .int 0]) (rest := []) ⟨hx, hb, hml, hown, hts⟩ (k_Mo_along l G lo hM1 _ (xs (4 * i + 1)) 0) (kwV 2 hts w_co_Mo_along rfl rfl w_it_Mo w_ml_La_103 w_im_Mo_along w_se_Mo__Mo_along (by decide +kernel) ⟨(Nat.le_of_ble_eq_true rfl), (Nat.le_of_ble_eq_true rfl)⟩) (v_preV hK hV rfl rfl hy0 rfl) rfl rfl hl.1 rfl (lv_room (Nat.le_of_ble_eq_true rfl)) d_La_law_705 ⟨by rw [hRc]; omega, by rw [hRs]; omega⟩) hV (fun r9 V2 H2 locs hp hV hle => ?_)
              obtain ⟨rfl, ⟨hM2, hfr2⟩, hz2⟩ := hp
              have hC2 : cS G V2 lo (lo + 46) H2.size Q B S L t n wr F PB := by rw [hz2]; exact hC1.eq (fun a h1 h2 => hfr2 a (by omega)) (fun a h1 h2 => hfr2 a (by omega))
              have ho2 : V2 (lo + 45) = some (eL (gL G) 1 f9) := (hfr2 _ (by omega)).trans ho1
              refine W.eq (g2 := F0 m 708 ls [.int (vaI (aloR (bsel 0 B S) (xs (4 * i + 1))))]) rfl ?_
              refine lv_istore (lv' := [(6, .int (vaI (aloR (bsel 0 B S) (xs (4 * i + 1))))), (5, .int (thI (aloR (bsel 0 B S) (xs (4 * i + 1))))), (4, .int (nI (4 * i))), (0, .ref b), (1, .ref lo), (2, .ref (lo + 32)), (3, .ref (lo + 45))]) hx hb d_La_law_708 hl (by decide) rfl (fun ls hl => ?_)
              refine lv_aload_n hx hb d_La_law_710 rfl (lv_at hl 5 rfl) ?_
              obtain ⟨fz, hz0⟩ := hM2.at
              refine v_call (va_runV (As := []) (rest := []) ⟨hx, hb, hml, hown, hts⟩ (k_Mo_thrown l G lo hM2 _) (kwV 0 hts w_co_Mo_thrown rfl rfl w_it_Mo w_ml_La_68 w_im_Mo_thrown w_se_Mo__Mo_thrown (by decide +kernel) ⟨(Nat.le_of_ble_eq_true rfl), (Nat.le_of_ble_eq_true rfl)⟩) (v_preV hK hV rfl rfl hz0 rfl) rfl rfl hl.1 rfl (lv_room (Nat.le_of_ble_eq_true rfl)) d_La_law_711 ⟨by rw [hRc]; omega, by rw [hRs]; omega⟩) hV (fun r9 V3 H3 locs hp hV hle => ?_)
              obtain ⟨rfl, hv3, hz3⟩ := hp
              rw [hv3] at hV
              have hC3 : cS G V2 lo (lo + 46) H3.size Q B S L t n wr F PB := by rw [hz3]; exact hC2
              refine W.eq (g2 := F0 m 714 ls [.int (thI (aloR (bsel 0 B S) (xs (4 * i + 1))))]) rfl ?_
              refine lv_iload hx hb d_La_law_714 (lv_at hl 1 rfl) ?_
              refine lv_icmp_eq (tgt := 721) hx hb d_La_law_716 (by decide) (fun c_35 => ?_) (fun c_35 => absurd (rfl) c_35)
              refine lv_iload hx hb d_La_law_721 (lv_at hl 1 rfl) ?_
              refine lv_if_ne (tgt := 738) hx hb d_La_law_723 (by decide) (fun c_36 => ?_) (fun c_36 => ?_)
              · refine lv_goto (tgt := 947) hx hb d_La_law_738 (by decide) ?_
                refine lv_iinc (v := nI (4 * (i + 1))) (lv' := [(4, .int (nI (4 * (i + 1)))), (6, .int (vaI (aloR (bsel 0 B S) (xs (4 * i + 1))))), (5, .int (thI (aloR (bsel 0 B S) (xs (4 * i + 1))))), (0, .ref b), (1, .ref lo), (2, .ref (lo + 32)), (3, .ref (lo + 45))]) hx hb d_La_law_947 hl (k := 2) rfl (nI_add (4 * i) 4) (by decide) rfl (fun ls hl => ?_)
                refine lv_goto (tgt := 23) hx hb d_La_law_950 (by decide) ?_
                exact ih (i + 1) V2 _ Q B S L t n wr F PB f9 H3.size _ _ (by omega) (by omega) (by omega) (by omega) hC3 hM2 ho2 H3 locs ls rfl hV (lv_sub hl [0, 3, 4, 5, 6] rfl)
              · refine lv_aload_n hx hb d_La_law_726 rfl (lv_at hl 6 rfl) ?_
                refine lv_iconst (v := 0) hx hb d_La_law_727 (by decide) ?_
                have hV4 : vS G.1 cls lo s H3 locs (vU V2 [(lo + 45, eL (gL G) 1 f9)]) := by rw [vU_all (W := V2) (ds := [(lo + 45, eL (gL G) 1 f9)]) (fun z hz => by rw [List.mem_singleton.mp hz]; exact ho2)]; exact hV
                refine u_laldN (j := 0) hx hb hK hV4 (show [lo + 45].Nodup by simp) 0 rfl (by decide) (by decide) d_La_law_728 ?_
                refine W.eq (g2 := F0 m 729 ls [.long ((vaI (aloR (bsel 0 B S) (xs (4 * i + 1)))).toInt64)]) (by rw [hf9 c_36]) ?_
                refine lv_iload hx hb d_La_law_729 (lv_at hl 0 rfl) ?_
                refine lv_i2l (v := (vaI (aloR (bsel 0 B S) (xs (4 * i + 1)))).toInt64) hx hb d_La_law_731 (rfl) ?_
                refine W.lcmp hx hb d_La_law_732 ?_
                refine lv_if_eq (tgt := 738) hx hb d_La_law_733 (by decide) (fun c_37 => ?_) (fun c_37 => absurd ((lg_cmp_eq _ _).mpr rfl) c_37)
                refine lv_goto (tgt := 947) hx hb d_La_law_738 (by decide) ?_
                refine lv_iinc (v := nI (4 * (i + 1))) (lv' := [(4, .int (nI (4 * (i + 1)))), (6, .int (vaI (aloR (bsel 0 B S) (xs (4 * i + 1))))), (5, .int (thI (aloR (bsel 0 B S) (xs (4 * i + 1))))), (0, .ref b), (1, .ref lo), (2, .ref (lo + 32)), (3, .ref (lo + 45))]) hx hb d_La_law_947 hl (k := 2) rfl (nI_add (4 * i) 4) (by decide) rfl (fun ls hl => ?_)
                refine lv_goto (tgt := 23) hx hb d_La_law_950 (by decide) ?_
                exact ih (i + 1) V2 _ Q B S L t n wr F PB f9 H3.size _ _ (by omega) (by omega) (by omega) (by omega) hC3 hM2 ho2 H3 locs ls rfl hV (lv_sub hl [0, 3, 4, 5, 6] rfl)
            · refine lv_iconst (v := 1) hx hb d_La_law_673 (by decide) ?_
              refine lv_goto (tgt := 678) hx hb d_La_law_674 (by decide) ?_
              refine lv_aload_n hx hb d_La_law_678 rfl (lv_at hl 4 rfl) ?_
              refine x_callSW (n := 4) (As := [.ref lo, .int (xs (4 * i + 1)), .int 1, .ref (lo + 45)]) (rest := []) hx hb hml hown hts (c_La_along l hlT G lo hC (by omega) (by omega) ho (xs (4 * i + 1)) 1) w_co_La_along w_it_La w_ml_La_101 w_st_La_along (by decide +kernel) rfl rfl ⟨(Nat.le_of_ble_eq_true rfl), (Nat.le_of_ble_eq_true rfl)⟩ (v_preS hK hV rfl hz) rfl hl.1 rfl (Nat.le_of_ble_eq_true rfl) d_La_law_679 ⟨by rw [hRc]; omega, by rw [hRs]; omega⟩ hV (fun r9 V1 H locs hp hV hle => ?_)
              obtain ⟨rfl, f9, ho1, hf9, hC1, hfr, hsz9⟩ := hp
              have hM1 : mS G V1 (lo + 32) th Q B S L t n wr F PB := hM.eq (fun a h1 h2 => hfr a (by omega) (by omega) (by omega))
              refine W.eq (g2 := F0 m 682 ls [.int (thI (aloR (bsel 1 B S) (xs (4 * i + 1))))]) rfl ?_
              refine lv_istore (lv' := [(5, .int (thI (aloR (bsel 1 B S) (xs (4 * i + 1))))), (4, .int (nI (4 * i))), (0, .ref b), (1, .ref lo), (2, .ref (lo + 32)), (3, .ref (lo + 45))]) hx hb d_La_law_682 hl (by decide) rfl (fun ls hl => ?_)
              refine lv_aload_n hx hb d_La_law_684 rfl (lv_at hl 4 rfl) ?_
              refine lv_aload_n hx hb d_La_law_685 rfl (lv_at hl 2 rfl) ?_
              refine lv_iload hx hb d_La_law_686 (lv_at hl 1 rfl) ?_
              refine lv_iconst (v := 1) hx hb d_La_law_688 (by decide) ?_
              refine e_iadd (v := nI (4 * i + 1)) hx hb d_La_law_689 (nI_add (4 * i) 1) ?_
              refine va_sld hx hb hX hbl hbA hV.2.1 (i := nI (4 * i + 1)) (nI_in (by omega) (by omega)) d_La_law_690 ?_
              refine W.eq (g2 := F0 m 691 ls [.int (xs (4 * i + 1)), .ref (lo + 32)]) (by rw [nI_clamp (by omega)]) ?_
              refine lv_aload_n hx hb d_La_law_691 rfl (lv_at hl 2 rfl) ?_
              refine lv_iload hx hb d_La_law_692 (lv_at hl 1 rfl) ?_
              refine lv_iconst (v := 2) hx hb d_La_law_694 (by decide) ?_
              refine e_iadd (v := nI (4 * i + 2)) hx hb d_La_law_695 (nI_add (4 * i) 2) ?_
              refine va_sld hx hb hX hbl hbA hV.2.1 (i := nI (4 * i + 2)) (nI_in (by omega) (by omega)) d_La_law_696 ?_
              refine W.eq (g2 := F0 m 697 ls [.int (xs (4 * i + 2)), .int (xs (4 * i + 1)), .ref (lo + 32)]) (by rw [nI_clamp (by omega)]) ?_
              refine lv_if_eq (tgt := 704) hx hb d_La_law_697 (by decide) (fun c_38 => absurd c_38 (c_33)) (fun c_38 => ?_)
              refine lv_iconst (v := 1) hx hb d_La_law_700 (by decide) ?_
              refine lv_goto (tgt := 705) hx hb d_La_law_701 (by decide) ?_
              obtain ⟨fy, hy0⟩ := hM1.at
              refine v_call (va_runV (As := [.int (xs (4 * i + 1)), .int 1]) (rest := []) ⟨hx, hb, hml, hown, hts⟩ (k_Mo_along l G lo hM1 _ (xs (4 * i + 1)) 1) (kwV 2 hts w_co_Mo_along rfl rfl w_it_Mo w_ml_La_103 w_im_Mo_along w_se_Mo__Mo_along (by decide +kernel) ⟨(Nat.le_of_ble_eq_true rfl), (Nat.le_of_ble_eq_true rfl)⟩) (v_preV hK hV rfl rfl hy0 rfl) rfl rfl hl.1 rfl (lv_room (Nat.le_of_ble_eq_true rfl)) d_La_law_705 ⟨by rw [hRc]; omega, by rw [hRs]; omega⟩) hV (fun r9 V2 H2 locs hp hV hle => ?_)
              obtain ⟨rfl, ⟨hM2, hfr2⟩, hz2⟩ := hp
              have hC2 : cS G V2 lo (lo + 46) H2.size Q B S L t n wr F PB := by rw [hz2]; exact hC1.eq (fun a h1 h2 => hfr2 a (by omega)) (fun a h1 h2 => hfr2 a (by omega))
              have ho2 : V2 (lo + 45) = some (eL (gL G) 1 f9) := (hfr2 _ (by omega)).trans ho1
              refine W.eq (g2 := F0 m 708 ls [.int (vaI (aloR (bsel 1 B S) (xs (4 * i + 1))))]) rfl ?_
              refine lv_istore (lv' := [(6, .int (vaI (aloR (bsel 1 B S) (xs (4 * i + 1))))), (5, .int (thI (aloR (bsel 1 B S) (xs (4 * i + 1))))), (4, .int (nI (4 * i))), (0, .ref b), (1, .ref lo), (2, .ref (lo + 32)), (3, .ref (lo + 45))]) hx hb d_La_law_708 hl (by decide) rfl (fun ls hl => ?_)
              refine lv_aload_n hx hb d_La_law_710 rfl (lv_at hl 5 rfl) ?_
              obtain ⟨fz, hz0⟩ := hM2.at
              refine v_call (va_runV (As := []) (rest := []) ⟨hx, hb, hml, hown, hts⟩ (k_Mo_thrown l G lo hM2 _) (kwV 0 hts w_co_Mo_thrown rfl rfl w_it_Mo w_ml_La_68 w_im_Mo_thrown w_se_Mo__Mo_thrown (by decide +kernel) ⟨(Nat.le_of_ble_eq_true rfl), (Nat.le_of_ble_eq_true rfl)⟩) (v_preV hK hV rfl rfl hz0 rfl) rfl rfl hl.1 rfl (lv_room (Nat.le_of_ble_eq_true rfl)) d_La_law_711 ⟨by rw [hRc]; omega, by rw [hRs]; omega⟩) hV (fun r9 V3 H3 locs hp hV hle => ?_)
              obtain ⟨rfl, hv3, hz3⟩ := hp
              rw [hv3] at hV
              have hC3 : cS G V2 lo (lo + 46) H3.size Q B S L t n wr F PB := by rw [hz3]; exact hC2
              refine W.eq (g2 := F0 m 714 ls [.int (thI (aloR (bsel 1 B S) (xs (4 * i + 1))))]) rfl ?_
              refine lv_iload hx hb d_La_law_714 (lv_at hl 1 rfl) ?_
              refine lv_icmp_eq (tgt := 721) hx hb d_La_law_716 (by decide) (fun c_39 => ?_) (fun c_39 => absurd (rfl) c_39)
              refine lv_iload hx hb d_La_law_721 (lv_at hl 1 rfl) ?_
              refine lv_if_ne (tgt := 738) hx hb d_La_law_723 (by decide) (fun c_40 => ?_) (fun c_40 => ?_)
              · refine lv_goto (tgt := 947) hx hb d_La_law_738 (by decide) ?_
                refine lv_iinc (v := nI (4 * (i + 1))) (lv' := [(4, .int (nI (4 * (i + 1)))), (6, .int (vaI (aloR (bsel 1 B S) (xs (4 * i + 1))))), (5, .int (thI (aloR (bsel 1 B S) (xs (4 * i + 1))))), (0, .ref b), (1, .ref lo), (2, .ref (lo + 32)), (3, .ref (lo + 45))]) hx hb d_La_law_947 hl (k := 2) rfl (nI_add (4 * i) 4) (by decide) rfl (fun ls hl => ?_)
                refine lv_goto (tgt := 23) hx hb d_La_law_950 (by decide) ?_
                exact ih (i + 1) V2 _ Q B S L t n wr F PB f9 H3.size _ _ (by omega) (by omega) (by omega) (by omega) hC3 hM2 ho2 H3 locs ls rfl hV (lv_sub hl [0, 3, 4, 5, 6] rfl)
              · refine lv_aload_n hx hb d_La_law_726 rfl (lv_at hl 6 rfl) ?_
                refine lv_iconst (v := 0) hx hb d_La_law_727 (by decide) ?_
                have hV4 : vS G.1 cls lo s H3 locs (vU V2 [(lo + 45, eL (gL G) 1 f9)]) := by rw [vU_all (W := V2) (ds := [(lo + 45, eL (gL G) 1 f9)]) (fun z hz => by rw [List.mem_singleton.mp hz]; exact ho2)]; exact hV
                refine u_laldN (j := 0) hx hb hK hV4 (show [lo + 45].Nodup by simp) 0 rfl (by decide) (by decide) d_La_law_728 ?_
                refine W.eq (g2 := F0 m 729 ls [.long ((vaI (aloR (bsel 1 B S) (xs (4 * i + 1)))).toInt64)]) (by rw [hf9 c_40]) ?_
                refine lv_iload hx hb d_La_law_729 (lv_at hl 0 rfl) ?_
                refine lv_i2l (v := (vaI (aloR (bsel 1 B S) (xs (4 * i + 1)))).toInt64) hx hb d_La_law_731 (rfl) ?_
                refine W.lcmp hx hb d_La_law_732 ?_
                refine lv_if_eq (tgt := 738) hx hb d_La_law_733 (by decide) (fun c_41 => ?_) (fun c_41 => absurd ((lg_cmp_eq _ _).mpr rfl) c_41)
                refine lv_goto (tgt := 947) hx hb d_La_law_738 (by decide) ?_
                refine lv_iinc (v := nI (4 * (i + 1))) (lv' := [(4, .int (nI (4 * (i + 1)))), (6, .int (vaI (aloR (bsel 1 B S) (xs (4 * i + 1))))), (5, .int (thI (aloR (bsel 1 B S) (xs (4 * i + 1))))), (0, .ref b), (1, .ref lo), (2, .ref (lo + 32)), (3, .ref (lo + 45))]) hx hb d_La_law_947 hl (k := 2) rfl (nI_add (4 * i) 4) (by decide) rfl (fun ls hl => ?_)
                refine lv_goto (tgt := 23) hx hb d_La_law_950 (by decide) ?_
                exact ih (i + 1) V2 _ Q B S L t n wr F PB f9 H3.size _ _ (by omega) (by omega) (by omega) (by omega) hC3 hM2 ho2 H3 locs ls rfl hV (lv_sub hl [0, 3, 4, 5, 6] rfl)
          · refine lv_tableIn (tgt := 741) (off := 702) hx hb d_La_law_39 (by decide) (by decide) (by decide) (by decide) ?_
            refine lv_aload_n hx hb d_La_law_741 rfl (lv_at hl 2 rfl) ?_
            refine v_call (va_runV (As := []) (rest := []) ⟨hx, hb, hml, hown, hts⟩ (k_SG_check l G lo hC) (kwV 0 hts w_co_SG_check rfl rfl w_it_SG w_ml_La_104 w_im_SG_check w_se_SG__SG_check (by decide +kernel) ⟨(Nat.le_of_ble_eq_true rfl), (Nat.le_of_ble_eq_true rfl)⟩) (v_preV hK hV rfl hz hx0 rfl) rfl rfl hl.1 rfl (lv_room (Nat.le_of_ble_eq_true rfl)) d_La_law_742 ⟨by rw [hRc]; omega, by rw [hRs]; omega⟩) hV (fun r9 V1 H locs hp hV hle => ?_)
            obtain ⟨rfl, ⟨hC1, hfr, hsz9⟩, hz1⟩ := hp
            have hM1 : mS G V1 (lo + 32) th Q B S L t n wr F PB := hM.eq (fun a h1 h2 => hfr a (by omega) (by omega))
            have ho1 : V1 (lo + 45) = some (eL (gL G) 1 fo) := (hfr _ (by omega) (by omega)).trans ho
            refine W.eq (g2 := F0 m 745 ls [.int (nI (fltA (Q, B, S, L)).length)]) rfl ?_
            refine lv_aload_n hx hb d_La_law_745 rfl (lv_at hl 3 rfl) ?_
            obtain ⟨fy, hy0⟩ := hM1.at
            refine v_call (va_runV (As := []) (rest := [.int (nI (fltA (Q, B, S, L)).length)]) ⟨hx, hb, hml, hown, hts⟩ (k_Mo_check l G lo hM1 _ ) (kwV 0 hts w_co_Mo_check rfl rfl w_it_Mo w_ml_La_107 w_im_Mo_check w_se_Mo__Mo_check (by decide +kernel) ⟨(Nat.le_of_ble_eq_true rfl), (Nat.le_of_ble_eq_true rfl)⟩) (v_preV hK hV rfl rfl hy0 rfl) rfl rfl hl.1 rfl (lv_room (Nat.le_of_ble_eq_true rfl)) d_La_law_746 ⟨by rw [hRc]; omega, by rw [hRs]; omega⟩) hV (fun r9 V2 H2 locs hp hV hle => ?_)
            obtain ⟨rfl, ⟨hM2, hfr2⟩, hz2⟩ := hp
            have hC2 : cS G V2 lo (lo + 46) H2.size Q B S L t n wr (fltA (Q, B, S, L)) PB := by rw [hz2]; exact hC1.eq (fun a h1 h2 => hfr2 a (by omega)) (fun a h1 h2 => hfr2 a (by omega))
            have ho2 : V2 (lo + 45) = some (eL (gL G) 1 fo) := (hfr2 _ (by omega)).trans ho1
            refine W.eq (g2 := F0 m 749 ls [.int (nI (fltA (Q, B, S, L)).length), .int (nI (fltA (Q, B, S, L)).length)]) rfl ?_
            refine lv_icmp_eq (tgt := 947) hx hb d_La_law_749 (by decide) (fun c_42 => ?_) (fun c_42 => absurd (rfl) c_42)
            refine lv_iinc (v := nI (4 * (i + 1))) (lv' := [(4, .int (nI (4 * (i + 1)))), (0, .ref b), (1, .ref lo), (2, .ref (lo + 32)), (3, .ref (lo + 45))]) hx hb d_La_law_947 hl (k := 0) rfl (nI_add (4 * i) 4) (by decide) rfl (fun ls hl => ?_)
            refine lv_goto (tgt := 23) hx hb d_La_law_950 (by decide) ?_
            exact ih (i + 1) V2 _ Q B S L t n wr (fltA (Q, B, S, L)) PB fo H2.size _ _ (by omega) (by omega) (by omega) (by omega) hC2 hM2 ho2 H2 locs ls rfl hV (lv_sub hl [0, 1, 2, 3, 4] rfl)
          · refine lv_tableIn (tgt := 754) (off := 715) hx hb d_La_law_39 (by decide) (by decide) (by decide) (by decide) ?_
            refine lv_aload_n hx hb d_La_law_754 rfl (lv_at hl 2 rfl) ?_
            refine lv_aload_n hx hb d_La_law_755 rfl (lv_at hl 1 rfl) ?_
            refine lv_iload hx hb d_La_law_756 (lv_at hl 0 rfl) ?_
            refine lv_iconst (v := 1) hx hb d_La_law_758 (by decide) ?_
            refine e_iadd (v := nI (4 * i + 1)) hx hb d_La_law_759 (nI_add (4 * i) 1) ?_
            refine va_sld hx hb hX hbl hbA hV.2.1 (i := nI (4 * i + 1)) (nI_in (by omega) (by omega)) d_La_law_760 ?_
            refine W.eq (g2 := F0 m 761 ls [.int (xs (4 * i + 1)), .ref lo]) (by rw [nI_clamp (by omega)]) ?_
            refine lv_aload_n hx hb d_La_law_761 rfl (lv_at hl 1 rfl) ?_
            refine lv_iload hx hb d_La_law_762 (lv_at hl 0 rfl) ?_
            refine lv_iconst (v := 2) hx hb d_La_law_764 (by decide) ?_
            refine e_iadd (v := nI (4 * i + 2)) hx hb d_La_law_765 (nI_add (4 * i) 2) ?_
            refine va_sld hx hb hX hbl hbA hV.2.1 (i := nI (4 * i + 2)) (nI_in (by omega) (by omega)) d_La_law_766 ?_
            refine W.eq (g2 := F0 m 767 ls [.int (xs (4 * i + 2)), .int (xs (4 * i + 1)), .ref lo]) (by rw [nI_clamp (by omega)]) ?_
            refine lv_aload_n hx hb d_La_law_767 rfl (lv_at hl 4 rfl) ?_
            refine x_callSW (n := 4) (As := [.ref lo, .int (xs (4 * i + 1)), .int (xs (4 * i + 2)), .ref (lo + 45)]) (rest := []) hx hb hml hown hts (c_La_fault l hlT G lo hC (by omega) (by omega) ho (xs (4 * i + 1)) (xs (4 * i + 2))) w_co_La_fault w_it_La w_ml_La_108 w_st_La_fault (by decide +kernel) rfl rfl ⟨(Nat.le_of_ble_eq_true rfl), (Nat.le_of_ble_eq_true rfl)⟩ (v_preS hK hV rfl hz) rfl hl.1 rfl (Nat.le_of_ble_eq_true rfl) d_La_law_768 ⟨by rw [hRc]; omega, by rw [hRs]; omega⟩ hV (fun r9 V1 H locs hp hV hle => ?_)
            obtain ⟨rfl, f9, ho1, hf9, hC1, hfr, hsz9⟩ := hp
            have hM1 : mS G V1 (lo + 32) th Q B S L t n wr F PB := hM.eq (fun a h1 h2 => hfr a (by omega) (by omega) (by omega))
            refine W.eq (g2 := F0 m 771 ls [.int (thI (fauR F (xs (4 * i + 1)) (xs (4 * i + 2))))]) rfl ?_
            refine lv_istore (lv' := [(5, .int (thI (fauR F (xs (4 * i + 1)) (xs (4 * i + 2))))), (4, .int (nI (4 * i))), (0, .ref b), (1, .ref lo), (2, .ref (lo + 32)), (3, .ref (lo + 45))]) hx hb d_La_law_771 hl (by decide) rfl (fun ls hl => ?_)
            refine lv_aload_n hx hb d_La_law_773 rfl (lv_at hl 4 rfl) ?_
            refine lv_aload_n hx hb d_La_law_774 rfl (lv_at hl 2 rfl) ?_
            refine lv_iload hx hb d_La_law_775 (lv_at hl 1 rfl) ?_
            refine lv_iconst (v := 1) hx hb d_La_law_777 (by decide) ?_
            refine e_iadd (v := nI (4 * i + 1)) hx hb d_La_law_778 (nI_add (4 * i) 1) ?_
            refine va_sld hx hb hX hbl hbA hV.2.1 (i := nI (4 * i + 1)) (nI_in (by omega) (by omega)) d_La_law_779 ?_
            refine W.eq (g2 := F0 m 780 ls [.int (xs (4 * i + 1)), .ref (lo + 32)]) (by rw [nI_clamp (by omega)]) ?_
            refine lv_aload_n hx hb d_La_law_780 rfl (lv_at hl 2 rfl) ?_
            refine lv_iload hx hb d_La_law_781 (lv_at hl 1 rfl) ?_
            refine lv_iconst (v := 2) hx hb d_La_law_783 (by decide) ?_
            refine e_iadd (v := nI (4 * i + 2)) hx hb d_La_law_784 (nI_add (4 * i) 2) ?_
            refine va_sld hx hb hX hbl hbA hV.2.1 (i := nI (4 * i + 2)) (nI_in (by omega) (by omega)) d_La_law_785 ?_
            refine W.eq (g2 := F0 m 786 ls [.int (xs (4 * i + 2)), .int (xs (4 * i + 1)), .ref (lo + 32)]) (by rw [nI_clamp (by omega)]) ?_
            obtain ⟨fy, hy0⟩ := hM1.at
            refine v_call (va_runV (As := [.int (xs (4 * i + 1)), .int (xs (4 * i + 2))]) (rest := []) ⟨hx, hb, hml, hown, hts⟩ (k_Mo_fault l G lo hM1 _ (xs (4 * i + 1)) (xs (4 * i + 2))) (kwV 2 hts w_co_Mo_fault rfl rfl w_it_Mo w_ml_La_110 w_im_Mo_fault w_se_Mo__Mo_fault (by decide +kernel) ⟨(Nat.le_of_ble_eq_true rfl), (Nat.le_of_ble_eq_true rfl)⟩) (v_preV hK hV rfl rfl hy0 rfl) rfl rfl hl.1 rfl (lv_room (Nat.le_of_ble_eq_true rfl)) d_La_law_786 ⟨by rw [hRc]; omega, by rw [hRs]; omega⟩) hV (fun r9 V2 H2 locs hp hV hle => ?_)
            obtain ⟨rfl, ⟨hM2, hfr2⟩, hz2⟩ := hp
            have hC2 : cS G V2 lo (lo + 46) H2.size Q B S L t n wr F PB := by rw [hz2]; exact hC1.eq (fun a h1 h2 => hfr2 a (by omega)) (fun a h1 h2 => hfr2 a (by omega))
            have ho2 : V2 (lo + 45) = some (eL (gL G) 1 f9) := (hfr2 _ (by omega)).trans ho1
            refine W.eq (g2 := F0 m 789 ls [.int (vaI (fauR F (xs (4 * i + 1)) (xs (4 * i + 2))))]) rfl ?_
            refine lv_istore (lv' := [(6, .int (vaI (fauR F (xs (4 * i + 1)) (xs (4 * i + 2))))), (5, .int (thI (fauR F (xs (4 * i + 1)) (xs (4 * i + 2))))), (4, .int (nI (4 * i))), (0, .ref b), (1, .ref lo), (2, .ref (lo + 32)), (3, .ref (lo + 45))]) hx hb d_La_law_789 hl (by decide) rfl (fun ls hl => ?_)
            refine lv_aload_n hx hb d_La_law_791 rfl (lv_at hl 5 rfl) ?_
            obtain ⟨fz, hz0⟩ := hM2.at
            refine v_call (va_runV (As := []) (rest := []) ⟨hx, hb, hml, hown, hts⟩ (k_Mo_thrown l G lo hM2 _) (kwV 0 hts w_co_Mo_thrown rfl rfl w_it_Mo w_ml_La_68 w_im_Mo_thrown w_se_Mo__Mo_thrown (by decide +kernel) ⟨(Nat.le_of_ble_eq_true rfl), (Nat.le_of_ble_eq_true rfl)⟩) (v_preV hK hV rfl rfl hz0 rfl) rfl rfl hl.1 rfl (lv_room (Nat.le_of_ble_eq_true rfl)) d_La_law_792 ⟨by rw [hRc]; omega, by rw [hRs]; omega⟩) hV (fun r9 V3 H3 locs hp hV hle => ?_)
            obtain ⟨rfl, hv3, hz3⟩ := hp
            rw [hv3] at hV
            have hC3 : cS G V2 lo (lo + 46) H3.size Q B S L t n wr F PB := by rw [hz3]; exact hC2
            refine W.eq (g2 := F0 m 795 ls [.int (thI (fauR F (xs (4 * i + 1)) (xs (4 * i + 2))))]) rfl ?_
            refine lv_iload hx hb d_La_law_795 (lv_at hl 1 rfl) ?_
            refine lv_icmp_eq (tgt := 802) hx hb d_La_law_797 (by decide) (fun c_43 => ?_) (fun c_43 => absurd (rfl) c_43)
            refine lv_iload hx hb d_La_law_802 (lv_at hl 1 rfl) ?_
            refine lv_if_ne (tgt := 819) hx hb d_La_law_804 (by decide) (fun c_44 => ?_) (fun c_44 => ?_)
            · refine lv_goto (tgt := 947) hx hb d_La_law_819 (by decide) ?_
              refine lv_iinc (v := nI (4 * (i + 1))) (lv' := [(4, .int (nI (4 * (i + 1)))), (6, .int (vaI (fauR F (xs (4 * i + 1)) (xs (4 * i + 2))))), (5, .int (thI (fauR F (xs (4 * i + 1)) (xs (4 * i + 2))))), (0, .ref b), (1, .ref lo), (2, .ref (lo + 32)), (3, .ref (lo + 45))]) hx hb d_La_law_947 hl (k := 2) rfl (nI_add (4 * i) 4) (by decide) rfl (fun ls hl => ?_)
              refine lv_goto (tgt := 23) hx hb d_La_law_950 (by decide) ?_
              exact ih (i + 1) V2 _ Q B S L t n wr F PB f9 H3.size _ _ (by omega) (by omega) (by omega) (by omega) hC3 hM2 ho2 H3 locs ls rfl hV (lv_sub hl [0, 3, 4, 5, 6] rfl)
            · refine lv_aload_n hx hb d_La_law_807 rfl (lv_at hl 6 rfl) ?_
              refine lv_iconst (v := 0) hx hb d_La_law_808 (by decide) ?_
              have hV4 : vS G.1 cls lo s H3 locs (vU V2 [(lo + 45, eL (gL G) 1 f9)]) := by rw [vU_all (W := V2) (ds := [(lo + 45, eL (gL G) 1 f9)]) (fun z hz => by rw [List.mem_singleton.mp hz]; exact ho2)]; exact hV
              refine u_laldN (j := 0) hx hb hK hV4 (show [lo + 45].Nodup by simp) 0 rfl (by decide) (by decide) d_La_law_809 ?_
              refine W.eq (g2 := F0 m 810 ls [.long ((vaI (fauR F (xs (4 * i + 1)) (xs (4 * i + 2)))).toInt64)]) (by rw [hf9 c_44]) ?_
              refine lv_iload hx hb d_La_law_810 (lv_at hl 0 rfl) ?_
              refine lv_i2l (v := (vaI (fauR F (xs (4 * i + 1)) (xs (4 * i + 2)))).toInt64) hx hb d_La_law_812 (rfl) ?_
              refine W.lcmp hx hb d_La_law_813 ?_
              refine lv_if_eq (tgt := 819) hx hb d_La_law_814 (by decide) (fun c_45 => ?_) (fun c_45 => absurd ((lg_cmp_eq _ _).mpr rfl) c_45)
              refine lv_goto (tgt := 947) hx hb d_La_law_819 (by decide) ?_
              refine lv_iinc (v := nI (4 * (i + 1))) (lv' := [(4, .int (nI (4 * (i + 1)))), (6, .int (vaI (fauR F (xs (4 * i + 1)) (xs (4 * i + 2))))), (5, .int (thI (fauR F (xs (4 * i + 1)) (xs (4 * i + 2))))), (0, .ref b), (1, .ref lo), (2, .ref (lo + 32)), (3, .ref (lo + 45))]) hx hb d_La_law_947 hl (k := 2) rfl (nI_add (4 * i) 4) (by decide) rfl (fun ls hl => ?_)
              refine lv_goto (tgt := 23) hx hb d_La_law_950 (by decide) ?_
              exact ih (i + 1) V2 _ Q B S L t n wr F PB f9 H3.size _ _ (by omega) (by omega) (by omega) (by omega) hC3 hM2 ho2 H3 locs ls rfl hV (lv_sub hl [0, 3, 4, 5, 6] rfl)
          · refine lv_tableIn (tgt := 822) (off := 783) hx hb d_La_law_39 (by decide) (by decide) (by decide) (by decide) ?_
            refine lv_aload_n hx hb d_La_law_822 rfl (lv_at hl 2 rfl) ?_
            refine v_call (va_runV (As := []) (rest := []) ⟨hx, hb, hml, hown, hts⟩ (k_SG_print l G lo hC) (kwV 0 hts w_co_SG_print rfl rfl w_it_SG w_ml_La_111 w_im_SG_print w_se_SG__SG_print (by decide +kernel) ⟨(Nat.le_of_ble_eq_true rfl), (Nat.le_of_ble_eq_true rfl)⟩) (v_preV hK hV rfl hz hx0 rfl) rfl rfl hl.1 rfl (lv_room (Nat.le_of_ble_eq_true rfl)) d_La_law_823 ⟨by rw [hRc]; omega, by rw [hRs]; omega⟩) hV (fun r9 V1 H locs hp hV hle => ?_)
            obtain ⟨rfl, ⟨hC1, hfr, hsz9⟩, hz1⟩ := hp
            have hM1 : mS G V1 (lo + 32) th Q B S L t n wr F PB := hM.eq (fun a h1 h2 => hfr a (by omega) (by omega))
            have ho1 : V1 (lo + 45) = some (eL (gL G) 1 fo) := (hfr _ (by omega) (by omega)).trans ho
            refine W.eq (g2 := F0 m 826 ls [.int (nI (prA (Q, B, S, L)).length)]) rfl ?_
            refine lv_aload_n hx hb d_La_law_826 rfl (lv_at hl 3 rfl) ?_
            obtain ⟨fy, hy0⟩ := hM1.at
            refine v_call (va_runV (As := []) (rest := [.int (nI (prA (Q, B, S, L)).length)]) ⟨hx, hb, hml, hown, hts⟩ (k_Mo_print l G lo hM1 _ ) (kwV 0 hts w_co_Mo_print rfl rfl w_it_Mo w_ml_La_114 w_im_Mo_print w_se_Mo__Mo_print (by decide +kernel) ⟨(Nat.le_of_ble_eq_true rfl), (Nat.le_of_ble_eq_true rfl)⟩) (v_preV hK hV rfl rfl hy0 rfl) rfl rfl hl.1 rfl (lv_room (Nat.le_of_ble_eq_true rfl)) d_La_law_827 ⟨by rw [hRc]; omega, by rw [hRs]; omega⟩) hV (fun r9 V2 H2 locs hp hV hle => ?_)
            obtain ⟨rfl, ⟨hM2, hfr2⟩, hz2⟩ := hp
            have hC2 : cS G V2 lo (lo + 46) H2.size Q B S L t n wr F (prA (Q, B, S, L)) := by rw [hz2]; exact hC1.eq (fun a h1 h2 => hfr2 a (by omega)) (fun a h1 h2 => hfr2 a (by omega))
            have ho2 : V2 (lo + 45) = some (eL (gL G) 1 fo) := (hfr2 _ (by omega)).trans ho1
            refine W.eq (g2 := F0 m 830 ls [.int (nI (prA (Q, B, S, L)).length), .int (nI (prA (Q, B, S, L)).length)]) rfl ?_
            refine lv_icmp_eq (tgt := 947) hx hb d_La_law_830 (by decide) (fun c_46 => ?_) (fun c_46 => absurd (rfl) c_46)
            refine lv_iinc (v := nI (4 * (i + 1))) (lv' := [(4, .int (nI (4 * (i + 1)))), (0, .ref b), (1, .ref lo), (2, .ref (lo + 32)), (3, .ref (lo + 45))]) hx hb d_La_law_947 hl (k := 0) rfl (nI_add (4 * i) 4) (by decide) rfl (fun ls hl => ?_)
            refine lv_goto (tgt := 23) hx hb d_La_law_950 (by decide) ?_
            exact ih (i + 1) V2 _ Q B S L t n wr F (prA (Q, B, S, L)) fo H2.size _ _ (by omega) (by omega) (by omega) (by omega) hC2 hM2 ho2 H2 locs ls rfl hV (lv_sub hl [0, 1, 2, 3, 4] rfl)
          · refine lv_tableIn (tgt := 835) (off := 796) hx hb d_La_law_39 (by decide) (by decide) (by decide) (by decide) ?_
            refine lv_aload_n hx hb d_La_law_835 rfl (lv_at hl 2 rfl) ?_
            refine lv_aload_n hx hb d_La_law_836 rfl (lv_at hl 1 rfl) ?_
            refine lv_iload hx hb d_La_law_837 (lv_at hl 0 rfl) ?_
            refine lv_iconst (v := 1) hx hb d_La_law_839 (by decide) ?_
            refine e_iadd (v := nI (4 * i + 1)) hx hb d_La_law_840 (nI_add (4 * i) 1) ?_
            refine va_sld hx hb hX hbl hbA hV.2.1 (i := nI (4 * i + 1)) (nI_in (by omega) (by omega)) d_La_law_841 ?_
            refine W.eq (g2 := F0 m 842 ls [.int (xs (4 * i + 1)), .ref lo]) (by rw [nI_clamp (by omega)]) ?_
            refine lv_aload_n hx hb d_La_law_842 rfl (lv_at hl 4 rfl) ?_
            refine x_callSW (n := 3) (As := [.ref lo, .int (xs (4 * i + 1)), .ref (lo + 45)]) (rest := []) hx hb hml hown hts (c_La_at l hlT G lo hC (by omega) (by omega) ho (xs (4 * i + 1))) w_co_La_at w_it_La w_ml_La_115 w_st_La_at (by decide +kernel) rfl rfl ⟨(Nat.le_of_ble_eq_true rfl), (Nat.le_of_ble_eq_true rfl)⟩ (v_preS hK hV rfl hz) rfl hl.1 rfl (Nat.le_of_ble_eq_true rfl) d_La_law_843 ⟨by rw [hRc]; omega, by rw [hRs]; omega⟩ hV (fun r9 V1 H locs hp hV hle => ?_)
            obtain ⟨rfl, f9, ho1, hf9, hC1, hfr, hsz9⟩ := hp
            have hM1 : mS G V1 (lo + 32) th Q B S L t n wr F PB := hM.eq (fun a h1 h2 => hfr a (by omega) (by omega) (by omega))
            refine W.eq (g2 := F0 m 846 ls [.int (thI (atR PB (xs (4 * i + 1))))]) rfl ?_
            refine lv_istore (lv' := [(5, .int (thI (atR PB (xs (4 * i + 1))))), (4, .int (nI (4 * i))), (0, .ref b), (1, .ref lo), (2, .ref (lo + 32)), (3, .ref (lo + 45))]) hx hb d_La_law_846 hl (by decide) rfl (fun ls hl => ?_)
            refine lv_aload_n hx hb d_La_law_848 rfl (lv_at hl 4 rfl) ?_
            refine lv_aload_n hx hb d_La_law_849 rfl (lv_at hl 2 rfl) ?_
            refine lv_iload hx hb d_La_law_850 (lv_at hl 1 rfl) ?_
            refine lv_iconst (v := 1) hx hb d_La_law_852 (by decide) ?_
            refine e_iadd (v := nI (4 * i + 1)) hx hb d_La_law_853 (nI_add (4 * i) 1) ?_
            refine va_sld hx hb hX hbl hbA hV.2.1 (i := nI (4 * i + 1)) (nI_in (by omega) (by omega)) d_La_law_854 ?_
            refine W.eq (g2 := F0 m 855 ls [.int (xs (4 * i + 1)), .ref (lo + 32)]) (by rw [nI_clamp (by omega)]) ?_
            obtain ⟨fy, hy0⟩ := hM1.at
            refine v_call (va_runV (As := [.int (xs (4 * i + 1))]) (rest := []) ⟨hx, hb, hml, hown, hts⟩ (k_Mo_at l G lo hM1 _ (xs (4 * i + 1))) (kwV 1 hts w_co_Mo_at rfl rfl w_it_Mo w_ml_La_118 w_im_Mo_at w_se_Mo__Mo_at (by decide +kernel) ⟨(Nat.le_of_ble_eq_true rfl), (Nat.le_of_ble_eq_true rfl)⟩) (v_preV hK hV rfl rfl hy0 rfl) rfl rfl hl.1 rfl (lv_room (Nat.le_of_ble_eq_true rfl)) d_La_law_855 ⟨by rw [hRc]; omega, by rw [hRs]; omega⟩) hV (fun r9 V2 H2 locs hp hV hle => ?_)
            obtain ⟨rfl, ⟨hM2, hfr2⟩, hz2⟩ := hp
            have hC2 : cS G V2 lo (lo + 46) H2.size Q B S L t n wr F PB := by rw [hz2]; exact hC1.eq (fun a h1 h2 => hfr2 a (by omega)) (fun a h1 h2 => hfr2 a (by omega))
            have ho2 : V2 (lo + 45) = some (eL (gL G) 1 f9) := (hfr2 _ (by omega)).trans ho1
            refine W.eq (g2 := F0 m 858 ls [.int (vaI (atR PB (xs (4 * i + 1))))]) rfl ?_
            refine lv_istore (lv' := [(6, .int (vaI (atR PB (xs (4 * i + 1))))), (5, .int (thI (atR PB (xs (4 * i + 1))))), (4, .int (nI (4 * i))), (0, .ref b), (1, .ref lo), (2, .ref (lo + 32)), (3, .ref (lo + 45))]) hx hb d_La_law_858 hl (by decide) rfl (fun ls hl => ?_)
            refine lv_aload_n hx hb d_La_law_860 rfl (lv_at hl 5 rfl) ?_
            obtain ⟨fz, hz0⟩ := hM2.at
            refine v_call (va_runV (As := []) (rest := []) ⟨hx, hb, hml, hown, hts⟩ (k_Mo_thrown l G lo hM2 _) (kwV 0 hts w_co_Mo_thrown rfl rfl w_it_Mo w_ml_La_68 w_im_Mo_thrown w_se_Mo__Mo_thrown (by decide +kernel) ⟨(Nat.le_of_ble_eq_true rfl), (Nat.le_of_ble_eq_true rfl)⟩) (v_preV hK hV rfl rfl hz0 rfl) rfl rfl hl.1 rfl (lv_room (Nat.le_of_ble_eq_true rfl)) d_La_law_861 ⟨by rw [hRc]; omega, by rw [hRs]; omega⟩) hV (fun r9 V3 H3 locs hp hV hle => ?_)
            obtain ⟨rfl, hv3, hz3⟩ := hp
            rw [hv3] at hV
            have hC3 : cS G V2 lo (lo + 46) H3.size Q B S L t n wr F PB := by rw [hz3]; exact hC2
            refine W.eq (g2 := F0 m 864 ls [.int (thI (atR PB (xs (4 * i + 1))))]) rfl ?_
            refine lv_iload hx hb d_La_law_864 (lv_at hl 1 rfl) ?_
            refine lv_icmp_eq (tgt := 871) hx hb d_La_law_866 (by decide) (fun c_47 => ?_) (fun c_47 => absurd (rfl) c_47)
            refine lv_iload hx hb d_La_law_871 (lv_at hl 1 rfl) ?_
            refine lv_if_ne (tgt := 888) hx hb d_La_law_873 (by decide) (fun c_48 => ?_) (fun c_48 => ?_)
            · refine lv_goto (tgt := 947) hx hb d_La_law_888 (by decide) ?_
              refine lv_iinc (v := nI (4 * (i + 1))) (lv' := [(4, .int (nI (4 * (i + 1)))), (6, .int (vaI (atR PB (xs (4 * i + 1))))), (5, .int (thI (atR PB (xs (4 * i + 1))))), (0, .ref b), (1, .ref lo), (2, .ref (lo + 32)), (3, .ref (lo + 45))]) hx hb d_La_law_947 hl (k := 2) rfl (nI_add (4 * i) 4) (by decide) rfl (fun ls hl => ?_)
              refine lv_goto (tgt := 23) hx hb d_La_law_950 (by decide) ?_
              exact ih (i + 1) V2 _ Q B S L t n wr F PB f9 H3.size _ _ (by omega) (by omega) (by omega) (by omega) hC3 hM2 ho2 H3 locs ls rfl hV (lv_sub hl [0, 3, 4, 5, 6] rfl)
            · refine lv_aload_n hx hb d_La_law_876 rfl (lv_at hl 6 rfl) ?_
              refine lv_iconst (v := 0) hx hb d_La_law_877 (by decide) ?_
              have hV4 : vS G.1 cls lo s H3 locs (vU V2 [(lo + 45, eL (gL G) 1 f9)]) := by rw [vU_all (W := V2) (ds := [(lo + 45, eL (gL G) 1 f9)]) (fun z hz => by rw [List.mem_singleton.mp hz]; exact ho2)]; exact hV
              refine u_laldN (j := 0) hx hb hK hV4 (show [lo + 45].Nodup by simp) 0 rfl (by decide) (by decide) d_La_law_878 ?_
              refine W.eq (g2 := F0 m 879 ls [.long ((vaI (atR PB (xs (4 * i + 1)))).toInt64)]) (by rw [hf9 c_48]) ?_
              refine lv_iload hx hb d_La_law_879 (lv_at hl 0 rfl) ?_
              refine lv_i2l (v := (vaI (atR PB (xs (4 * i + 1)))).toInt64) hx hb d_La_law_881 (rfl) ?_
              refine W.lcmp hx hb d_La_law_882 ?_
              refine lv_if_eq (tgt := 888) hx hb d_La_law_883 (by decide) (fun c_49 => ?_) (fun c_49 => absurd ((lg_cmp_eq _ _).mpr rfl) c_49)
              refine lv_goto (tgt := 947) hx hb d_La_law_888 (by decide) ?_
              refine lv_iinc (v := nI (4 * (i + 1))) (lv' := [(4, .int (nI (4 * (i + 1)))), (6, .int (vaI (atR PB (xs (4 * i + 1))))), (5, .int (thI (atR PB (xs (4 * i + 1))))), (0, .ref b), (1, .ref lo), (2, .ref (lo + 32)), (3, .ref (lo + 45))]) hx hb d_La_law_947 hl (k := 2) rfl (nI_add (4 * i) 4) (by decide) rfl (fun ls hl => ?_)
              refine lv_goto (tgt := 23) hx hb d_La_law_950 (by decide) ?_
              exact ih (i + 1) V2 _ Q B S L t n wr F PB f9 H3.size _ _ (by omega) (by omega) (by omega) (by omega) hC3 hM2 ho2 H3 locs ls rfl hV (lv_sub hl [0, 3, 4, 5, 6] rfl)
          · refine lv_tableIn (tgt := 891) (off := 852) hx hb d_La_law_39 (by decide) (by decide) (by decide) (by decide) ?_
            refine lv_aload_n hx hb d_La_law_891 rfl (lv_at hl 2 rfl) ?_
            refine lv_aload_n hx hb d_La_law_892 rfl (lv_at hl 1 rfl) ?_
            refine lv_iload hx hb d_La_law_893 (lv_at hl 0 rfl) ?_
            refine lv_iconst (v := 1) hx hb d_La_law_895 (by decide) ?_
            refine e_iadd (v := nI (4 * i + 1)) hx hb d_La_law_896 (nI_add (4 * i) 1) ?_
            refine va_sld hx hb hX hbl hbA hV.2.1 (i := nI (4 * i + 1)) (nI_in (by omega) (by omega)) d_La_law_897 ?_
            refine W.eq (g2 := F0 m 898 ls [.int (xs (4 * i + 1)), .ref lo]) (by rw [nI_clamp (by omega)]) ?_
            refine lv_aload_n hx hb d_La_law_898 rfl (lv_at hl 4 rfl) ?_
            refine x_callSW (n := 3) (As := [.ref lo, .int (xs (4 * i + 1)), .ref (lo + 45)]) (rest := []) hx hb hml hown hts (c_La_count l hlT G lo hC (by omega) (by omega) ho (xs (4 * i + 1))) w_co_La_count w_it_La w_ml_La_119 w_st_La_count (by decide +kernel) rfl rfl ⟨(Nat.le_of_ble_eq_true rfl), (Nat.le_of_ble_eq_true rfl)⟩ (v_preS hK hV rfl hz) rfl hl.1 rfl (Nat.le_of_ble_eq_true rfl) d_La_law_899 ⟨by rw [hRc]; omega, by rw [hRs]; omega⟩ hV (fun r9 V1 H locs hp hV hle => ?_)
            obtain ⟨rfl, f9, ho1, hf9, hC1, hfr, hsz9⟩ := hp
            have hM1 : mS G V1 (lo + 32) th Q B S L t n wr F PB := hM.eq (fun a h1 h2 => hfr a (by omega) (by omega) (by omega))
            refine W.eq (g2 := F0 m 902 ls [.int (thI (couR (Q, B, S, L) (xs (4 * i + 1))))]) rfl ?_
            refine lv_istore (lv' := [(5, .int (thI (couR (Q, B, S, L) (xs (4 * i + 1))))), (4, .int (nI (4 * i))), (0, .ref b), (1, .ref lo), (2, .ref (lo + 32)), (3, .ref (lo + 45))]) hx hb d_La_law_902 hl (by decide) rfl (fun ls hl => ?_)
            refine lv_aload_n hx hb d_La_law_904 rfl (lv_at hl 4 rfl) ?_
            refine lv_aload_n hx hb d_La_law_905 rfl (lv_at hl 2 rfl) ?_
            refine lv_iload hx hb d_La_law_906 (lv_at hl 1 rfl) ?_
            refine lv_iconst (v := 1) hx hb d_La_law_908 (by decide) ?_
            refine e_iadd (v := nI (4 * i + 1)) hx hb d_La_law_909 (nI_add (4 * i) 1) ?_
            refine va_sld hx hb hX hbl hbA hV.2.1 (i := nI (4 * i + 1)) (nI_in (by omega) (by omega)) d_La_law_910 ?_
            refine W.eq (g2 := F0 m 911 ls [.int (xs (4 * i + 1)), .ref (lo + 32)]) (by rw [nI_clamp (by omega)]) ?_
            obtain ⟨fy, hy0⟩ := hM1.at
            refine v_call (va_runV (As := [.int (xs (4 * i + 1))]) (rest := []) ⟨hx, hb, hml, hown, hts⟩ (k_Mo_count l G lo hM1 _ (xs (4 * i + 1))) (kwV 1 hts w_co_Mo_count rfl rfl w_it_Mo w_ml_La_121 w_im_Mo_count w_se_Mo__Mo_count (by decide +kernel) ⟨(Nat.le_of_ble_eq_true rfl), (Nat.le_of_ble_eq_true rfl)⟩) (v_preV hK hV rfl rfl hy0 rfl) rfl rfl hl.1 rfl (lv_room (Nat.le_of_ble_eq_true rfl)) d_La_law_911 ⟨by rw [hRc]; omega, by rw [hRs]; omega⟩) hV (fun r9 V2 H2 locs hp hV hle => ?_)
            obtain ⟨rfl, ⟨hM2, hfr2⟩, hz2⟩ := hp
            have hC2 : cS G V2 lo (lo + 46) H2.size Q B S L t n wr F PB := by rw [hz2]; exact hC1.eq (fun a h1 h2 => hfr2 a (by omega)) (fun a h1 h2 => hfr2 a (by omega))
            have ho2 : V2 (lo + 45) = some (eL (gL G) 1 f9) := (hfr2 _ (by omega)).trans ho1
            refine W.eq (g2 := F0 m 914 ls [.int (vaI (couR (Q, B, S, L) (xs (4 * i + 1))))]) rfl ?_
            refine lv_istore (lv' := [(6, .int (vaI (couR (Q, B, S, L) (xs (4 * i + 1))))), (5, .int (thI (couR (Q, B, S, L) (xs (4 * i + 1))))), (4, .int (nI (4 * i))), (0, .ref b), (1, .ref lo), (2, .ref (lo + 32)), (3, .ref (lo + 45))]) hx hb d_La_law_914 hl (by decide) rfl (fun ls hl => ?_)
            refine lv_aload_n hx hb d_La_law_916 rfl (lv_at hl 5 rfl) ?_
            obtain ⟨fz, hz0⟩ := hM2.at
            refine v_call (va_runV (As := []) (rest := []) ⟨hx, hb, hml, hown, hts⟩ (k_Mo_thrown l G lo hM2 _) (kwV 0 hts w_co_Mo_thrown rfl rfl w_it_Mo w_ml_La_68 w_im_Mo_thrown w_se_Mo__Mo_thrown (by decide +kernel) ⟨(Nat.le_of_ble_eq_true rfl), (Nat.le_of_ble_eq_true rfl)⟩) (v_preV hK hV rfl rfl hz0 rfl) rfl rfl hl.1 rfl (lv_room (Nat.le_of_ble_eq_true rfl)) d_La_law_917 ⟨by rw [hRc]; omega, by rw [hRs]; omega⟩) hV (fun r9 V3 H3 locs hp hV hle => ?_)
            obtain ⟨rfl, hv3, hz3⟩ := hp
            rw [hv3] at hV
            have hC3 : cS G V2 lo (lo + 46) H3.size Q B S L t n wr F PB := by rw [hz3]; exact hC2
            refine W.eq (g2 := F0 m 920 ls [.int (thI (couR (Q, B, S, L) (xs (4 * i + 1))))]) rfl ?_
            refine lv_iload hx hb d_La_law_920 (lv_at hl 1 rfl) ?_
            refine lv_icmp_eq (tgt := 927) hx hb d_La_law_922 (by decide) (fun c_50 => ?_) (fun c_50 => absurd (rfl) c_50)
            refine lv_iload hx hb d_La_law_927 (lv_at hl 1 rfl) ?_
            refine lv_if_ne (tgt := 944) hx hb d_La_law_929 (by decide) (fun c_51 => ?_) (fun c_51 => ?_)
            · refine lv_goto (tgt := 947) hx hb d_La_law_944 (by decide) ?_
              refine lv_iinc (v := nI (4 * (i + 1))) (lv' := [(4, .int (nI (4 * (i + 1)))), (6, .int (vaI (couR (Q, B, S, L) (xs (4 * i + 1))))), (5, .int (thI (couR (Q, B, S, L) (xs (4 * i + 1))))), (0, .ref b), (1, .ref lo), (2, .ref (lo + 32)), (3, .ref (lo + 45))]) hx hb d_La_law_947 hl (k := 2) rfl (nI_add (4 * i) 4) (by decide) rfl (fun ls hl => ?_)
              refine lv_goto (tgt := 23) hx hb d_La_law_950 (by decide) ?_
              exact ih (i + 1) V2 _ Q B S L t n wr F PB f9 H3.size _ _ (by omega) (by omega) (by omega) (by omega) hC3 hM2 ho2 H3 locs ls rfl hV (lv_sub hl [0, 3, 4, 5, 6] rfl)
            · refine lv_aload_n hx hb d_La_law_932 rfl (lv_at hl 6 rfl) ?_
              refine lv_iconst (v := 0) hx hb d_La_law_933 (by decide) ?_
              have hV4 : vS G.1 cls lo s H3 locs (vU V2 [(lo + 45, eL (gL G) 1 f9)]) := by rw [vU_all (W := V2) (ds := [(lo + 45, eL (gL G) 1 f9)]) (fun z hz => by rw [List.mem_singleton.mp hz]; exact ho2)]; exact hV
              refine u_laldN (j := 0) hx hb hK hV4 (show [lo + 45].Nodup by simp) 0 rfl (by decide) (by decide) d_La_law_934 ?_
              refine W.eq (g2 := F0 m 935 ls [.long ((vaI (couR (Q, B, S, L) (xs (4 * i + 1)))).toInt64)]) (by rw [hf9 c_51]) ?_
              refine lv_iload hx hb d_La_law_935 (lv_at hl 0 rfl) ?_
              refine lv_i2l (v := (vaI (couR (Q, B, S, L) (xs (4 * i + 1)))).toInt64) hx hb d_La_law_937 (rfl) ?_
              refine W.lcmp hx hb d_La_law_938 ?_
              refine lv_if_eq (tgt := 944) hx hb d_La_law_939 (by decide) (fun c_52 => ?_) (fun c_52 => absurd ((lg_cmp_eq _ _).mpr rfl) c_52)
              refine lv_goto (tgt := 947) hx hb d_La_law_944 (by decide) ?_
              refine lv_iinc (v := nI (4 * (i + 1))) (lv' := [(4, .int (nI (4 * (i + 1)))), (6, .int (vaI (couR (Q, B, S, L) (xs (4 * i + 1))))), (5, .int (thI (couR (Q, B, S, L) (xs (4 * i + 1))))), (0, .ref b), (1, .ref lo), (2, .ref (lo + 32)), (3, .ref (lo + 45))]) hx hb d_La_law_947 hl (k := 2) rfl (nI_add (4 * i) 4) (by decide) rfl (fun ls hl => ?_)
              refine lv_goto (tgt := 23) hx hb d_La_law_950 (by decide) ?_
              exact ih (i + 1) V2 _ Q B S L t n wr F PB f9 H3.size _ _ (by omega) (by omega) (by omega) (by omega) hC3 hM2 ho2 H3 locs ls rfl hV (lv_sub hl [0, 3, 4, 5, 6] rfl)
  obtain ⟨H, hH⟩ : ∃ H, H = s.heap := ⟨_, rfl⟩
  obtain ⟨locs, hlocs⟩ : ∃ locs : List Loc, locs = [] := ⟨_, rfl⟩
  rw [← hH, ← hlocs]
  rw [← hH] at hz
  replace hV : vS G.1 cls lo s H locs (vU (fun _ => none) []) := by rw [hH, hlocs]; exact hV
  clear hH hlocs
  refine u_new (ci := 7) hx hb hts inSG tySG tySG_ok hown w_cl_La_8 w_in_SG w_it_SG hK hV rfl (fs := [.null, .null, .null, .null, .null, .int 0]) (fun j hj => by rcases (show j = 0 ∨ j = 1 ∨ j = 2 ∨ j = 3 ∨ j = 4 ∨ j = 5 by omega) with rfl | rfl | rfl | rfl | rfl | rfl <;> rfl) (Nat.le_of_ble_eq_true rfl) (Nat.le_of_ble_eq_true rfl) d_La_law_0 hz (fun H hV hz => ?_)
  have hV : vS G.1 cls lo s H locs (vU (fun _ => none) [(lo, eO 7 [.null, .null, .null, .null, .null, .int 0])]) := hV
  have hn : [lo].Nodup := by simp
  refine lv_dup hx hb d_La_law_3 rfl ?_
  refine v_call (va_runI (As := []) (rest := [.ref lo]) ⟨hx, hb, hml, hown, hts⟩ (c_SG_init l G lo _ _ lo (by omega)) ⟨kwB 0 hts w_co_SG_init rfl rfl w_it_SG w_ml_La_56 (by decide +kernel) ⟨(Nat.le_of_ble_eq_true rfl), (Nat.le_of_ble_eq_true rfl)⟩, rfl, hts _ w_im_SG_init⟩ (u_preS hK hV hn [0] rfl hz) rfl rfl hl.1 rfl (lv_room (Nat.le_of_ble_eq_true rfl)) d_La_law_4 ⟨(Nat.le_of_ble_eq_true rfl), (Nat.le_of_ble_eq_true rfl)⟩) hV (fun r9 V9 H locs hp hV hle => ?_)
  obtain ⟨rfl, rfl, hz⟩ := hp
  replace hV := u_backN 31 hV hn [0] rfl
  have hn : [lo + 1, lo].Nodup := List.nodup_cons.mpr ⟨by simp only [List.mem_cons, List.not_mem_nil, or_false, not_or]; omega, hn⟩
  have hn : [lo + 2, lo + 1, lo].Nodup := List.nodup_cons.mpr ⟨by simp only [List.mem_cons, List.not_mem_nil, or_false, not_or]; omega, hn⟩
  have hn : [lo + 3, lo + 2, lo + 1, lo].Nodup := List.nodup_cons.mpr ⟨by simp only [List.mem_cons, List.not_mem_nil, or_false, not_or]; omega, hn⟩
  have hn : [lo + 4, lo + 3, lo + 2, lo + 1, lo].Nodup := List.nodup_cons.mpr ⟨by simp only [List.mem_cons, List.not_mem_nil, or_false, not_or]; omega, hn⟩
  have hn : [lo + 5, lo + 4, lo + 3, lo + 2, lo + 1, lo].Nodup := List.nodup_cons.mpr ⟨by simp only [List.mem_cons, List.not_mem_nil, or_false, not_or]; omega, hn⟩
  have hn : [lo + 6, lo + 5, lo + 4, lo + 3, lo + 2, lo + 1, lo].Nodup := List.nodup_cons.mpr ⟨by simp only [List.mem_cons, List.not_mem_nil, or_false, not_or]; omega, hn⟩
  have hn : [lo + 7, lo + 6, lo + 5, lo + 4, lo + 3, lo + 2, lo + 1, lo].Nodup := List.nodup_cons.mpr ⟨by simp only [List.mem_cons, List.not_mem_nil, or_false, not_or]; omega, hn⟩
  have hn : [lo + 8, lo + 7, lo + 6, lo + 5, lo + 4, lo + 3, lo + 2, lo + 1, lo].Nodup := List.nodup_cons.mpr ⟨by simp only [List.mem_cons, List.not_mem_nil, or_false, not_or]; omega, hn⟩
  have hn : [lo + 9, lo + 8, lo + 7, lo + 6, lo + 5, lo + 4, lo + 3, lo + 2, lo + 1, lo].Nodup := List.nodup_cons.mpr ⟨by simp only [List.mem_cons, List.not_mem_nil, or_false, not_or]; omega, hn⟩
  have hn : [lo + 10, lo + 9, lo + 8, lo + 7, lo + 6, lo + 5, lo + 4, lo + 3, lo + 2, lo + 1, lo].Nodup := List.nodup_cons.mpr ⟨by simp only [List.mem_cons, List.not_mem_nil, or_false, not_or]; omega, hn⟩
  have hn : [lo + 11, lo + 10, lo + 9, lo + 8, lo + 7, lo + 6, lo + 5, lo + 4, lo + 3, lo + 2, lo + 1, lo].Nodup := List.nodup_cons.mpr ⟨by simp only [List.mem_cons, List.not_mem_nil, or_false, not_or]; omega, hn⟩
  have hn : [lo + 12, lo + 11, lo + 10, lo + 9, lo + 8, lo + 7, lo + 6, lo + 5, lo + 4, lo + 3, lo + 2, lo + 1, lo].Nodup := List.nodup_cons.mpr ⟨by simp only [List.mem_cons, List.not_mem_nil, or_false, not_or]; omega, hn⟩
  have hn : [lo + 13, lo + 12, lo + 11, lo + 10, lo + 9, lo + 8, lo + 7, lo + 6, lo + 5, lo + 4, lo + 3, lo + 2, lo + 1, lo].Nodup := List.nodup_cons.mpr ⟨by simp only [List.mem_cons, List.not_mem_nil, or_false, not_or]; omega, hn⟩
  have hn : [lo + 14, lo + 13, lo + 12, lo + 11, lo + 10, lo + 9, lo + 8, lo + 7, lo + 6, lo + 5, lo + 4, lo + 3, lo + 2, lo + 1, lo].Nodup := List.nodup_cons.mpr ⟨by simp only [List.mem_cons, List.not_mem_nil, or_false, not_or]; omega, hn⟩
  have hn : [lo + 15, lo + 14, lo + 13, lo + 12, lo + 11, lo + 10, lo + 9, lo + 8, lo + 7, lo + 6, lo + 5, lo + 4, lo + 3, lo + 2, lo + 1, lo].Nodup := List.nodup_cons.mpr ⟨by simp only [List.mem_cons, List.not_mem_nil, or_false, not_or]; omega, hn⟩
  have hn : [lo + 16, lo + 15, lo + 14, lo + 13, lo + 12, lo + 11, lo + 10, lo + 9, lo + 8, lo + 7, lo + 6, lo + 5, lo + 4, lo + 3, lo + 2, lo + 1, lo].Nodup := List.nodup_cons.mpr ⟨by simp only [List.mem_cons, List.not_mem_nil, or_false, not_or]; omega, hn⟩
  have hn : [lo + 17, lo + 16, lo + 15, lo + 14, lo + 13, lo + 12, lo + 11, lo + 10, lo + 9, lo + 8, lo + 7, lo + 6, lo + 5, lo + 4, lo + 3, lo + 2, lo + 1, lo].Nodup := List.nodup_cons.mpr ⟨by simp only [List.mem_cons, List.not_mem_nil, or_false, not_or]; omega, hn⟩
  have hn : [lo + 18, lo + 17, lo + 16, lo + 15, lo + 14, lo + 13, lo + 12, lo + 11, lo + 10, lo + 9, lo + 8, lo + 7, lo + 6, lo + 5, lo + 4, lo + 3, lo + 2, lo + 1, lo].Nodup := List.nodup_cons.mpr ⟨by simp only [List.mem_cons, List.not_mem_nil, or_false, not_or]; omega, hn⟩
  have hn : [lo + 19, lo + 18, lo + 17, lo + 16, lo + 15, lo + 14, lo + 13, lo + 12, lo + 11, lo + 10, lo + 9, lo + 8, lo + 7, lo + 6, lo + 5, lo + 4, lo + 3, lo + 2, lo + 1, lo].Nodup := List.nodup_cons.mpr ⟨by simp only [List.mem_cons, List.not_mem_nil, or_false, not_or]; omega, hn⟩
  have hn : [lo + 20, lo + 19, lo + 18, lo + 17, lo + 16, lo + 15, lo + 14, lo + 13, lo + 12, lo + 11, lo + 10, lo + 9, lo + 8, lo + 7, lo + 6, lo + 5, lo + 4, lo + 3, lo + 2, lo + 1, lo].Nodup := List.nodup_cons.mpr ⟨by simp only [List.mem_cons, List.not_mem_nil, or_false, not_or]; omega, hn⟩
  have hn : [lo + 21, lo + 20, lo + 19, lo + 18, lo + 17, lo + 16, lo + 15, lo + 14, lo + 13, lo + 12, lo + 11, lo + 10, lo + 9, lo + 8, lo + 7, lo + 6, lo + 5, lo + 4, lo + 3, lo + 2, lo + 1, lo].Nodup := List.nodup_cons.mpr ⟨by simp only [List.mem_cons, List.not_mem_nil, or_false, not_or]; omega, hn⟩
  have hn : [lo + 22, lo + 21, lo + 20, lo + 19, lo + 18, lo + 17, lo + 16, lo + 15, lo + 14, lo + 13, lo + 12, lo + 11, lo + 10, lo + 9, lo + 8, lo + 7, lo + 6, lo + 5, lo + 4, lo + 3, lo + 2, lo + 1, lo].Nodup := List.nodup_cons.mpr ⟨by simp only [List.mem_cons, List.not_mem_nil, or_false, not_or]; omega, hn⟩
  have hn : [lo + 23, lo + 22, lo + 21, lo + 20, lo + 19, lo + 18, lo + 17, lo + 16, lo + 15, lo + 14, lo + 13, lo + 12, lo + 11, lo + 10, lo + 9, lo + 8, lo + 7, lo + 6, lo + 5, lo + 4, lo + 3, lo + 2, lo + 1, lo].Nodup := List.nodup_cons.mpr ⟨by simp only [List.mem_cons, List.not_mem_nil, or_false, not_or]; omega, hn⟩
  have hn : [lo + 24, lo + 23, lo + 22, lo + 21, lo + 20, lo + 19, lo + 18, lo + 17, lo + 16, lo + 15, lo + 14, lo + 13, lo + 12, lo + 11, lo + 10, lo + 9, lo + 8, lo + 7, lo + 6, lo + 5, lo + 4, lo + 3, lo + 2, lo + 1, lo].Nodup := List.nodup_cons.mpr ⟨by simp only [List.mem_cons, List.not_mem_nil, or_false, not_or]; omega, hn⟩
  have hn : [lo + 25, lo + 24, lo + 23, lo + 22, lo + 21, lo + 20, lo + 19, lo + 18, lo + 17, lo + 16, lo + 15, lo + 14, lo + 13, lo + 12, lo + 11, lo + 10, lo + 9, lo + 8, lo + 7, lo + 6, lo + 5, lo + 4, lo + 3, lo + 2, lo + 1, lo].Nodup := List.nodup_cons.mpr ⟨by simp only [List.mem_cons, List.not_mem_nil, or_false, not_or]; omega, hn⟩
  have hn : [lo + 26, lo + 25, lo + 24, lo + 23, lo + 22, lo + 21, lo + 20, lo + 19, lo + 18, lo + 17, lo + 16, lo + 15, lo + 14, lo + 13, lo + 12, lo + 11, lo + 10, lo + 9, lo + 8, lo + 7, lo + 6, lo + 5, lo + 4, lo + 3, lo + 2, lo + 1, lo].Nodup := List.nodup_cons.mpr ⟨by simp only [List.mem_cons, List.not_mem_nil, or_false, not_or]; omega, hn⟩
  have hn : [lo + 27, lo + 26, lo + 25, lo + 24, lo + 23, lo + 22, lo + 21, lo + 20, lo + 19, lo + 18, lo + 17, lo + 16, lo + 15, lo + 14, lo + 13, lo + 12, lo + 11, lo + 10, lo + 9, lo + 8, lo + 7, lo + 6, lo + 5, lo + 4, lo + 3, lo + 2, lo + 1, lo].Nodup := List.nodup_cons.mpr ⟨by simp only [List.mem_cons, List.not_mem_nil, or_false, not_or]; omega, hn⟩
  have hn : [lo + 28, lo + 27, lo + 26, lo + 25, lo + 24, lo + 23, lo + 22, lo + 21, lo + 20, lo + 19, lo + 18, lo + 17, lo + 16, lo + 15, lo + 14, lo + 13, lo + 12, lo + 11, lo + 10, lo + 9, lo + 8, lo + 7, lo + 6, lo + 5, lo + 4, lo + 3, lo + 2, lo + 1, lo].Nodup := List.nodup_cons.mpr ⟨by simp only [List.mem_cons, List.not_mem_nil, or_false, not_or]; omega, hn⟩
  have hn : [lo + 29, lo + 28, lo + 27, lo + 26, lo + 25, lo + 24, lo + 23, lo + 22, lo + 21, lo + 20, lo + 19, lo + 18, lo + 17, lo + 16, lo + 15, lo + 14, lo + 13, lo + 12, lo + 11, lo + 10, lo + 9, lo + 8, lo + 7, lo + 6, lo + 5, lo + 4, lo + 3, lo + 2, lo + 1, lo].Nodup := List.nodup_cons.mpr ⟨by simp only [List.mem_cons, List.not_mem_nil, or_false, not_or]; omega, hn⟩
  have hn : [lo + 30, lo + 29, lo + 28, lo + 27, lo + 26, lo + 25, lo + 24, lo + 23, lo + 22, lo + 21, lo + 20, lo + 19, lo + 18, lo + 17, lo + 16, lo + 15, lo + 14, lo + 13, lo + 12, lo + 11, lo + 10, lo + 9, lo + 8, lo + 7, lo + 6, lo + 5, lo + 4, lo + 3, lo + 2, lo + 1, lo].Nodup := List.nodup_cons.mpr ⟨by simp only [List.mem_cons, List.not_mem_nil, or_false, not_or]; omega, hn⟩
  have hn : [lo + 31, lo + 30, lo + 29, lo + 28, lo + 27, lo + 26, lo + 25, lo + 24, lo + 23, lo + 22, lo + 21, lo + 20, lo + 19, lo + 18, lo + 17, lo + 16, lo + 15, lo + 14, lo + 13, lo + 12, lo + 11, lo + 10, lo + 9, lo + 8, lo + 7, lo + 6, lo + 5, lo + 4, lo + 3, lo + 2, lo + 1, lo].Nodup := List.nodup_cons.mpr ⟨by simp only [List.mem_cons, List.not_mem_nil, or_false, not_or]; omega, hn⟩
  have hz : H.size = lo + 32 := hz
  have hV : vS G.1 cls lo s H locs (vU (fun _ => none) [(lo + 31, eI (gI G) 20 (fun _ => 0)), (lo + 30, eI (gI G) 20 (fun _ => 0)), (lo + 29, eI (gI G) 20 (fun _ => 0)), (lo + 28, eO 6 [.ref (lo + 29), .ref (lo + 30), .ref (lo + 31), .int 0, .int 0]), (lo + 27, eI (gI G) 31 (fun _ => 0)), (lo + 26, eI (gI G) 31 (fun _ => 0)), (lo + 25, eO 4 [.ref (lo + 26), .ref (lo + 27)]), (lo + 24, eI (gI G) 31 (fun _ => 0)), (lo + 23, eI (gI G) 31 (fun _ => 0)), (lo + 22, eO 4 [.ref (lo + 23), .ref (lo + 24)]), (lo + 21, eQ (gP G) 61 (fun _ => none)), (lo + 20, eO 5 [.ref (lo + 21), .ref (lo + 22), .ref (lo + 25), .ref (lo + 28)]), (lo + 19, eI (gI G) 20 (fun _ => 0)), (lo + 18, eI (gI G) 20 (fun _ => 0)), (lo + 17, eI (gI G) 20 (fun _ => 0)), (lo + 16, eO 6 [.ref (lo + 17), .ref (lo + 18), .ref (lo + 19), .int 0, .int 0]), (lo + 15, eI (gI G) 31 (fun _ => 0)), (lo + 14, eI (gI G) 31 (fun _ => 0)), (lo + 13, eO 4 [.ref (lo + 14), .ref (lo + 15)]), (lo + 12, eI (gI G) 31 (fun _ => 0)), (lo + 11, eI (gI G) 31 (fun _ => 0)), (lo + 10, eO 4 [.ref (lo + 11), .ref (lo + 12)]), (lo + 9, eQ (gP G) 61 (fun _ => none)), (lo + 8, eO 5 [.ref (lo + 9), .ref (lo + 10), .ref (lo + 13), .ref (lo + 16)]), (lo + 7, eI (gB G) 4880 (fun _ => 0)), (lo + 6, eO 2 [.ref (lo + 7), .int 0]), (lo + 5, eI (gI G) 250 (fun _ => 0)), (lo + 4, eI (gI G) 250 (fun _ => 0)), (lo + 3, eO 0 [.ref (lo + 4), .ref (lo + 5), .int 0]), (lo + 2, eI (gB G) 400 (fun _ => 0)), (lo + 1, eO 3 [.ref (lo + 2), .int 0, .int 0]), (lo, eO 7 [.ref (lo + 1), .ref (lo + 3), .ref (lo + 6), .ref (lo + 8), .ref (lo + 20), .int ((-1))])]) := hV
  refine lv_astore_n (lv' := [(1, .ref lo), (0, .ref b)]) hx hb d_La_law_7 rfl hl (by decide) rfl (fun ls hl => ?_)
  refine u_new (ci := 8) hx hb hts inMo tyMo tyMo_ok hown w_cl_La_57 w_in_Mo w_it_Mo hK hV rfl (fs := [.int 0, .int 0, .null, .int 0, .null, .null, .null, .int 0, .null, .null, .null, .null, .int 0, .int 0, .int 0, .int 0, .null, .null, .null, .int 0, .null]) (fun j hj => by rcases (show j = 0 ∨ j = 1 ∨ j = 2 ∨ j = 3 ∨ j = 4 ∨ j = 5 ∨ j = 6 ∨ j = 7 ∨ j = 8 ∨ j = 9 ∨ j = 10 ∨ j = 11 ∨ j = 12 ∨ j = 13 ∨ j = 14 ∨ j = 15 ∨ j = 16 ∨ j = 17 ∨ j = 18 ∨ j = 19 ∨ j = 20 by omega) with rfl | rfl | rfl | rfl | rfl | rfl | rfl | rfl | rfl | rfl | rfl | rfl | rfl | rfl | rfl | rfl | rfl | rfl | rfl | rfl | rfl <;> rfl) (Nat.le_of_ble_eq_true rfl) (Nat.le_of_ble_eq_true rfl) d_La_law_8 hz (fun H hV hz => ?_)
  have hV : vS G.1 cls lo s H locs (vU (fun _ => none) [(lo + 32, eO 8 [.int 0, .int 0, .null, .int 0, .null, .null, .null, .int 0, .null, .null, .null, .null, .int 0, .int 0, .int 0, .int 0, .null, .null, .null, .int 0, .null]), (lo + 31, eI (gI G) 20 (fun _ => 0)), (lo + 30, eI (gI G) 20 (fun _ => 0)), (lo + 29, eI (gI G) 20 (fun _ => 0)), (lo + 28, eO 6 [.ref (lo + 29), .ref (lo + 30), .ref (lo + 31), .int 0, .int 0]), (lo + 27, eI (gI G) 31 (fun _ => 0)), (lo + 26, eI (gI G) 31 (fun _ => 0)), (lo + 25, eO 4 [.ref (lo + 26), .ref (lo + 27)]), (lo + 24, eI (gI G) 31 (fun _ => 0)), (lo + 23, eI (gI G) 31 (fun _ => 0)), (lo + 22, eO 4 [.ref (lo + 23), .ref (lo + 24)]), (lo + 21, eQ (gP G) 61 (fun _ => none)), (lo + 20, eO 5 [.ref (lo + 21), .ref (lo + 22), .ref (lo + 25), .ref (lo + 28)]), (lo + 19, eI (gI G) 20 (fun _ => 0)), (lo + 18, eI (gI G) 20 (fun _ => 0)), (lo + 17, eI (gI G) 20 (fun _ => 0)), (lo + 16, eO 6 [.ref (lo + 17), .ref (lo + 18), .ref (lo + 19), .int 0, .int 0]), (lo + 15, eI (gI G) 31 (fun _ => 0)), (lo + 14, eI (gI G) 31 (fun _ => 0)), (lo + 13, eO 4 [.ref (lo + 14), .ref (lo + 15)]), (lo + 12, eI (gI G) 31 (fun _ => 0)), (lo + 11, eI (gI G) 31 (fun _ => 0)), (lo + 10, eO 4 [.ref (lo + 11), .ref (lo + 12)]), (lo + 9, eQ (gP G) 61 (fun _ => none)), (lo + 8, eO 5 [.ref (lo + 9), .ref (lo + 10), .ref (lo + 13), .ref (lo + 16)]), (lo + 7, eI (gB G) 4880 (fun _ => 0)), (lo + 6, eO 2 [.ref (lo + 7), .int 0]), (lo + 5, eI (gI G) 250 (fun _ => 0)), (lo + 4, eI (gI G) 250 (fun _ => 0)), (lo + 3, eO 0 [.ref (lo + 4), .ref (lo + 5), .int 0]), (lo + 2, eI (gB G) 400 (fun _ => 0)), (lo + 1, eO 3 [.ref (lo + 2), .int 0, .int 0]), (lo, eO 7 [.ref (lo + 1), .ref (lo + 3), .ref (lo + 6), .ref (lo + 8), .ref (lo + 20), .int ((-1))])]) := hV
  have hn : [lo + 32, lo + 31, lo + 30, lo + 29, lo + 28, lo + 27, lo + 26, lo + 25, lo + 24, lo + 23, lo + 22, lo + 21, lo + 20, lo + 19, lo + 18, lo + 17, lo + 16, lo + 15, lo + 14, lo + 13, lo + 12, lo + 11, lo + 10, lo + 9, lo + 8, lo + 7, lo + 6, lo + 5, lo + 4, lo + 3, lo + 2, lo + 1, lo].Nodup := List.nodup_cons.mpr ⟨by simp only [List.mem_cons, List.not_mem_nil, or_false, not_or]; omega, hn⟩
  refine lv_dup hx hb d_La_law_11 rfl ?_
  refine v_call (va_runI (As := []) (rest := [.ref (lo + 32)]) ⟨hx, hb, hml, hown, hts⟩ (c_Mo_init l G lo _ _ (lo + 32) (by omega)) ⟨kwB 0 hts w_co_Mo_init rfl rfl w_it_Mo w_ml_La_59 (by decide +kernel) ⟨(Nat.le_of_ble_eq_true rfl), (Nat.le_of_ble_eq_true rfl)⟩, rfl, hts _ w_im_Mo_init⟩ (u_preS hK hV hn [0] rfl hz) rfl rfl hl.1 rfl (lv_room (Nat.le_of_ble_eq_true rfl)) d_La_law_12 ⟨(Nat.le_of_ble_eq_true rfl), (Nat.le_of_ble_eq_true rfl)⟩) hV (fun r9 V9 H locs hp hV hle => ?_)
  obtain ⟨rfl, rfl, hz⟩ := hp
  replace hV := u_backN 12 hV hn [0] rfl
  have hn : [lo + 33, lo + 32, lo + 31, lo + 30, lo + 29, lo + 28, lo + 27, lo + 26, lo + 25, lo + 24, lo + 23, lo + 22, lo + 21, lo + 20, lo + 19, lo + 18, lo + 17, lo + 16, lo + 15, lo + 14, lo + 13, lo + 12, lo + 11, lo + 10, lo + 9, lo + 8, lo + 7, lo + 6, lo + 5, lo + 4, lo + 3, lo + 2, lo + 1, lo].Nodup := List.nodup_cons.mpr ⟨by simp only [List.mem_cons, List.not_mem_nil, or_false, not_or]; omega, hn⟩
  have hn : [lo + 34, lo + 33, lo + 32, lo + 31, lo + 30, lo + 29, lo + 28, lo + 27, lo + 26, lo + 25, lo + 24, lo + 23, lo + 22, lo + 21, lo + 20, lo + 19, lo + 18, lo + 17, lo + 16, lo + 15, lo + 14, lo + 13, lo + 12, lo + 11, lo + 10, lo + 9, lo + 8, lo + 7, lo + 6, lo + 5, lo + 4, lo + 3, lo + 2, lo + 1, lo].Nodup := List.nodup_cons.mpr ⟨by simp only [List.mem_cons, List.not_mem_nil, or_false, not_or]; omega, hn⟩
  have hn : [lo + 35, lo + 34, lo + 33, lo + 32, lo + 31, lo + 30, lo + 29, lo + 28, lo + 27, lo + 26, lo + 25, lo + 24, lo + 23, lo + 22, lo + 21, lo + 20, lo + 19, lo + 18, lo + 17, lo + 16, lo + 15, lo + 14, lo + 13, lo + 12, lo + 11, lo + 10, lo + 9, lo + 8, lo + 7, lo + 6, lo + 5, lo + 4, lo + 3, lo + 2, lo + 1, lo].Nodup := List.nodup_cons.mpr ⟨by simp only [List.mem_cons, List.not_mem_nil, or_false, not_or]; omega, hn⟩
  have hn : [lo + 36, lo + 35, lo + 34, lo + 33, lo + 32, lo + 31, lo + 30, lo + 29, lo + 28, lo + 27, lo + 26, lo + 25, lo + 24, lo + 23, lo + 22, lo + 21, lo + 20, lo + 19, lo + 18, lo + 17, lo + 16, lo + 15, lo + 14, lo + 13, lo + 12, lo + 11, lo + 10, lo + 9, lo + 8, lo + 7, lo + 6, lo + 5, lo + 4, lo + 3, lo + 2, lo + 1, lo].Nodup := List.nodup_cons.mpr ⟨by simp only [List.mem_cons, List.not_mem_nil, or_false, not_or]; omega, hn⟩
  have hn : [lo + 37, lo + 36, lo + 35, lo + 34, lo + 33, lo + 32, lo + 31, lo + 30, lo + 29, lo + 28, lo + 27, lo + 26, lo + 25, lo + 24, lo + 23, lo + 22, lo + 21, lo + 20, lo + 19, lo + 18, lo + 17, lo + 16, lo + 15, lo + 14, lo + 13, lo + 12, lo + 11, lo + 10, lo + 9, lo + 8, lo + 7, lo + 6, lo + 5, lo + 4, lo + 3, lo + 2, lo + 1, lo].Nodup := List.nodup_cons.mpr ⟨by simp only [List.mem_cons, List.not_mem_nil, or_false, not_or]; omega, hn⟩
  have hn : [lo + 38, lo + 37, lo + 36, lo + 35, lo + 34, lo + 33, lo + 32, lo + 31, lo + 30, lo + 29, lo + 28, lo + 27, lo + 26, lo + 25, lo + 24, lo + 23, lo + 22, lo + 21, lo + 20, lo + 19, lo + 18, lo + 17, lo + 16, lo + 15, lo + 14, lo + 13, lo + 12, lo + 11, lo + 10, lo + 9, lo + 8, lo + 7, lo + 6, lo + 5, lo + 4, lo + 3, lo + 2, lo + 1, lo].Nodup := List.nodup_cons.mpr ⟨by simp only [List.mem_cons, List.not_mem_nil, or_false, not_or]; omega, hn⟩
  have hn : [lo + 39, lo + 38, lo + 37, lo + 36, lo + 35, lo + 34, lo + 33, lo + 32, lo + 31, lo + 30, lo + 29, lo + 28, lo + 27, lo + 26, lo + 25, lo + 24, lo + 23, lo + 22, lo + 21, lo + 20, lo + 19, lo + 18, lo + 17, lo + 16, lo + 15, lo + 14, lo + 13, lo + 12, lo + 11, lo + 10, lo + 9, lo + 8, lo + 7, lo + 6, lo + 5, lo + 4, lo + 3, lo + 2, lo + 1, lo].Nodup := List.nodup_cons.mpr ⟨by simp only [List.mem_cons, List.not_mem_nil, or_false, not_or]; omega, hn⟩
  have hn : [lo + 40, lo + 39, lo + 38, lo + 37, lo + 36, lo + 35, lo + 34, lo + 33, lo + 32, lo + 31, lo + 30, lo + 29, lo + 28, lo + 27, lo + 26, lo + 25, lo + 24, lo + 23, lo + 22, lo + 21, lo + 20, lo + 19, lo + 18, lo + 17, lo + 16, lo + 15, lo + 14, lo + 13, lo + 12, lo + 11, lo + 10, lo + 9, lo + 8, lo + 7, lo + 6, lo + 5, lo + 4, lo + 3, lo + 2, lo + 1, lo].Nodup := List.nodup_cons.mpr ⟨by simp only [List.mem_cons, List.not_mem_nil, or_false, not_or]; omega, hn⟩
  have hn : [lo + 41, lo + 40, lo + 39, lo + 38, lo + 37, lo + 36, lo + 35, lo + 34, lo + 33, lo + 32, lo + 31, lo + 30, lo + 29, lo + 28, lo + 27, lo + 26, lo + 25, lo + 24, lo + 23, lo + 22, lo + 21, lo + 20, lo + 19, lo + 18, lo + 17, lo + 16, lo + 15, lo + 14, lo + 13, lo + 12, lo + 11, lo + 10, lo + 9, lo + 8, lo + 7, lo + 6, lo + 5, lo + 4, lo + 3, lo + 2, lo + 1, lo].Nodup := List.nodup_cons.mpr ⟨by simp only [List.mem_cons, List.not_mem_nil, or_false, not_or]; omega, hn⟩
  have hn : [lo + 42, lo + 41, lo + 40, lo + 39, lo + 38, lo + 37, lo + 36, lo + 35, lo + 34, lo + 33, lo + 32, lo + 31, lo + 30, lo + 29, lo + 28, lo + 27, lo + 26, lo + 25, lo + 24, lo + 23, lo + 22, lo + 21, lo + 20, lo + 19, lo + 18, lo + 17, lo + 16, lo + 15, lo + 14, lo + 13, lo + 12, lo + 11, lo + 10, lo + 9, lo + 8, lo + 7, lo + 6, lo + 5, lo + 4, lo + 3, lo + 2, lo + 1, lo].Nodup := List.nodup_cons.mpr ⟨by simp only [List.mem_cons, List.not_mem_nil, or_false, not_or]; omega, hn⟩
  have hn : [lo + 43, lo + 42, lo + 41, lo + 40, lo + 39, lo + 38, lo + 37, lo + 36, lo + 35, lo + 34, lo + 33, lo + 32, lo + 31, lo + 30, lo + 29, lo + 28, lo + 27, lo + 26, lo + 25, lo + 24, lo + 23, lo + 22, lo + 21, lo + 20, lo + 19, lo + 18, lo + 17, lo + 16, lo + 15, lo + 14, lo + 13, lo + 12, lo + 11, lo + 10, lo + 9, lo + 8, lo + 7, lo + 6, lo + 5, lo + 4, lo + 3, lo + 2, lo + 1, lo].Nodup := List.nodup_cons.mpr ⟨by simp only [List.mem_cons, List.not_mem_nil, or_false, not_or]; omega, hn⟩
  have hn : [lo + 44, lo + 43, lo + 42, lo + 41, lo + 40, lo + 39, lo + 38, lo + 37, lo + 36, lo + 35, lo + 34, lo + 33, lo + 32, lo + 31, lo + 30, lo + 29, lo + 28, lo + 27, lo + 26, lo + 25, lo + 24, lo + 23, lo + 22, lo + 21, lo + 20, lo + 19, lo + 18, lo + 17, lo + 16, lo + 15, lo + 14, lo + 13, lo + 12, lo + 11, lo + 10, lo + 9, lo + 8, lo + 7, lo + 6, lo + 5, lo + 4, lo + 3, lo + 2, lo + 1, lo].Nodup := List.nodup_cons.mpr ⟨by simp only [List.mem_cons, List.not_mem_nil, or_false, not_or]; omega, hn⟩
  have hz : H.size = lo + 45 := hz
  have hV : vS G.1 cls lo s H locs (vU (fun _ => none) [(lo + 44, eI (gI G) 5000 (fun _ => 0)), (lo + 43, eI (gZ G) 41 (fun _ => 0)), (lo + 42, eI (gI G) 300 (fun _ => 0)), (lo + 41, eI (gI G) 300 (fun _ => 0)), (lo + 40, eI (gI G) 62 (fun _ => 0)), (lo + 39, eI (gI G) 62 (fun _ => 0)), (lo + 38, eI (gI G) 1769 (fun _ => 0)), (lo + 37, eI (gI G) 600 (fun _ => 0)), (lo + 36, eI (gI G) 62 (fun _ => 0)), (lo + 35, eI (gI G) 62 (fun _ => 0)), (lo + 34, eI (gI G) 1769 (fun _ => 0)), (lo + 33, eI (gI G) 400 (fun _ => 0)), (lo + 32, eO 8 [.int 0, .int 0, .ref (lo + 33), .int ((-1)), .ref (lo + 34), .ref (lo + 35), .ref (lo + 36), .int 0, .ref (lo + 37), .ref (lo + 38), .ref (lo + 39), .ref (lo + 40), .int 0, .int 0, .int 0, .int 0, .ref (lo + 41), .ref (lo + 42), .ref (lo + 43), .int 0, .ref (lo + 44)]), (lo + 31, eI (gI G) 20 (fun _ => 0)), (lo + 30, eI (gI G) 20 (fun _ => 0)), (lo + 29, eI (gI G) 20 (fun _ => 0)), (lo + 28, eO 6 [.ref (lo + 29), .ref (lo + 30), .ref (lo + 31), .int 0, .int 0]), (lo + 27, eI (gI G) 31 (fun _ => 0)), (lo + 26, eI (gI G) 31 (fun _ => 0)), (lo + 25, eO 4 [.ref (lo + 26), .ref (lo + 27)]), (lo + 24, eI (gI G) 31 (fun _ => 0)), (lo + 23, eI (gI G) 31 (fun _ => 0)), (lo + 22, eO 4 [.ref (lo + 23), .ref (lo + 24)]), (lo + 21, eQ (gP G) 61 (fun _ => none)), (lo + 20, eO 5 [.ref (lo + 21), .ref (lo + 22), .ref (lo + 25), .ref (lo + 28)]), (lo + 19, eI (gI G) 20 (fun _ => 0)), (lo + 18, eI (gI G) 20 (fun _ => 0)), (lo + 17, eI (gI G) 20 (fun _ => 0)), (lo + 16, eO 6 [.ref (lo + 17), .ref (lo + 18), .ref (lo + 19), .int 0, .int 0]), (lo + 15, eI (gI G) 31 (fun _ => 0)), (lo + 14, eI (gI G) 31 (fun _ => 0)), (lo + 13, eO 4 [.ref (lo + 14), .ref (lo + 15)]), (lo + 12, eI (gI G) 31 (fun _ => 0)), (lo + 11, eI (gI G) 31 (fun _ => 0)), (lo + 10, eO 4 [.ref (lo + 11), .ref (lo + 12)]), (lo + 9, eQ (gP G) 61 (fun _ => none)), (lo + 8, eO 5 [.ref (lo + 9), .ref (lo + 10), .ref (lo + 13), .ref (lo + 16)]), (lo + 7, eI (gB G) 4880 (fun _ => 0)), (lo + 6, eO 2 [.ref (lo + 7), .int 0]), (lo + 5, eI (gI G) 250 (fun _ => 0)), (lo + 4, eI (gI G) 250 (fun _ => 0)), (lo + 3, eO 0 [.ref (lo + 4), .ref (lo + 5), .int 0]), (lo + 2, eI (gB G) 400 (fun _ => 0)), (lo + 1, eO 3 [.ref (lo + 2), .int 0, .int 0]), (lo, eO 7 [.ref (lo + 1), .ref (lo + 3), .ref (lo + 6), .ref (lo + 8), .ref (lo + 20), .int ((-1))])]) := hV
  refine lv_astore_n (lv' := [(2, .ref (lo + 32)), (1, .ref lo), (0, .ref b)]) hx hb d_La_law_15 rfl hl (by decide) rfl (fun ls hl => ?_)
  refine lv_iconst (v := 1) hx hb d_La_law_16 (by decide) ?_
  refine u_newa (atype := .long) hx hb hts w_ac_long rfl hK hV 2 rfl (a0 := (1, .inr (.inl (fun _ => 0)))) (fun _ => rfl) (by decide) (N' := 1) (by decide) (by decide) (Nat.le_of_ble_eq_true rfl) (Nat.le_of_ble_eq_true rfl) d_La_law_17 hz (fun H hV hz => ?_)
  have hV : vS G.1 cls lo s H locs (vU (fun _ => none) [(lo + 45, eL (gL G) 1 (fun _ => 0)), (lo + 44, eI (gI G) 5000 (fun _ => 0)), (lo + 43, eI (gZ G) 41 (fun _ => 0)), (lo + 42, eI (gI G) 300 (fun _ => 0)), (lo + 41, eI (gI G) 300 (fun _ => 0)), (lo + 40, eI (gI G) 62 (fun _ => 0)), (lo + 39, eI (gI G) 62 (fun _ => 0)), (lo + 38, eI (gI G) 1769 (fun _ => 0)), (lo + 37, eI (gI G) 600 (fun _ => 0)), (lo + 36, eI (gI G) 62 (fun _ => 0)), (lo + 35, eI (gI G) 62 (fun _ => 0)), (lo + 34, eI (gI G) 1769 (fun _ => 0)), (lo + 33, eI (gI G) 400 (fun _ => 0)), (lo + 32, eO 8 [.int 0, .int 0, .ref (lo + 33), .int ((-1)), .ref (lo + 34), .ref (lo + 35), .ref (lo + 36), .int 0, .ref (lo + 37), .ref (lo + 38), .ref (lo + 39), .ref (lo + 40), .int 0, .int 0, .int 0, .int 0, .ref (lo + 41), .ref (lo + 42), .ref (lo + 43), .int 0, .ref (lo + 44)]), (lo + 31, eI (gI G) 20 (fun _ => 0)), (lo + 30, eI (gI G) 20 (fun _ => 0)), (lo + 29, eI (gI G) 20 (fun _ => 0)), (lo + 28, eO 6 [.ref (lo + 29), .ref (lo + 30), .ref (lo + 31), .int 0, .int 0]), (lo + 27, eI (gI G) 31 (fun _ => 0)), (lo + 26, eI (gI G) 31 (fun _ => 0)), (lo + 25, eO 4 [.ref (lo + 26), .ref (lo + 27)]), (lo + 24, eI (gI G) 31 (fun _ => 0)), (lo + 23, eI (gI G) 31 (fun _ => 0)), (lo + 22, eO 4 [.ref (lo + 23), .ref (lo + 24)]), (lo + 21, eQ (gP G) 61 (fun _ => none)), (lo + 20, eO 5 [.ref (lo + 21), .ref (lo + 22), .ref (lo + 25), .ref (lo + 28)]), (lo + 19, eI (gI G) 20 (fun _ => 0)), (lo + 18, eI (gI G) 20 (fun _ => 0)), (lo + 17, eI (gI G) 20 (fun _ => 0)), (lo + 16, eO 6 [.ref (lo + 17), .ref (lo + 18), .ref (lo + 19), .int 0, .int 0]), (lo + 15, eI (gI G) 31 (fun _ => 0)), (lo + 14, eI (gI G) 31 (fun _ => 0)), (lo + 13, eO 4 [.ref (lo + 14), .ref (lo + 15)]), (lo + 12, eI (gI G) 31 (fun _ => 0)), (lo + 11, eI (gI G) 31 (fun _ => 0)), (lo + 10, eO 4 [.ref (lo + 11), .ref (lo + 12)]), (lo + 9, eQ (gP G) 61 (fun _ => none)), (lo + 8, eO 5 [.ref (lo + 9), .ref (lo + 10), .ref (lo + 13), .ref (lo + 16)]), (lo + 7, eI (gB G) 4880 (fun _ => 0)), (lo + 6, eO 2 [.ref (lo + 7), .int 0]), (lo + 5, eI (gI G) 250 (fun _ => 0)), (lo + 4, eI (gI G) 250 (fun _ => 0)), (lo + 3, eO 0 [.ref (lo + 4), .ref (lo + 5), .int 0]), (lo + 2, eI (gB G) 400 (fun _ => 0)), (lo + 1, eO 3 [.ref (lo + 2), .int 0, .int 0]), (lo, eO 7 [.ref (lo + 1), .ref (lo + 3), .ref (lo + 6), .ref (lo + 8), .ref (lo + 20), .int ((-1))])]) := hV
  have hn : [lo + 45, lo + 44, lo + 43, lo + 42, lo + 41, lo + 40, lo + 39, lo + 38, lo + 37, lo + 36, lo + 35, lo + 34, lo + 33, lo + 32, lo + 31, lo + 30, lo + 29, lo + 28, lo + 27, lo + 26, lo + 25, lo + 24, lo + 23, lo + 22, lo + 21, lo + 20, lo + 19, lo + 18, lo + 17, lo + 16, lo + 15, lo + 14, lo + 13, lo + 12, lo + 11, lo + 10, lo + 9, lo + 8, lo + 7, lo + 6, lo + 5, lo + 4, lo + 3, lo + 2, lo + 1, lo].Nodup := List.nodup_cons.mpr ⟨by simp only [List.mem_cons, List.not_mem_nil, or_false, not_or]; omega, hn⟩
  refine lv_astore_n (lv' := [(3, .ref (lo + 45)), (2, .ref (lo + 32)), (1, .ref lo), (0, .ref b)]) hx hb d_La_law_19 rfl hl (by decide) rfl (fun ls hl => ?_)
  refine lv_iconst (v := 0) hx hb d_La_law_20 (by decide) ?_
  refine lv_istore (lv' := [(4, .int 0), (3, .ref (lo + 45)), (2, .ref (lo + 32)), (1, .ref lo), (0, .ref b)]) hx hb d_La_law_21 hl (by decide) rfl (fun ls hl => ?_)
  have hC0 := cS_start (G := G) (V := vU (fun _ => none) [(lo + 45, eL (gL G) 1 (fun _ => 0)), (lo + 44, eI (gI G) 5000 (fun _ => 0)), (lo + 43, eI (gZ G) 41 (fun _ => 0)), (lo + 42, eI (gI G) 300 (fun _ => 0)), (lo + 41, eI (gI G) 300 (fun _ => 0)), (lo + 40, eI (gI G) 62 (fun _ => 0)), (lo + 39, eI (gI G) 62 (fun _ => 0)), (lo + 38, eI (gI G) 1769 (fun _ => 0)), (lo + 37, eI (gI G) 600 (fun _ => 0)), (lo + 36, eI (gI G) 62 (fun _ => 0)), (lo + 35, eI (gI G) 62 (fun _ => 0)), (lo + 34, eI (gI G) 1769 (fun _ => 0)), (lo + 33, eI (gI G) 400 (fun _ => 0)), (lo + 32, eO 8 [.int 0, .int 0, .ref (lo + 33), .int ((-1)), .ref (lo + 34), .ref (lo + 35), .ref (lo + 36), .int 0, .ref (lo + 37), .ref (lo + 38), .ref (lo + 39), .ref (lo + 40), .int 0, .int 0, .int 0, .int 0, .ref (lo + 41), .ref (lo + 42), .ref (lo + 43), .int 0, .ref (lo + 44)]), (lo + 31, eI (gI G) 20 (fun _ => 0)), (lo + 30, eI (gI G) 20 (fun _ => 0)), (lo + 29, eI (gI G) 20 (fun _ => 0)), (lo + 28, eO 6 [.ref (lo + 29), .ref (lo + 30), .ref (lo + 31), .int 0, .int 0]), (lo + 27, eI (gI G) 31 (fun _ => 0)), (lo + 26, eI (gI G) 31 (fun _ => 0)), (lo + 25, eO 4 [.ref (lo + 26), .ref (lo + 27)]), (lo + 24, eI (gI G) 31 (fun _ => 0)), (lo + 23, eI (gI G) 31 (fun _ => 0)), (lo + 22, eO 4 [.ref (lo + 23), .ref (lo + 24)]), (lo + 21, eQ (gP G) 61 (fun _ => none)), (lo + 20, eO 5 [.ref (lo + 21), .ref (lo + 22), .ref (lo + 25), .ref (lo + 28)]), (lo + 19, eI (gI G) 20 (fun _ => 0)), (lo + 18, eI (gI G) 20 (fun _ => 0)), (lo + 17, eI (gI G) 20 (fun _ => 0)), (lo + 16, eO 6 [.ref (lo + 17), .ref (lo + 18), .ref (lo + 19), .int 0, .int 0]), (lo + 15, eI (gI G) 31 (fun _ => 0)), (lo + 14, eI (gI G) 31 (fun _ => 0)), (lo + 13, eO 4 [.ref (lo + 14), .ref (lo + 15)]), (lo + 12, eI (gI G) 31 (fun _ => 0)), (lo + 11, eI (gI G) 31 (fun _ => 0)), (lo + 10, eO 4 [.ref (lo + 11), .ref (lo + 12)]), (lo + 9, eQ (gP G) 61 (fun _ => none)), (lo + 8, eO 5 [.ref (lo + 9), .ref (lo + 10), .ref (lo + 13), .ref (lo + 16)]), (lo + 7, eI (gB G) 4880 (fun _ => 0)), (lo + 6, eO 2 [.ref (lo + 7), .int 0]), (lo + 5, eI (gI G) 250 (fun _ => 0)), (lo + 4, eI (gI G) 250 (fun _ => 0)), (lo + 3, eO 0 [.ref (lo + 4), .ref (lo + 5), .int 0]), (lo + 2, eI (gB G) 400 (fun _ => 0)), (lo + 1, eO 3 [.ref (lo + 2), .int 0, .int 0]), (lo, eO 7 [.ref (lo + 1), .ref (lo + 3), .ref (lo + 6), .ref (lo + 8), .ref (lo + 20), .int ((-1))])]) (lo := lo) (vU_sub (CS := [(lo + 45, eL (gL G) 1 (fun _ => 0)), (lo + 44, eI (gI G) 5000 (fun _ => 0)), (lo + 43, eI (gZ G) 41 (fun _ => 0)), (lo + 42, eI (gI G) 300 (fun _ => 0)), (lo + 41, eI (gI G) 300 (fun _ => 0)), (lo + 40, eI (gI G) 62 (fun _ => 0)), (lo + 39, eI (gI G) 62 (fun _ => 0)), (lo + 38, eI (gI G) 1769 (fun _ => 0)), (lo + 37, eI (gI G) 600 (fun _ => 0)), (lo + 36, eI (gI G) 62 (fun _ => 0)), (lo + 35, eI (gI G) 62 (fun _ => 0)), (lo + 34, eI (gI G) 1769 (fun _ => 0)), (lo + 33, eI (gI G) 400 (fun _ => 0)), (lo + 32, eO 8 [.int 0, .int 0, .ref (lo + 33), .int ((-1)), .ref (lo + 34), .ref (lo + 35), .ref (lo + 36), .int 0, .ref (lo + 37), .ref (lo + 38), .ref (lo + 39), .ref (lo + 40), .int 0, .int 0, .int 0, .int 0, .ref (lo + 41), .ref (lo + 42), .ref (lo + 43), .int 0, .ref (lo + 44)]), (lo + 31, eI (gI G) 20 (fun _ => 0)), (lo + 30, eI (gI G) 20 (fun _ => 0)), (lo + 29, eI (gI G) 20 (fun _ => 0)), (lo + 28, eO 6 [.ref (lo + 29), .ref (lo + 30), .ref (lo + 31), .int 0, .int 0]), (lo + 27, eI (gI G) 31 (fun _ => 0)), (lo + 26, eI (gI G) 31 (fun _ => 0)), (lo + 25, eO 4 [.ref (lo + 26), .ref (lo + 27)]), (lo + 24, eI (gI G) 31 (fun _ => 0)), (lo + 23, eI (gI G) 31 (fun _ => 0)), (lo + 22, eO 4 [.ref (lo + 23), .ref (lo + 24)]), (lo + 21, eQ (gP G) 61 (fun _ => none)), (lo + 20, eO 5 [.ref (lo + 21), .ref (lo + 22), .ref (lo + 25), .ref (lo + 28)]), (lo + 19, eI (gI G) 20 (fun _ => 0)), (lo + 18, eI (gI G) 20 (fun _ => 0)), (lo + 17, eI (gI G) 20 (fun _ => 0)), (lo + 16, eO 6 [.ref (lo + 17), .ref (lo + 18), .ref (lo + 19), .int 0, .int 0]), (lo + 15, eI (gI G) 31 (fun _ => 0)), (lo + 14, eI (gI G) 31 (fun _ => 0)), (lo + 13, eO 4 [.ref (lo + 14), .ref (lo + 15)]), (lo + 12, eI (gI G) 31 (fun _ => 0)), (lo + 11, eI (gI G) 31 (fun _ => 0)), (lo + 10, eO 4 [.ref (lo + 11), .ref (lo + 12)]), (lo + 9, eQ (gP G) 61 (fun _ => none)), (lo + 8, eO 5 [.ref (lo + 9), .ref (lo + 10), .ref (lo + 13), .ref (lo + 16)]), (lo + 7, eI (gB G) 4880 (fun _ => 0)), (lo + 6, eO 2 [.ref (lo + 7), .int 0]), (lo + 5, eI (gI G) 250 (fun _ => 0)), (lo + 4, eI (gI G) 250 (fun _ => 0)), (lo + 3, eO 0 [.ref (lo + 4), .ref (lo + 5), .int 0]), (lo + 2, eI (gB G) 400 (fun _ => 0)), (lo + 1, eO 3 [.ref (lo + 2), .int 0, .int 0]), (lo, eO 7 [.ref (lo + 1), .ref (lo + 3), .ref (lo + 6), .ref (lo + 8), .ref (lo + 20), .int ((-1))])]) hn [45, 44, 43, 42, 41, 40, 39, 38, 37, 36, 35, 34, 33, 32, 31, 30, 29, 28, 27, 26, 25, 24, 23, 22, 21, 20, 19, 18, 17, 16, 15, 14] rfl)
  have hM0 := mS_start (G := G) (V := vU (fun _ => none) [(lo + 45, eL (gL G) 1 (fun _ => 0)), (lo + 44, eI (gI G) 5000 (fun _ => 0)), (lo + 43, eI (gZ G) 41 (fun _ => 0)), (lo + 42, eI (gI G) 300 (fun _ => 0)), (lo + 41, eI (gI G) 300 (fun _ => 0)), (lo + 40, eI (gI G) 62 (fun _ => 0)), (lo + 39, eI (gI G) 62 (fun _ => 0)), (lo + 38, eI (gI G) 1769 (fun _ => 0)), (lo + 37, eI (gI G) 600 (fun _ => 0)), (lo + 36, eI (gI G) 62 (fun _ => 0)), (lo + 35, eI (gI G) 62 (fun _ => 0)), (lo + 34, eI (gI G) 1769 (fun _ => 0)), (lo + 33, eI (gI G) 400 (fun _ => 0)), (lo + 32, eO 8 [.int 0, .int 0, .ref (lo + 33), .int ((-1)), .ref (lo + 34), .ref (lo + 35), .ref (lo + 36), .int 0, .ref (lo + 37), .ref (lo + 38), .ref (lo + 39), .ref (lo + 40), .int 0, .int 0, .int 0, .int 0, .ref (lo + 41), .ref (lo + 42), .ref (lo + 43), .int 0, .ref (lo + 44)]), (lo + 31, eI (gI G) 20 (fun _ => 0)), (lo + 30, eI (gI G) 20 (fun _ => 0)), (lo + 29, eI (gI G) 20 (fun _ => 0)), (lo + 28, eO 6 [.ref (lo + 29), .ref (lo + 30), .ref (lo + 31), .int 0, .int 0]), (lo + 27, eI (gI G) 31 (fun _ => 0)), (lo + 26, eI (gI G) 31 (fun _ => 0)), (lo + 25, eO 4 [.ref (lo + 26), .ref (lo + 27)]), (lo + 24, eI (gI G) 31 (fun _ => 0)), (lo + 23, eI (gI G) 31 (fun _ => 0)), (lo + 22, eO 4 [.ref (lo + 23), .ref (lo + 24)]), (lo + 21, eQ (gP G) 61 (fun _ => none)), (lo + 20, eO 5 [.ref (lo + 21), .ref (lo + 22), .ref (lo + 25), .ref (lo + 28)]), (lo + 19, eI (gI G) 20 (fun _ => 0)), (lo + 18, eI (gI G) 20 (fun _ => 0)), (lo + 17, eI (gI G) 20 (fun _ => 0)), (lo + 16, eO 6 [.ref (lo + 17), .ref (lo + 18), .ref (lo + 19), .int 0, .int 0]), (lo + 15, eI (gI G) 31 (fun _ => 0)), (lo + 14, eI (gI G) 31 (fun _ => 0)), (lo + 13, eO 4 [.ref (lo + 14), .ref (lo + 15)]), (lo + 12, eI (gI G) 31 (fun _ => 0)), (lo + 11, eI (gI G) 31 (fun _ => 0)), (lo + 10, eO 4 [.ref (lo + 11), .ref (lo + 12)]), (lo + 9, eQ (gP G) 61 (fun _ => none)), (lo + 8, eO 5 [.ref (lo + 9), .ref (lo + 10), .ref (lo + 13), .ref (lo + 16)]), (lo + 7, eI (gB G) 4880 (fun _ => 0)), (lo + 6, eO 2 [.ref (lo + 7), .int 0]), (lo + 5, eI (gI G) 250 (fun _ => 0)), (lo + 4, eI (gI G) 250 (fun _ => 0)), (lo + 3, eO 0 [.ref (lo + 4), .ref (lo + 5), .int 0]), (lo + 2, eI (gB G) 400 (fun _ => 0)), (lo + 1, eO 3 [.ref (lo + 2), .int 0, .int 0]), (lo, eO 7 [.ref (lo + 1), .ref (lo + 3), .ref (lo + 6), .ref (lo + 8), .ref (lo + 20), .int ((-1))])]) (lo := lo) (vU_sub (CS := [(lo + 45, eL (gL G) 1 (fun _ => 0)), (lo + 44, eI (gI G) 5000 (fun _ => 0)), (lo + 43, eI (gZ G) 41 (fun _ => 0)), (lo + 42, eI (gI G) 300 (fun _ => 0)), (lo + 41, eI (gI G) 300 (fun _ => 0)), (lo + 40, eI (gI G) 62 (fun _ => 0)), (lo + 39, eI (gI G) 62 (fun _ => 0)), (lo + 38, eI (gI G) 1769 (fun _ => 0)), (lo + 37, eI (gI G) 600 (fun _ => 0)), (lo + 36, eI (gI G) 62 (fun _ => 0)), (lo + 35, eI (gI G) 62 (fun _ => 0)), (lo + 34, eI (gI G) 1769 (fun _ => 0)), (lo + 33, eI (gI G) 400 (fun _ => 0)), (lo + 32, eO 8 [.int 0, .int 0, .ref (lo + 33), .int ((-1)), .ref (lo + 34), .ref (lo + 35), .ref (lo + 36), .int 0, .ref (lo + 37), .ref (lo + 38), .ref (lo + 39), .ref (lo + 40), .int 0, .int 0, .int 0, .int 0, .ref (lo + 41), .ref (lo + 42), .ref (lo + 43), .int 0, .ref (lo + 44)]), (lo + 31, eI (gI G) 20 (fun _ => 0)), (lo + 30, eI (gI G) 20 (fun _ => 0)), (lo + 29, eI (gI G) 20 (fun _ => 0)), (lo + 28, eO 6 [.ref (lo + 29), .ref (lo + 30), .ref (lo + 31), .int 0, .int 0]), (lo + 27, eI (gI G) 31 (fun _ => 0)), (lo + 26, eI (gI G) 31 (fun _ => 0)), (lo + 25, eO 4 [.ref (lo + 26), .ref (lo + 27)]), (lo + 24, eI (gI G) 31 (fun _ => 0)), (lo + 23, eI (gI G) 31 (fun _ => 0)), (lo + 22, eO 4 [.ref (lo + 23), .ref (lo + 24)]), (lo + 21, eQ (gP G) 61 (fun _ => none)), (lo + 20, eO 5 [.ref (lo + 21), .ref (lo + 22), .ref (lo + 25), .ref (lo + 28)]), (lo + 19, eI (gI G) 20 (fun _ => 0)), (lo + 18, eI (gI G) 20 (fun _ => 0)), (lo + 17, eI (gI G) 20 (fun _ => 0)), (lo + 16, eO 6 [.ref (lo + 17), .ref (lo + 18), .ref (lo + 19), .int 0, .int 0]), (lo + 15, eI (gI G) 31 (fun _ => 0)), (lo + 14, eI (gI G) 31 (fun _ => 0)), (lo + 13, eO 4 [.ref (lo + 14), .ref (lo + 15)]), (lo + 12, eI (gI G) 31 (fun _ => 0)), (lo + 11, eI (gI G) 31 (fun _ => 0)), (lo + 10, eO 4 [.ref (lo + 11), .ref (lo + 12)]), (lo + 9, eQ (gP G) 61 (fun _ => none)), (lo + 8, eO 5 [.ref (lo + 9), .ref (lo + 10), .ref (lo + 13), .ref (lo + 16)]), (lo + 7, eI (gB G) 4880 (fun _ => 0)), (lo + 6, eO 2 [.ref (lo + 7), .int 0]), (lo + 5, eI (gI G) 250 (fun _ => 0)), (lo + 4, eI (gI G) 250 (fun _ => 0)), (lo + 3, eO 0 [.ref (lo + 4), .ref (lo + 5), .int 0]), (lo + 2, eI (gB G) 400 (fun _ => 0)), (lo + 1, eO 3 [.ref (lo + 2), .int 0, .int 0]), (lo, eO 7 [.ref (lo + 1), .ref (lo + 3), .ref (lo + 6), .ref (lo + 8), .ref (lo + 20), .int ((-1))])]) hn [13, 12, 11, 10, 9, 8, 7, 6, 5, 4, 3, 2, 1] rfl)
  have ho0 : vU (fun _ => none) [(lo + 45, eL (gL G) 1 (fun _ => 0)), (lo + 44, eI (gI G) 5000 (fun _ => 0)), (lo + 43, eI (gZ G) 41 (fun _ => 0)), (lo + 42, eI (gI G) 300 (fun _ => 0)), (lo + 41, eI (gI G) 300 (fun _ => 0)), (lo + 40, eI (gI G) 62 (fun _ => 0)), (lo + 39, eI (gI G) 62 (fun _ => 0)), (lo + 38, eI (gI G) 1769 (fun _ => 0)), (lo + 37, eI (gI G) 600 (fun _ => 0)), (lo + 36, eI (gI G) 62 (fun _ => 0)), (lo + 35, eI (gI G) 62 (fun _ => 0)), (lo + 34, eI (gI G) 1769 (fun _ => 0)), (lo + 33, eI (gI G) 400 (fun _ => 0)), (lo + 32, eO 8 [.int 0, .int 0, .ref (lo + 33), .int ((-1)), .ref (lo + 34), .ref (lo + 35), .ref (lo + 36), .int 0, .ref (lo + 37), .ref (lo + 38), .ref (lo + 39), .ref (lo + 40), .int 0, .int 0, .int 0, .int 0, .ref (lo + 41), .ref (lo + 42), .ref (lo + 43), .int 0, .ref (lo + 44)]), (lo + 31, eI (gI G) 20 (fun _ => 0)), (lo + 30, eI (gI G) 20 (fun _ => 0)), (lo + 29, eI (gI G) 20 (fun _ => 0)), (lo + 28, eO 6 [.ref (lo + 29), .ref (lo + 30), .ref (lo + 31), .int 0, .int 0]), (lo + 27, eI (gI G) 31 (fun _ => 0)), (lo + 26, eI (gI G) 31 (fun _ => 0)), (lo + 25, eO 4 [.ref (lo + 26), .ref (lo + 27)]), (lo + 24, eI (gI G) 31 (fun _ => 0)), (lo + 23, eI (gI G) 31 (fun _ => 0)), (lo + 22, eO 4 [.ref (lo + 23), .ref (lo + 24)]), (lo + 21, eQ (gP G) 61 (fun _ => none)), (lo + 20, eO 5 [.ref (lo + 21), .ref (lo + 22), .ref (lo + 25), .ref (lo + 28)]), (lo + 19, eI (gI G) 20 (fun _ => 0)), (lo + 18, eI (gI G) 20 (fun _ => 0)), (lo + 17, eI (gI G) 20 (fun _ => 0)), (lo + 16, eO 6 [.ref (lo + 17), .ref (lo + 18), .ref (lo + 19), .int 0, .int 0]), (lo + 15, eI (gI G) 31 (fun _ => 0)), (lo + 14, eI (gI G) 31 (fun _ => 0)), (lo + 13, eO 4 [.ref (lo + 14), .ref (lo + 15)]), (lo + 12, eI (gI G) 31 (fun _ => 0)), (lo + 11, eI (gI G) 31 (fun _ => 0)), (lo + 10, eO 4 [.ref (lo + 11), .ref (lo + 12)]), (lo + 9, eQ (gP G) 61 (fun _ => none)), (lo + 8, eO 5 [.ref (lo + 9), .ref (lo + 10), .ref (lo + 13), .ref (lo + 16)]), (lo + 7, eI (gB G) 4880 (fun _ => 0)), (lo + 6, eO 2 [.ref (lo + 7), .int 0]), (lo + 5, eI (gI G) 250 (fun _ => 0)), (lo + 4, eI (gI G) 250 (fun _ => 0)), (lo + 3, eO 0 [.ref (lo + 4), .ref (lo + 5), .int 0]), (lo + 2, eI (gB G) 400 (fun _ => 0)), (lo + 1, eO 3 [.ref (lo + 2), .int 0, .int 0]), (lo, eO 7 [.ref (lo + 1), .ref (lo + 3), .ref (lo + 6), .ref (lo + 8), .ref (lo + 20), .int ((-1))])] (lo + 45) = some (eL (gL G) 1 (fun _ => 0)) := vU_at (cs := [(lo + 45, eL (gL G) 1 (fun _ => 0)), (lo + 44, eI (gI G) 5000 (fun _ => 0)), (lo + 43, eI (gZ G) 41 (fun _ => 0)), (lo + 42, eI (gI G) 300 (fun _ => 0)), (lo + 41, eI (gI G) 300 (fun _ => 0)), (lo + 40, eI (gI G) 62 (fun _ => 0)), (lo + 39, eI (gI G) 62 (fun _ => 0)), (lo + 38, eI (gI G) 1769 (fun _ => 0)), (lo + 37, eI (gI G) 600 (fun _ => 0)), (lo + 36, eI (gI G) 62 (fun _ => 0)), (lo + 35, eI (gI G) 62 (fun _ => 0)), (lo + 34, eI (gI G) 1769 (fun _ => 0)), (lo + 33, eI (gI G) 400 (fun _ => 0)), (lo + 32, eO 8 [.int 0, .int 0, .ref (lo + 33), .int ((-1)), .ref (lo + 34), .ref (lo + 35), .ref (lo + 36), .int 0, .ref (lo + 37), .ref (lo + 38), .ref (lo + 39), .ref (lo + 40), .int 0, .int 0, .int 0, .int 0, .ref (lo + 41), .ref (lo + 42), .ref (lo + 43), .int 0, .ref (lo + 44)]), (lo + 31, eI (gI G) 20 (fun _ => 0)), (lo + 30, eI (gI G) 20 (fun _ => 0)), (lo + 29, eI (gI G) 20 (fun _ => 0)), (lo + 28, eO 6 [.ref (lo + 29), .ref (lo + 30), .ref (lo + 31), .int 0, .int 0]), (lo + 27, eI (gI G) 31 (fun _ => 0)), (lo + 26, eI (gI G) 31 (fun _ => 0)), (lo + 25, eO 4 [.ref (lo + 26), .ref (lo + 27)]), (lo + 24, eI (gI G) 31 (fun _ => 0)), (lo + 23, eI (gI G) 31 (fun _ => 0)), (lo + 22, eO 4 [.ref (lo + 23), .ref (lo + 24)]), (lo + 21, eQ (gP G) 61 (fun _ => none)), (lo + 20, eO 5 [.ref (lo + 21), .ref (lo + 22), .ref (lo + 25), .ref (lo + 28)]), (lo + 19, eI (gI G) 20 (fun _ => 0)), (lo + 18, eI (gI G) 20 (fun _ => 0)), (lo + 17, eI (gI G) 20 (fun _ => 0)), (lo + 16, eO 6 [.ref (lo + 17), .ref (lo + 18), .ref (lo + 19), .int 0, .int 0]), (lo + 15, eI (gI G) 31 (fun _ => 0)), (lo + 14, eI (gI G) 31 (fun _ => 0)), (lo + 13, eO 4 [.ref (lo + 14), .ref (lo + 15)]), (lo + 12, eI (gI G) 31 (fun _ => 0)), (lo + 11, eI (gI G) 31 (fun _ => 0)), (lo + 10, eO 4 [.ref (lo + 11), .ref (lo + 12)]), (lo + 9, eQ (gP G) 61 (fun _ => none)), (lo + 8, eO 5 [.ref (lo + 9), .ref (lo + 10), .ref (lo + 13), .ref (lo + 16)]), (lo + 7, eI (gB G) 4880 (fun _ => 0)), (lo + 6, eO 2 [.ref (lo + 7), .int 0]), (lo + 5, eI (gI G) 250 (fun _ => 0)), (lo + 4, eI (gI G) 250 (fun _ => 0)), (lo + 3, eO 0 [.ref (lo + 4), .ref (lo + 5), .int 0]), (lo + 2, eI (gB G) 400 (fun _ => 0)), (lo + 1, eO 3 [.ref (lo + 2), .int 0, .int 0]), (lo, eO 7 [.ref (lo + 1), .ref (lo + 3), .ref (lo + 6), .ref (lo + 8), .ref (lo + 20), .int ((-1))])]) hn 0 rfl
  exact lp (Ln / 4 + 1) 0 _ 0 (fun _ => none) (fun _ => none) (fun _ => none) [] (fun _ => 0) 0 (-1) [] [] (fun _ => 0) (lo + 46) _ _ (by omega) (by omega) (by decide) (by decide) hC0 hM0 ho0 H locs ls hz hV (lv_sub hl [0, 4, 3, 2, 1] rfl)
