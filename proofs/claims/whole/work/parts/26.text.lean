/-- the whole text, over a town -/
def txtR (t : Nat → Nat) (n : Nat) (A : TnA) : Sum Nat TnA := rowsR t n (n + 1) A 0
def txI : Sum Nat TnA → Int32
  | .inl e => nI e
  | .inr _ => -1
theorem rows_end {t : Nat → Nat} {n k q : Nat} {A : TnA} (h : ¬ sk t n q < n) : rowsR t n k A q = .inr A := by
  cases k with
  | zero => rfl
  | succ k =>
    unfold rowsR
    rw [if_neg h]
theorem rows_bad {t : Nat → Nat} {n k q q1 e : Nat} {A : TnA} (hk : 1 ≤ k) (hq : sk t n q = q1) (h : q1 < n) (hr : rowR t n q1 = .inl e) : rowsR t n k A q = .inl e := by
  obtain ⟨k, rfl⟩ : ∃ j, k = j + 1 := ⟨k - 1, by omega⟩
  unfold rowsR
  rw [hq, if_pos h, hr]
theorem rows_semi {t : Nat → Nat} {n k q q1 q2 e : Nat} {A : TnA} {z : RowE} (hk : 1 ≤ k) (hq : sk t n q = q1) (h : q1 < n) (hr : rowR t n q1 = .inr (z, q2)) (hs : tk t n 59 q2 = .inl e) : rowsR t n k A q = .inl e := by
  obtain ⟨k, rfl⟩ : ∃ j, k = j + 1 := ⟨k - 1, by omega⟩
  unfold rowsR
  rw [hq, if_pos h, hr]
  simp only [hs]
theorem rows_go {t : Nat → Nat} {n k q q1 q2 q3 : Nat} {A : TnA} {z : RowE} (hk : 1 ≤ k) (hq : sk t n q = q1) (h : q1 < n) (hr : rowR t n q1 = .inr (z, q2)) (hs : tk t n 59 q2 = .inr q3) : rowsR t n k A q = rowsR t n (k - 1) (rowA A z) q3 := by
  obtain ⟨k, rfl⟩ : ∃ j, k = j + 1 := ⟨k - 1, by omega⟩
  show (if _ then _ else _) = _
  rw [hq, if_pos h, hr]
  simp only [hs]
  rfl
theorem twA_eff {G : Gx} {V : Vw} {CS : va_W} {dy sz : Nat} {pf : Nat → Option Nat} {fb fc fs fd : Nat → Int32} {L : List Tri} {of : Bool} {A : TnA} (h : twA G V dy sz pf fb fc fs fd L of A) (hc : ∀ a ∈ CS.map Prod.fst, a < dy) : twA G (vU V CS) dy sz pf fb fc fs fd L of A :=
  ⟨twB_mono h.1 (fun q h1 _ => vU_out V CS q (fun hm => by have := hc q hm; omega)) (Nat.le_refl _), h.2⟩
theorem twA_reb {G : Gx} {V V9 V10 : Vw} {CS : va_W} {dy sz k : Nat} {pf : Nat → Option Nat} {fb fc fs fd : Nat → Int32} {L : List Tri} {of : Bool} {A : TnA} (h : twA G V9 dy k pf fb fc fs fd L of A) (hc : ∀ a ∈ CS.map Prod.fst, a < dy) (h9 : ∀ q, q < sz → V9 q = vU V CS q) (h10 : ∀ q, q < sz → V10 q = V q) (h11 : ∀ q, sz ≤ q → V10 q = V9 q) : twA G V10 dy k pf fb fc fs fd L of A := by
  refine ⟨twB_mono h.1 (fun q h1 _ => ?_) (Nat.le_refl _), h.2⟩
  rcases Nat.lt_or_ge q sz with hq | hq
  · rw [h10 q hq, h9 q hq, vU_out V CS q (fun hm => by have := hc q hm; omega)]
  · exact h11 q hq

set_option maxHeartbeats 4000000 in
set_option maxRecDepth 100000 in
/-- Reader.readInto -/
theorem c_Rd_readInto (l : Launch) (G : Gx) (lo : Nat) (V : Vw) (sz : Nat) (rd tp : Nat) (f : Nat → Int32) (t : Nat → Nat) (n p : Nat) (tw ps bl b1 b2 sn s1 s2 tu af ao a3 : Nat) (pf : Nat → Option Nat) (fb fc fs fd fr ov tt : Nat → Int32) (L : List Tri) (of : Bool) (dy : Nat) (A : TnA) (hn : [rd, tp, tw, ps, bl, b1, b2, sn, s1, s2, tu, af, ao, a3].Nodup) (hdy : rd < dy ∧ tp < dy ∧ tw < dy ∧ ps < dy ∧ bl < dy ∧ b1 < dy ∧ b2 < dy ∧ sn < dy ∧ s1 < dy ∧ s2 < dy ∧ tu < dy ∧ af < dy ∧ ao < dy ∧ a3 < dy ∧ dy ≤ sz) (hA : twA G V dy sz pf fb fc fs fd L of A) (hO : tnOk fr ov tt L) (hL : L.length ≤ 20) (hT : tpOk f t n) (h4 : n ≤ 400) (hp : p ≤ 400) : Met l y_Rd_readInto ws_Rd_readInto ({ frames := 8, cells := 4 * n, slots := 24 * n, locals := 230 } : Room) (vPre G lo [.ref rd, .ref tw] (vU V [(rd, eO 3 [.ref tp, .int (nI n), .int (nI p)]), (tp, eI (gB G) 400 f), (tw, eO 5 [.ref ps, .ref bl, .ref sn, .ref tu]), (ps, eQ (gP G) 61 pf), (bl, eO 4 [.ref b1, .ref b2]), (b1, eI (gI G) 31 fb), (b2, eI (gI G) 31 fc), (sn, eO 4 [.ref s1, .ref s2]), (s1, eI (gI G) 31 fs), (s2, eI (gI G) 31 fd), (tu, eO 6 [.ref af, .ref ao, .ref a3, .int (nI L.length), .int (b2i of)]), (af, eI (gI G) 20 fr), (ao, eI (gI G) 20 ov), (a3, eI (gI G) 20 tt)]) sz) (vPost G lo (fun r V' k => r = some (.int (txI (txtR t n A))) ∧ ∃ (V9 : Vw) (pp : Nat) (pf2 : Nat → Option Nat) (fb2 fc2 fs2 fd2 fr2 ov2 tt2 : Nat → Int32) (L2 : List Tri) (of2 : Bool), V' = vU V9 [(rd, eO 3 [.ref tp, .int (nI 0), .int (nI pp)]), (tp, eI (gB G) 400 f), (tw, eO 5 [.ref ps, .ref bl, .ref sn, .ref tu]), (ps, eQ (gP G) 61 pf2), (bl, eO 4 [.ref b1, .ref b2]), (b1, eI (gI G) 31 fb2), (b2, eI (gI G) 31 fc2), (sn, eO 4 [.ref s1, .ref s2]), (s1, eI (gI G) 31 fs2), (s2, eI (gI G) 31 fd2), (tu, eO 6 [.ref af, .ref ao, .ref a3, .int (nI L2.length), .int (b2i of2)]), (af, eI (gI G) 20 fr2), (ao, eI (gI G) 20 ov2), (a3, eI (gI G) 20 tt2)] ∧ (∀ q, q < sz → V9 q = V q) ∧ sz ≤ k ∧ pp ≤ 400 ∧ tnOk fr2 ov2 tt2 L2 ∧ L2.length ≤ 20 ∧ ∀ A2, txtR t n A = .inr A2 → twA G V9 dy k pf2 fb2 fc2 fs2 fd2 L2 of2 A2)) (4 * n) (24 * n) (vL lo) := by
  refine vMet (R := RRd) (by decide) rfl (Nat.le_of_ble_eq_true rfl) ?_
  intro pg ev s mi args below meth cd hx hb hr hml hlk hnm hts hown hK hz hV ls hl
  have hl : lv_has ls 4 [(0, .ref rd), (1, .ref tw)] := hl
  have hV0 := hV
  obtain ⟨H, hH⟩ : ∃ H, H = s.heap := ⟨_, rfl⟩
  obtain ⟨locs, hlocs⟩ : ∃ locs : List Loc, locs = [] := ⟨_, rfl⟩
  rw [← hH, ← hlocs]
  rw [← hH] at hz
  replace hV : vS G.1 cls lo s H locs (vU V [(rd, eO 3 [.ref tp, .int (nI n), .int (nI p)]), (tp, eI (gB G) 400 f), (tw, eO 5 [.ref ps, .ref bl, .ref sn, .ref tu]), (ps, eQ (gP G) 61 pf), (bl, eO 4 [.ref b1, .ref b2]), (b1, eI (gI G) 31 fb), (b2, eI (gI G) 31 fc), (sn, eO 4 [.ref s1, .ref s2]), (s1, eI (gI G) 31 fs), (s2, eI (gI G) 31 fd), (tu, eO 6 [.ref af, .ref ao, .ref a3, .int (nI L.length), .int (b2i of)]), (af, eI (gI G) 20 fr), (ao, eI (gI G) 20 ov), (a3, eI (gI G) 20 tt)]) := by rw [hH, hlocs]; exact hV
  clear hH hlocs hV0
  refine lv_aload_n hx hb d_Rd_readInto_0 rfl (lv_at hl 0 rfl) ?_
  refine lv_iconst (v := 0) hx hb d_Rd_readInto_1 (by decide) ?_
  refine u_put hx hb hts inRd tyRd tyRd_ok nmRd hown hK hV hn 0 rfl rfl 2 (by decide) w_fl_Rd_19 rfl rfl rfl rfl (Nat.le_of_ble_eq_true rfl) d_Rd_readInto_2 (fun H locs hV hz9 => ?_)
  have hV : vS G.1 cls lo s H locs (vU V [(rd, eO 3 [.ref tp, .int (nI n), .int 0]), (tp, eI (gB G) 400 f), (tw, eO 5 [.ref ps, .ref bl, .ref sn, .ref tu]), (ps, eQ (gP G) 61 pf), (bl, eO 4 [.ref b1, .ref b2]), (b1, eI (gI G) 31 fb), (b2, eI (gI G) 31 fc), (sn, eO 4 [.ref s1, .ref s2]), (s1, eI (gI G) 31 fs), (s2, eI (gI G) 31 fd), (tu, eO 6 [.ref af, .ref ao, .ref a3, .int (nI L.length), .int (b2i of)]), (af, eI (gI G) 20 fr), (ao, eI (gI G) 20 ov), (a3, eI (gI G) 20 tt)]) := hV
  replace hz := hz9.trans hz
  refine lv_iconst (v := 1) hx hb d_Rd_readInto_5 (by decide) ?_
  refine lv_istore_n (lv' := [(2, .int 1), (0, .ref rd), (1, .ref tw)]) hx hb d_Rd_readInto_6 rfl hl (by decide) rfl (fun ls hl => ?_)
  refine lv_iconst (v := 0) hx hb d_Rd_readInto_7 (by decide) ?_
  refine lv_istore_n (lv' := [(3, .int 0), (2, .int 1), (0, .ref rd), (1, .ref tw)]) hx hb d_Rd_readInto_8 rfl hl (by decide) rfl (fun ls hl => ?_)
  have fin1 : ∀ (i q kz : Nat) (Vb : Vw) (pf : Nat → Option Nat) (fb fc fs fd fr ov tt : Nat → Int32) (L : List Tri) (of : Bool) (A1 : TnA), (i ≤ n) → (q ≤ n) → (∀ q, q < sz → Vb q = V q) → (sz ≤ kz) → (tnOk fr ov tt L) → (L.length ≤ 20) → (twA G Vb dy kz pf fb fc fs fd L of A1) → (txtR t n A = .inr A1) → ∀ (H : Heap) (locs : List Loc) (ls : Array Slot), H.size = kz → vS G.1 cls lo s H locs (vU Vb [(rd, eO 3 [.ref tp, .int (nI n), .int (nI q)]), (tp, eI (gB G) 400 f), (tw, eO 5 [.ref ps, .ref bl, .ref sn, .ref tu]), (ps, eQ (gP G) 61 pf), (bl, eO 4 [.ref b1, .ref b2]), (b1, eI (gI G) 31 fb), (b2, eI (gI G) 31 fc), (sn, eO 4 [.ref s1, .ref s2]), (s1, eI (gI G) 31 fs), (s2, eI (gI G) 31 fd), (tu, eO 6 [.ref af, .ref ao, .ref a3, .int (nI L.length), .int (b2i of)]), (af, eI (gI G) 20 fr), (ao, eI (gI G) 20 ov), (a3, eI (gI G) 20 tt)]) → lv_has ls 4 [(0, .ref rd), (1, .ref tw), (2, .int 1)] → W pg l ev ({ frames := 8, cells := 4 * n, slots := 24 * n, locals := 230 } : Room) s mi args below meth cd H locs (4 * i) (24 * i) (MQ below (vPost G lo (fun r V' k => r = some (.int (txI (txtR t n A))) ∧ ∃ (V9 : Vw) (pp : Nat) (pf2 : Nat → Option Nat) (fb2 fc2 fs2 fd2 fr2 ov2 tt2 : Nat → Int32) (L2 : List Tri) (of2 : Bool), V' = vU V9 [(rd, eO 3 [.ref tp, .int (nI 0), .int (nI pp)]), (tp, eI (gB G) 400 f), (tw, eO 5 [.ref ps, .ref bl, .ref sn, .ref tu]), (ps, eQ (gP G) 61 pf2), (bl, eO 4 [.ref b1, .ref b2]), (b1, eI (gI G) 31 fb2), (b2, eI (gI G) 31 fc2), (sn, eO 4 [.ref s1, .ref s2]), (s1, eI (gI G) 31 fs2), (s2, eI (gI G) 31 fd2), (tu, eO 6 [.ref af, .ref ao, .ref a3, .int (nI L2.length), .int (b2i of2)]), (af, eI (gI G) 20 fr2), (ao, eI (gI G) 20 ov2), (a3, eI (gI G) 20 tt2)] ∧ (∀ q, q < sz → V9 q = V q) ∧ sz ≤ k ∧ pp ≤ 400 ∧ tnOk fr2 ov2 tt2 L2 ∧ L2.length ≤ 20 ∧ ∀ A2, txtR t n A = .inr A2 → twA G V9 dy k pf2 fb2 fc2 fs2 fd2 L2 of2 A2)) args s (4 * n) (24 * n) (vL lo)) (F0 mi 57 ls []) := by
    intro i q kz Vb pf fb fc fs fd fr ov tt L of A1  hin hqn hB hkz hO hL hA hX H locs ls hz hV hl
    refine lv_aload_n hx hb d_Rd_readInto_57 rfl (lv_at hl 0 rfl) ?_
    refine lv_iconst (v := 0) hx hb d_Rd_readInto_58 (by decide) ?_
    refine u_put hx hb hts inRd tyRd tyRd_ok nmRd hown hK hV hn 0 rfl rfl 1 (by decide) w_fl_Rd_15 rfl rfl rfl rfl (Nat.le_of_ble_eq_true rfl) d_Rd_readInto_59 (fun H locs hV hz9 => ?_)
    have hV : vS G.1 cls lo s H locs (vU Vb [(rd, eO 3 [.ref tp, .int 0, .int (nI q)]), (tp, eI (gB G) 400 f), (tw, eO 5 [.ref ps, .ref bl, .ref sn, .ref tu]), (ps, eQ (gP G) 61 pf), (bl, eO 4 [.ref b1, .ref b2]), (b1, eI (gI G) 31 fb), (b2, eI (gI G) 31 fc), (sn, eO 4 [.ref s1, .ref s2]), (s1, eI (gI G) 31 fs), (s2, eI (gI G) 31 fd), (tu, eO 6 [.ref af, .ref ao, .ref a3, .int (nI L.length), .int (b2i of)]), (af, eI (gI G) 20 fr), (ao, eI (gI G) 20 ov), (a3, eI (gI G) 20 tt)]) := hV
    replace hz := hz9.trans hz
    refine lv_iload_n hx hb d_Rd_readInto_62 rfl (lv_at hl 2 rfl) ?_
    refine lv_if_eq (tgt := 70) hx hb d_Rd_readInto_63 (by decide) (fun c_1 => absurd c_1 (by decide)) (fun _ => ?_)
    refine lv_iconst (v := (-1)) hx hb d_Rd_readInto_66 (by decide) ?_
    refine lv_goto (tgt := 74) hx hb d_Rd_readInto_67 (by decide) ?_
    refine W.widen (k := 4 * n) (n := 24 * n) (by omega) (by omega) ?_
    exact W.iret (v := (-1)) hx hb hr (v_end hV ⟨by rw [hX]; rfl, Vb, q, pf, fb, fc, fs, fd, fr, ov, tt, L, of, rfl, hB, by rw [hz]; exact hkz, by omega, hO, hL, fun A2 hz9 => by rw [hX] at hz9; cases hz9; rw [hz]; exact hA⟩) hV.2.1.2.2 d_Rd_readInto_74
  have fin0 : ∀ (i q kz : Nat) (Vb : Vw) (pf : Nat → Option Nat) (fb fc fs fd fr ov tt : Nat → Int32) (L : List Tri) (of : Bool), (i ≤ n) → (q ≤ n) → (∀ q, q < sz → Vb q = V q) → (sz ≤ kz) → (tnOk fr ov tt L) → (L.length ≤ 20) → (txtR t n A = .inl q) → ∀ (H : Heap) (locs : List Loc) (ls : Array Slot), H.size = kz → vS G.1 cls lo s H locs (vU Vb [(rd, eO 3 [.ref tp, .int (nI n), .int (nI q)]), (tp, eI (gB G) 400 f), (tw, eO 5 [.ref ps, .ref bl, .ref sn, .ref tu]), (ps, eQ (gP G) 61 pf), (bl, eO 4 [.ref b1, .ref b2]), (b1, eI (gI G) 31 fb), (b2, eI (gI G) 31 fc), (sn, eO 4 [.ref s1, .ref s2]), (s1, eI (gI G) 31 fs), (s2, eI (gI G) 31 fd), (tu, eO 6 [.ref af, .ref ao, .ref a3, .int (nI L.length), .int (b2i of)]), (af, eI (gI G) 20 fr), (ao, eI (gI G) 20 ov), (a3, eI (gI G) 20 tt)]) → lv_has ls 4 [(0, .ref rd), (1, .ref tw), (2, .int 0)] → W pg l ev ({ frames := 8, cells := 4 * n, slots := 24 * n, locals := 230 } : Room) s mi args below meth cd H locs (4 * i) (24 * i) (MQ below (vPost G lo (fun r V' k => r = some (.int (txI (txtR t n A))) ∧ ∃ (V9 : Vw) (pp : Nat) (pf2 : Nat → Option Nat) (fb2 fc2 fs2 fd2 fr2 ov2 tt2 : Nat → Int32) (L2 : List Tri) (of2 : Bool), V' = vU V9 [(rd, eO 3 [.ref tp, .int (nI 0), .int (nI pp)]), (tp, eI (gB G) 400 f), (tw, eO 5 [.ref ps, .ref bl, .ref sn, .ref tu]), (ps, eQ (gP G) 61 pf2), (bl, eO 4 [.ref b1, .ref b2]), (b1, eI (gI G) 31 fb2), (b2, eI (gI G) 31 fc2), (sn, eO 4 [.ref s1, .ref s2]), (s1, eI (gI G) 31 fs2), (s2, eI (gI G) 31 fd2), (tu, eO 6 [.ref af, .ref ao, .ref a3, .int (nI L2.length), .int (b2i of2)]), (af, eI (gI G) 20 fr2), (ao, eI (gI G) 20 ov2), (a3, eI (gI G) 20 tt2)] ∧ (∀ q, q < sz → V9 q = V q) ∧ sz ≤ k ∧ pp ≤ 400 ∧ tnOk fr2 ov2 tt2 L2 ∧ L2.length ≤ 20 ∧ ∀ A2, txtR t n A = .inr A2 → twA G V9 dy k pf2 fb2 fc2 fs2 fd2 L2 of2 A2)) args s (4 * n) (24 * n) (vL lo)) (F0 mi 57 ls []) := by
    intro i q kz Vb pf fb fc fs fd fr ov tt L of  hin hqn hB hkz hO hL hX H locs ls hz hV hl
    refine lv_aload_n hx hb d_Rd_readInto_57 rfl (lv_at hl 0 rfl) ?_
    refine lv_iconst (v := 0) hx hb d_Rd_readInto_58 (by decide) ?_
    refine u_put hx hb hts inRd tyRd tyRd_ok nmRd hown hK hV hn 0 rfl rfl 1 (by decide) w_fl_Rd_15 rfl rfl rfl rfl (Nat.le_of_ble_eq_true rfl) d_Rd_readInto_59 (fun H locs hV hz9 => ?_)
    have hV : vS G.1 cls lo s H locs (vU Vb [(rd, eO 3 [.ref tp, .int 0, .int (nI q)]), (tp, eI (gB G) 400 f), (tw, eO 5 [.ref ps, .ref bl, .ref sn, .ref tu]), (ps, eQ (gP G) 61 pf), (bl, eO 4 [.ref b1, .ref b2]), (b1, eI (gI G) 31 fb), (b2, eI (gI G) 31 fc), (sn, eO 4 [.ref s1, .ref s2]), (s1, eI (gI G) 31 fs), (s2, eI (gI G) 31 fd), (tu, eO 6 [.ref af, .ref ao, .ref a3, .int (nI L.length), .int (b2i of)]), (af, eI (gI G) 20 fr), (ao, eI (gI G) 20 ov), (a3, eI (gI G) 20 tt)]) := hV
    replace hz := hz9.trans hz
    refine lv_iload_n hx hb d_Rd_readInto_62 rfl (lv_at hl 2 rfl) ?_
    refine lv_if_eq (tgt := 70) hx hb d_Rd_readInto_63 (by decide) (fun _ => ?_) (fun c_2 => absurd c_2 (by decide))
    refine lv_aload_n hx hb d_Rd_readInto_70 rfl (lv_at hl 0 rfl) ?_
    refine u_get hx hb hts inRd hown hK hV hn 0 rfl rfl 2 (by decide) w_fl_Rd_19 rfl rfl d_Rd_readInto_71 ?_
    refine W.widen (k := 4 * n) (n := 24 * n) (by omega) (by omega) ?_
    exact W.iret (v := nI q) hx hb hr (v_end hV ⟨by rw [hX]; rfl, Vb, q, pf, fb, fc, fs, fd, fr, ov, tt, L, of, rfl, hB, by rw [hz]; exact hkz, by omega, hO, hL, fun A2 hz9 => by rw [hX] at hz9; cases hz9⟩) hV.2.1.2.2 d_Rd_readInto_74
  have loop : ∀ (k : Nat) (i q kz : Nat) (Vb : Vw) (pf : Nat → Option Nat) (fb fc fs fd fr ov tt : Nat → Int32) (L : List Tri) (of : Bool) (A1 : TnA), n - i < k → (i ≤ n) → (q ≤ n) → (∀ q, q < sz → Vb q = V q) → (sz ≤ kz) → (tnOk fr ov tt L) → (L.length ≤ 20) → (i ≤ q) → (twA G Vb dy kz pf fb fc fs fd L of A1) → (rowsR t n (n + 1 - i) A1 q = txtR t n A) → ∀ (H : Heap) (locs : List Loc) (ls : Array Slot), H.size = kz → vS G.1 cls lo s H locs (vU Vb [(rd, eO 3 [.ref tp, .int (nI n), .int (nI q)]), (tp, eI (gB G) 400 f), (tw, eO 5 [.ref ps, .ref bl, .ref sn, .ref tu]), (ps, eQ (gP G) 61 pf), (bl, eO 4 [.ref b1, .ref b2]), (b1, eI (gI G) 31 fb), (b2, eI (gI G) 31 fc), (sn, eO 4 [.ref s1, .ref s2]), (s1, eI (gI G) 31 fs), (s2, eI (gI G) 31 fd), (tu, eO 6 [.ref af, .ref ao, .ref a3, .int (nI L.length), .int (b2i of)]), (af, eI (gI G) 20 fr), (ao, eI (gI G) 20 ov), (a3, eI (gI G) 20 tt)]) → lv_has ls 4 [(0, .ref rd), (1, .ref tw), (2, .int 1), (3, .int (nI i))] → W pg l ev ({ frames := 8, cells := 4 * n, slots := 24 * n, locals := 230 } : Room) s mi args below meth cd H locs (4 * i) (24 * i) (MQ below (vPost G lo (fun r V' k => r = some (.int (txI (txtR t n A))) ∧ ∃ (V9 : Vw) (pp : Nat) (pf2 : Nat → Option Nat) (fb2 fc2 fs2 fd2 fr2 ov2 tt2 : Nat → Int32) (L2 : List Tri) (of2 : Bool), V' = vU V9 [(rd, eO 3 [.ref tp, .int (nI 0), .int (nI pp)]), (tp, eI (gB G) 400 f), (tw, eO 5 [.ref ps, .ref bl, .ref sn, .ref tu]), (ps, eQ (gP G) 61 pf2), (bl, eO 4 [.ref b1, .ref b2]), (b1, eI (gI G) 31 fb2), (b2, eI (gI G) 31 fc2), (sn, eO 4 [.ref s1, .ref s2]), (s1, eI (gI G) 31 fs2), (s2, eI (gI G) 31 fd2), (tu, eO 6 [.ref af, .ref ao, .ref a3, .int (nI L2.length), .int (b2i of2)]), (af, eI (gI G) 20 fr2), (ao, eI (gI G) 20 ov2), (a3, eI (gI G) 20 tt2)] ∧ (∀ q, q < sz → V9 q = V q) ∧ sz ≤ k ∧ pp ≤ 400 ∧ tnOk fr2 ov2 tt2 L2 ∧ L2.length ≤ 20 ∧ ∀ A2, txtR t n A = .inr A2 → twA G V9 dy k pf2 fb2 fc2 fs2 fd2 L2 of2 A2)) args s (4 * n) (24 * n) (vL lo)) (F0 mi 9 ls []) := by
    intro k
    induction k with
    | zero => intro i q kz Vb pf fb fc fs fd fr ov tt L of A1 hk; exact absurd hk (by omega)
    | succ k ih =>
      intro i q kz Vb pf fb fc fs fd fr ov tt L of A1 hk hin hqn hB hkz hO hL hiq hA hX H locs ls hz hV hl
      refine lv_iload_n hx hb d_Rd_readInto_9 rfl (lv_at hl 3 rfl) ?_
      refine lv_sipush (v := 400) hx hb d_Rd_readInto_10 (by decide) ?_
      refine lv_icmp_ge (tgt := 57) hx hb d_Rd_readInto_13 (by decide) (fun c_3 => ?_) (fun c_3 => ?_)
      · replace c_3 : 400 ≤ i := (nI_leI (a := 400) (b := i) (by omega) (by omega)).mp c_3
        have hX9 : txtR t n A = .inr A1 := by rw [← hX]; exact rows_end (by have h9 := sk_ge t n q; omega)
        exact fin1 i q kz Vb pf fb fc fs fd fr ov tt L of A1 (by omega) (by omega) hB (by omega) hO hL hA hX9 H locs ls hz hV (lv_sub hl [0, 1, 2] rfl)
      · replace c_3 : ¬ 400 ≤ i := fun z9 => c_3 ((nI_leI (a := 400) (b := i) (by omega) (by omega)).mpr z9)
        refine lv_iload_n hx hb d_Rd_readInto_16 rfl (lv_at hl 2 rfl) ?_
        refine lv_if_eq (tgt := 57) hx hb d_Rd_readInto_17 (by decide) (fun c_4 => absurd c_4 (by decide)) (fun _ => ?_)
        refine lv_aload_n hx hb d_Rd_readInto_20 rfl (lv_at hl 0 rfl) ?_
        refine v_call (va_runV (As := []) (rest := []) ⟨hx, hb, hml, hown, hts⟩ (c_Rd_peek l G lo _ _ rd tp f t n q (nd_sub hn [0, 1] (by decide) rfl) hT h4 (by omega)) (kwV 0 hts w_co_Rd_peek rfl rfl w_it_Rd w_ml_Rd_22 w_im_Rd_peek w_se_Rd__Rd_peek (by decide +kernel) ⟨(Nat.le_of_ble_eq_true rfl), (Nat.le_of_ble_eq_true rfl)⟩) (u_preV hK hV hn [0, 1] rfl hz 0 rfl rfl) rfl rfl hl.1 rfl (lv_room (Nat.le_of_ble_eq_true rfl)) d_Rd_readInto_21 ⟨by show _ ≤ 4 * n; omega, by show _ ≤ 24 * n; omega⟩) hV (fun r9 V9 H locs hp hV hle => ?_)
        obtain ⟨rfl, rfl, hz⟩ := hp
        replace hV := u_back hV hn [0, 1] rfl
        have hV : vS G.1 cls lo s H locs (vU Vb [(rd, eO 3 [.ref tp, .int (nI n), .int (nI (sk t n q))]), (tp, eI (gB G) 400 f), (tw, eO 5 [.ref ps, .ref bl, .ref sn, .ref tu]), (ps, eQ (gP G) 61 pf), (bl, eO 4 [.ref b1, .ref b2]), (b1, eI (gI G) 31 fb), (b2, eI (gI G) 31 fc), (sn, eO 4 [.ref s1, .ref s2]), (s1, eI (gI G) 31 fs), (s2, eI (gI G) 31 fd), (tu, eO 6 [.ref af, .ref ao, .ref a3, .int (nI L.length), .int (b2i of)]), (af, eI (gI G) 20 fr), (ao, eI (gI G) 20 ov), (a3, eI (gI G) 20 tt)]) := hV
        obtain ⟨q_5, hq_5⟩ : ∃ z, sk t n q = z := ⟨_, rfl⟩
        rw [hq_5] at hV
        have bq_5 : q_5 ≤ n := by rw [← hq_5]; exact sk_le (by omega)
        have gq_5 : q ≤ q_5 := by rw [← hq_5]; exact sk_ge t n q
        rcases Nat.lt_or_ge q_5 n with lq_5 | lq_5
        · have kq_5 : t q_5 < 256 := (hT q_5 lq_5).1
          have hV : vS G.1 cls lo s H locs (vU Vb [(rd, eO 3 [.ref tp, .int (nI n), .int (nI q_5)]), (tp, eI (gB G) 400 f), (tw, eO 5 [.ref ps, .ref bl, .ref sn, .ref tu]), (ps, eQ (gP G) 61 pf), (bl, eO 4 [.ref b1, .ref b2]), (b1, eI (gI G) 31 fb), (b2, eI (gI G) 31 fc), (sn, eO 4 [.ref s1, .ref s2]), (s1, eI (gI G) 31 fs), (s2, eI (gI G) 31 fd), (tu, eO 6 [.ref af, .ref ao, .ref a3, .int (nI L.length), .int (b2i of)]), (af, eI (gI G) 20 fr), (ao, eI (gI G) 20 ov), (a3, eI (gI G) 20 tt)]) := hV
          refine W.eq (g2 := F0 mi 24 ls [.int (nI (t q_5))]) (by rw [hq_5, rK_in lq_5]; rfl) ?_
          refine lv_iconst (v := (-1)) hx hb d_Rd_readInto_24 (by decide) ?_
          refine lv_icmp_eq (tgt := 57) hx hb d_Rd_readInto_25 (by decide) (fun c_6 => absurd c_6 (nI_nem (by omega))) (fun _ => ?_)
          refine lv_aload_n hx hb d_Rd_readInto_28 rfl (lv_at hl 0 rfl) ?_
          refine lv_aload_n hx hb d_Rd_readInto_29 rfl (lv_at hl 1 rfl) ?_
          refine v_call (va_runV (As := [.ref tw]) (rest := []) ⟨hx, hb, hml, hown, hts⟩ (c_Rd_readRow l G lo _ _ rd tp f t n q_5 tw ps bl b1 b2 sn s1 s2 tu af ao a3 pf fb fc fs fd fr ov tt L of dy A1 hn (by omega) (twA_eff hA (by intro a ha; simp only [List.map_cons, List.map_nil, List.mem_cons, List.not_mem_nil, or_false] at ha; omega)) hO hL hT h4 (by omega)) (kwV 1 hts w_co_Rd_readRow rfl rfl w_it_Rd w_ml_Rd_26 w_im_Rd_readRow w_se_Rd__Rd_readRow (by decide +kernel) ⟨(Nat.le_of_ble_eq_true rfl), (Nat.le_of_ble_eq_true rfl)⟩) (u_preV hK hV hn [0, 1, 2, 3, 4, 5, 6, 7, 8, 9, 10, 11, 12, 13] rfl hz 0 rfl rfl) rfl rfl hl.1 rfl (lv_room (Nat.le_of_ble_eq_true rfl)) d_Rd_readInto_30 ⟨by show _ ≤ 4 * n; omega, by show _ ≤ 24 * n; omega⟩) hV (fun r9 V9 H locs hp hV hle => ?_)
          obtain ⟨rfl, V9, pf2, fb2, fc2, fs2, fd2, fr2, ov2, tt2, L2, of2, rfl, hV9, hk1, hk2, hO2, hL2, hA2⟩ := hp
          obtain ⟨V10, h10, h11, e10⟩ := vU_reb hV9 (by intro a ha; simp only [List.map_cons, List.map_nil, List.mem_cons, List.not_mem_nil, or_false] at ha; omega)
          rw [← e10] at hV
          replace hV := u_back hV hn [0, 1, 2, 3, 4, 5, 6, 7, 8, 9, 10, 11, 12, 13] rfl
          have hV : vS G.1 cls lo s H locs (vU V10 [(rd, eO 3 [.ref tp, .int (nI n), .int (nI (sR (rowR t n q_5)))]), (tp, eI (gB G) 400 f), (tw, eO 5 [.ref ps, .ref bl, .ref sn, .ref tu]), (ps, eQ (gP G) 61 pf2), (bl, eO 4 [.ref b1, .ref b2]), (b1, eI (gI G) 31 fb2), (b2, eI (gI G) 31 fc2), (sn, eO 4 [.ref s1, .ref s2]), (s1, eI (gI G) 31 fs2), (s2, eI (gI G) 31 fd2), (tu, eO 6 [.ref af, .ref ao, .ref a3, .int (nI L2.length), .int (b2i of2)]), (af, eI (gI G) 20 fr2), (ao, eI (gI G) 20 ov2), (a3, eI (gI G) 20 tt2)]) := hV
          obtain ⟨x_7, hx_7⟩ : ∃ z, rowR t n q_5 = z := ⟨_, rfl⟩
          rw [hx_7] at hV
          have okx_7 := rowR_ok (t := t) (n := n) (p := q_5) (by omega)
          rw [hx_7] at okx_7
          obtain ⟨k9, hz⟩ : ∃ k9, H.size = k9 := ⟨_, rfl⟩
          rw [hz] at hk1 hk2 hA2
          have hB9 : ∀ q, q < sz → V10 q = V q := fun q hq => by rw [h10 q (by omega)]; exact hB q hq
          rcases x_7 with e_7 | ⟨z_7, q_7⟩
          · have be_7 : e_7 ≤ n := okx_7
            have hV : vS G.1 cls lo s H locs (vU V10 [(rd, eO 3 [.ref tp, .int (nI n), .int (nI e_7)]), (tp, eI (gB G) 400 f), (tw, eO 5 [.ref ps, .ref bl, .ref sn, .ref tu]), (ps, eQ (gP G) 61 pf2), (bl, eO 4 [.ref b1, .ref b2]), (b1, eI (gI G) 31 fb2), (b2, eI (gI G) 31 fc2), (sn, eO 4 [.ref s1, .ref s2]), (s1, eI (gI G) 31 fs2), (s2, eI (gI G) 31 fd2), (tu, eO 6 [.ref af, .ref ao, .ref a3, .int (nI L2.length), .int (b2i of2)]), (af, eI (gI G) 20 fr2), (ao, eI (gI G) 20 ov2), (a3, eI (gI G) 20 tt2)]) := hV
            refine W.eq (g2 := F0 mi 33 ls [.int 0]) (by rw [hx_7]; rfl) ?_
            refine lv_if_eq (tgt := 49) hx hb d_Rd_readInto_33 (by decide) (fun _ => ?_) (fun c_8 => absurd c_8 (by decide))
            refine lv_iconst (v := 0) hx hb d_Rd_readInto_49 (by decide) ?_
            have hXe : txtR t n A = .inl e_7 := by rw [← hX]; exact rows_bad (by omega) hq_5 lq_5 hx_7
            refine lv_istore_n (lv' := [(2, .int 0), (0, .ref rd), (1, .ref tw), (3, .int (nI i))]) hx hb d_Rd_readInto_50 rfl hl (by decide) rfl (fun ls hl => ?_)
            refine lv_iinc (v := nI (i + 1)) (lv' := [(3, .int (nI (i + 1))), (2, .int 0), (0, .ref rd), (1, .ref tw)]) hx hb d_Rd_readInto_51 hl (k := 3) rfl (nI_add i 1) (by decide) rfl (fun ls hl => ?_)
            refine lv_goto (tgt := 9) hx hb d_Rd_readInto_54 (by decide) ?_
            refine lv_iload_n hx hb d_Rd_readInto_9 rfl (lv_at hl 0 rfl) ?_
            refine lv_sipush (v := 400) hx hb d_Rd_readInto_10 (by decide) ?_
            refine lv_icmp_ge (tgt := 57) hx hb d_Rd_readInto_13 (by decide) (fun c_9 => ?_) (fun c_9 => ?_)
            · replace c_9 : 400 ≤ i + 1 := (nI_leI (a := 400) (b := i + 1) (by omega) (by omega)).mp c_9
              refine W.cs (cells' := 4 * (i + 1)) (slots' := 24 * (i + 1)) (by omega) (by omega) ?_
              exact fin0 (i + 1) e_7 k9 V10 pf2 fb2 fc2 fs2 fd2 fr2 ov2 tt2 L2 of2 (by omega) (by omega) hB9 (by omega) hO2 hL2 hXe H locs ls hz hV (lv_sub hl [2, 3, 1] rfl)
            · replace c_9 : ¬ 400 ≤ i + 1 := fun z9 => c_9 ((nI_leI (a := 400) (b := i + 1) (by omega) (by omega)).mpr z9)
              refine lv_iload_n hx hb d_Rd_readInto_16 rfl (lv_at hl 1 rfl) ?_
              refine lv_if_eq (tgt := 57) hx hb d_Rd_readInto_17 (by decide) (fun _ => ?_) (fun c_10 => absurd c_10 (by decide))
              refine W.cs (cells' := 4 * (i + 1)) (slots' := 24 * (i + 1)) (by omega) (by omega) ?_
              exact fin0 (i + 1) e_7 k9 V10 pf2 fb2 fc2 fs2 fd2 fr2 ov2 tt2 L2 of2 (by omega) (by omega) hB9 (by omega) hO2 hL2 hXe H locs ls hz hV (lv_sub hl [2, 3, 1] rfl)
          · simp only [] at okx_7
            have hA3 := twA_reb (hA2 _ hx_7) (by intro a ha; simp only [List.map_cons, List.map_nil, List.mem_cons, List.not_mem_nil, or_false] at ha; omega) hV9 h10 h11
            have hV : vS G.1 cls lo s H locs (vU V10 [(rd, eO 3 [.ref tp, .int (nI n), .int (nI q_7)]), (tp, eI (gB G) 400 f), (tw, eO 5 [.ref ps, .ref bl, .ref sn, .ref tu]), (ps, eQ (gP G) 61 pf2), (bl, eO 4 [.ref b1, .ref b2]), (b1, eI (gI G) 31 fb2), (b2, eI (gI G) 31 fc2), (sn, eO 4 [.ref s1, .ref s2]), (s1, eI (gI G) 31 fs2), (s2, eI (gI G) 31 fd2), (tu, eO 6 [.ref af, .ref ao, .ref a3, .int (nI L2.length), .int (b2i of2)]), (af, eI (gI G) 20 fr2), (ao, eI (gI G) 20 ov2), (a3, eI (gI G) 20 tt2)]) := hV
            refine W.eq (g2 := F0 mi 33 ls [.int 1]) (by rw [hx_7]; rfl) ?_
            refine lv_if_eq (tgt := 49) hx hb d_Rd_readInto_33 (by decide) (fun c_11 => absurd c_11 (by decide)) (fun _ => ?_)
            refine lv_aload_n hx hb d_Rd_readInto_36 rfl (lv_at hl 0 rfl) ?_
            refine lv_bipush (v := 59) hx hb d_Rd_readInto_37 (by decide) ?_
            refine v_call (va_runV (As := [.int 59]) (rest := []) ⟨hx, hb, hml, hown, hts⟩ (c_Rd_take l G lo _ _ rd tp f t n q_7 (nd_sub hn [0, 1] (by decide) rfl) hT h4 (by omega) 59 (by decide)) (kwV 1 hts w_co_Rd_take rfl rfl w_it_Rd w_ml_Rd_30 w_im_Rd_take w_se_Rd__Rd_take (by decide +kernel) ⟨(Nat.le_of_ble_eq_true rfl), (Nat.le_of_ble_eq_true rfl)⟩) (u_preV hK hV hn [0, 1] rfl hz 0 rfl rfl) rfl rfl hl.1 rfl (lv_room (Nat.le_of_ble_eq_true rfl)) d_Rd_readInto_39 ⟨by show _ ≤ 4 * n; omega, by show _ ≤ 24 * n; omega⟩) hV (fun r9 V9 H locs hp hV hle => ?_)
            obtain ⟨rfl, rfl, hz⟩ := hp
            replace hV := u_back hV hn [0, 1] rfl
            have hV : vS G.1 cls lo s H locs (vU V10 [(rd, eO 3 [.ref tp, .int (nI n), .int (nI (rQ (tk t n 59 q_7)))]), (tp, eI (gB G) 400 f), (tw, eO 5 [.ref ps, .ref bl, .ref sn, .ref tu]), (ps, eQ (gP G) 61 pf2), (bl, eO 4 [.ref b1, .ref b2]), (b1, eI (gI G) 31 fb2), (b2, eI (gI G) 31 fc2), (sn, eO 4 [.ref s1, .ref s2]), (s1, eI (gI G) 31 fs2), (s2, eI (gI G) 31 fd2), (tu, eO 6 [.ref af, .ref ao, .ref a3, .int (nI L2.length), .int (b2i of2)]), (af, eI (gI G) 20 fr2), (ao, eI (gI G) 20 ov2), (a3, eI (gI G) 20 tt2)]) := hV
            obtain ⟨x_12, hx_12⟩ : ∃ z, tk t n 59 q_7 = z := ⟨_, rfl⟩
            rw [hx_12] at hV
            rcases x_12 with e_12 | q_12
            · have be_12 : e_12 ≤ n := tk_er hx_12 (by omega)
              have hV : vS G.1 cls lo s H locs (vU V10 [(rd, eO 3 [.ref tp, .int (nI n), .int (nI e_12)]), (tp, eI (gB G) 400 f), (tw, eO 5 [.ref ps, .ref bl, .ref sn, .ref tu]), (ps, eQ (gP G) 61 pf2), (bl, eO 4 [.ref b1, .ref b2]), (b1, eI (gI G) 31 fb2), (b2, eI (gI G) 31 fc2), (sn, eO 4 [.ref s1, .ref s2]), (s1, eI (gI G) 31 fs2), (s2, eI (gI G) 31 fd2), (tu, eO 6 [.ref af, .ref ao, .ref a3, .int (nI L2.length), .int (b2i of2)]), (af, eI (gI G) 20 fr2), (ao, eI (gI G) 20 ov2), (a3, eI (gI G) 20 tt2)]) := hV
              refine W.eq (g2 := F0 mi 42 ls [.int 0]) (by rw [hx_12]; rfl) ?_
              refine lv_if_eq (tgt := 49) hx hb d_Rd_readInto_42 (by decide) (fun _ => ?_) (fun c_13 => absurd c_13 (by decide))
              refine lv_iconst (v := 0) hx hb d_Rd_readInto_49 (by decide) ?_
              have hXe : txtR t n A = .inl e_12 := by rw [← hX]; exact rows_semi (by omega) hq_5 lq_5 hx_7 hx_12
              refine lv_istore_n (lv' := [(2, .int 0), (0, .ref rd), (1, .ref tw), (3, .int (nI i))]) hx hb d_Rd_readInto_50 rfl hl (by decide) rfl (fun ls hl => ?_)
              refine lv_iinc (v := nI (i + 1)) (lv' := [(3, .int (nI (i + 1))), (2, .int 0), (0, .ref rd), (1, .ref tw)]) hx hb d_Rd_readInto_51 hl (k := 3) rfl (nI_add i 1) (by decide) rfl (fun ls hl => ?_)
              refine lv_goto (tgt := 9) hx hb d_Rd_readInto_54 (by decide) ?_
              refine lv_iload_n hx hb d_Rd_readInto_9 rfl (lv_at hl 0 rfl) ?_
              refine lv_sipush (v := 400) hx hb d_Rd_readInto_10 (by decide) ?_
              refine lv_icmp_ge (tgt := 57) hx hb d_Rd_readInto_13 (by decide) (fun c_14 => ?_) (fun c_14 => ?_)
              · replace c_14 : 400 ≤ i + 1 := (nI_leI (a := 400) (b := i + 1) (by omega) (by omega)).mp c_14
                refine W.cs (cells' := 4 * (i + 1)) (slots' := 24 * (i + 1)) (by omega) (by omega) ?_
                exact fin0 (i + 1) e_12 k9 V10 pf2 fb2 fc2 fs2 fd2 fr2 ov2 tt2 L2 of2 (by omega) (by omega) hB9 (by omega) hO2 hL2 hXe H locs ls hz hV (lv_sub hl [2, 3, 1] rfl)
              · replace c_14 : ¬ 400 ≤ i + 1 := fun z9 => c_14 ((nI_leI (a := 400) (b := i + 1) (by omega) (by omega)).mpr z9)
                refine lv_iload_n hx hb d_Rd_readInto_16 rfl (lv_at hl 1 rfl) ?_
                refine lv_if_eq (tgt := 57) hx hb d_Rd_readInto_17 (by decide) (fun _ => ?_) (fun c_15 => absurd c_15 (by decide))
                refine W.cs (cells' := 4 * (i + 1)) (slots' := 24 * (i + 1)) (by omega) (by omega) ?_
                exact fin0 (i + 1) e_12 k9 V10 pf2 fb2 fc2 fs2 fd2 fr2 ov2 tt2 L2 of2 (by omega) (by omega) hB9 (by omega) hO2 hL2 hXe H locs ls hz hV (lv_sub hl [2, 3, 1] rfl)
            · obtain ⟨gq_12, bq_12⟩ := tk_ok hx_12
              have hV : vS G.1 cls lo s H locs (vU V10 [(rd, eO 3 [.ref tp, .int (nI n), .int (nI q_12)]), (tp, eI (gB G) 400 f), (tw, eO 5 [.ref ps, .ref bl, .ref sn, .ref tu]), (ps, eQ (gP G) 61 pf2), (bl, eO 4 [.ref b1, .ref b2]), (b1, eI (gI G) 31 fb2), (b2, eI (gI G) 31 fc2), (sn, eO 4 [.ref s1, .ref s2]), (s1, eI (gI G) 31 fs2), (s2, eI (gI G) 31 fd2), (tu, eO 6 [.ref af, .ref ao, .ref a3, .int (nI L2.length), .int (b2i of2)]), (af, eI (gI G) 20 fr2), (ao, eI (gI G) 20 ov2), (a3, eI (gI G) 20 tt2)]) := hV
              refine W.eq (g2 := F0 mi 42 ls [.int 1]) (by rw [hx_12]; rfl) ?_
              refine lv_if_eq (tgt := 49) hx hb d_Rd_readInto_42 (by decide) (fun c_16 => absurd c_16 (by decide)) (fun _ => ?_)
              refine lv_iconst (v := 1) hx hb d_Rd_readInto_45 (by decide) ?_
              refine lv_goto (tgt := 50) hx hb d_Rd_readInto_46 (by decide) ?_
              refine lv_istore_n (lv' := [(2, .int 1), (0, .ref rd), (1, .ref tw), (3, .int (nI i))]) hx hb d_Rd_readInto_50 rfl hl (by decide) rfl (fun ls hl => ?_)
              refine lv_iinc (v := nI (i + 1)) (lv' := [(3, .int (nI (i + 1))), (2, .int 1), (0, .ref rd), (1, .ref tw)]) hx hb d_Rd_readInto_51 hl (k := 3) rfl (nI_add i 1) (by decide) rfl (fun ls hl => ?_)
              refine lv_goto (tgt := 9) hx hb d_Rd_readInto_54 (by decide) ?_
              refine W.cs (cells' := 4 * (i + 1)) (slots' := 24 * (i + 1)) (by omega) (by omega) ?_
              exact ih (i + 1) q_12 k9 V10 pf2 fb2 fc2 fs2 fd2 fr2 ov2 tt2 L2 of2 (rowA A1 z_7) (by omega) (by omega) (by omega) hB9 (by omega) hO2 hL2 (by omega) hA3 (by rw [← hX, rows_go (by omega) hq_5 lq_5 hx_7 hx_12]; rfl) H locs ls hz hV (lv_sub hl [2, 3, 1, 0] rfl)
        · have hV : vS G.1 cls lo s H locs (vU Vb [(rd, eO 3 [.ref tp, .int (nI n), .int (nI q_5)]), (tp, eI (gB G) 400 f), (tw, eO 5 [.ref ps, .ref bl, .ref sn, .ref tu]), (ps, eQ (gP G) 61 pf), (bl, eO 4 [.ref b1, .ref b2]), (b1, eI (gI G) 31 fb), (b2, eI (gI G) 31 fc), (sn, eO 4 [.ref s1, .ref s2]), (s1, eI (gI G) 31 fs), (s2, eI (gI G) 31 fd), (tu, eO 6 [.ref af, .ref ao, .ref a3, .int (nI L.length), .int (b2i of)]), (af, eI (gI G) 20 fr), (ao, eI (gI G) 20 ov), (a3, eI (gI G) 20 tt)]) := hV
          refine W.eq (g2 := F0 mi 24 ls [.int ((-1))]) (by rw [hq_5, rK_out (by omega)]; rfl) ?_
          refine lv_iconst (v := (-1)) hx hb d_Rd_readInto_24 (by decide) ?_
          refine lv_icmp_eq (tgt := 57) hx hb d_Rd_readInto_25 (by decide) (fun _ => ?_) (fun c_17 => absurd c_17 (by decide))
          have hX9 : txtR t n A = .inr A1 := by rw [← hX]; exact rows_end (by rw [hq_5]; omega)
          exact fin1 i q_5 kz Vb pf fb fc fs fd fr ov tt L of A1 (by omega) (by omega) hB (by omega) hO hL hA hX9 H locs ls hz hV (lv_sub hl [0, 1, 2] rfl)
  exact loop (n + 1) 0 0 sz V pf fb fc fs fd fr ov tt L of A (by omega) (by omega) (by omega) (fun q hq => rfl) (by omega) hO hL (by omega) hA rfl H locs ls hz hV (lv_sub hl [2, 3, 1, 0] rfl)
