theorem vU_reb {V V9 : Vw} {CS : va_W} {sz : Nat} (h9 : ∀ q, q < sz → V9 q = vU V CS q) (hlt : ∀ a ∈ CS.map Prod.fst, a < sz) : ∃ V10 : Vw, (∀ q, q < sz → V10 q = V q) ∧ (∀ q, sz ≤ q → V10 q = V9 q) ∧ vU V10 CS = V9 := by
  refine ⟨fun q => if q < sz then V q else V9 q, fun q hq => if_pos hq, fun q hq => if_neg (by omega), ?_⟩
  funext q
  by_cases hq : q ∈ CS.map Prod.fst
  · rw [h9 q (hlt q hq)]
    clear h9 hlt
    induction CS with
    | nil => simp at hq
    | cons x CS ih =>
      show va_up (vU _ CS) x.1 (some x.2) q = va_up (vU V CS) x.1 (some x.2) q
      by_cases he : q = x.1
      · rw [he, vup_self, vup_self]
      · rw [vup_ne _ he, vup_ne _ he]
        exact ih (by simpa [he] using hq)
  · rw [vU_out _ CS q hq]
    by_cases hs : q < sz
    · rw [h9 q hs, vU_out V CS q hq]
      exact if_pos hs
    · exact if_neg hs
theorem tnE_len {L : List Tri} {of : Bool} (x : Sum Nat (Tri × Nat)) (h : L.length ≤ 20) : (tnE (L, of) x).1.length ≤ 20 := by
  cases x with
  | inl e => exact h
  | inr y => exact tnAdd_len h
theorem twA_gone {G : Gx} {V : Vw} {dy sz q : Nat} {pf : Nat → Option Nat} {fb fc fs fd : Nat → Int32} {L : List Tri} {of : Bool} {A : TnA} {z : Nat × Nat} (h : twA G V dy sz pf fb fc fs fd L of A) (hz : z.1 = 112 ∨ z.1 = 104 ∨ z.1 = 115) : twA G V dy sz (gnP pf (.inr (z, q))) (gnS 104 fb (.inr (z, q))) (gnS 104 fc (.inr (z, q))) (gnS 115 fs (.inr (z, q))) (gnS 115 fd (.inr (z, q))) L of (rowA A (.inr (.inr (.inr (.inr z))))) := by
  obtain ⟨h1, h2, h3, h4⟩ := h
  obtain ⟨a, b⟩ := z
  simp only [] at hz
  rcases hz with rfl | rfl | rfl
  · exact ⟨twB_gone h1, h2, h3, h4⟩
  · exact ⟨h1, spOk_gone h2, h3, h4⟩
  · exact ⟨h1, h2, spOk_gone h3, h4⟩

set_option maxHeartbeats 4000000 in
set_option maxRecDepth 100000 in
/-- Reader.readRow -/
theorem c_Rd_readRow (l : Launch) (G : Gx) (lo : Nat) (V : Vw) (sz : Nat) (rd tp : Nat) (f : Nat → Int32) (t : Nat → Nat) (n p : Nat) (tw ps bl b1 b2 sn s1 s2 tu af ao a3 : Nat) (pf : Nat → Option Nat) (fb fc fs fd fr ov tt : Nat → Int32) (L : List Tri) (of : Bool) (dy : Nat) (A : TnA) (hn : [rd, tp, tw, ps, bl, b1, b2, sn, s1, s2, tu, af, ao, a3].Nodup) (hdy : rd < dy ∧ tp < dy ∧ tw < dy ∧ ps < dy ∧ bl < dy ∧ b1 < dy ∧ b2 < dy ∧ sn < dy ∧ s1 < dy ∧ s2 < dy ∧ tu < dy ∧ af < dy ∧ ao < dy ∧ a3 < dy ∧ dy ≤ sz) (hA : twA G V dy sz pf fb fc fs fd L of A) (hO : tnOk fr ov tt L) (hL : L.length ≤ 20) (hT : tpOk f t n) (h4 : n ≤ 400) (hp : p ≤ n) : Met l y_Rd_readRow ws_Rd_readRow ({ frames := 7, cells := 4, slots := 24, locals := 200 } : Room) (vPre G lo [.ref rd, .ref tw] (vU V [(rd, eO 3 [.ref tp, .int (nI n), .int (nI p)]), (tp, eI (gB G) 400 f), (tw, eO 5 [.ref ps, .ref bl, .ref sn, .ref tu]), (ps, eQ (gP G) 61 pf), (bl, eO 4 [.ref b1, .ref b2]), (b1, eI (gI G) 31 fb), (b2, eI (gI G) 31 fc), (sn, eO 4 [.ref s1, .ref s2]), (s1, eI (gI G) 31 fs), (s2, eI (gI G) 31 fd), (tu, eO 6 [.ref af, .ref ao, .ref a3, .int (nI L.length), .int (b2i of)]), (af, eI (gI G) 20 fr), (ao, eI (gI G) 20 ov), (a3, eI (gI G) 20 tt)]) sz) (vPost G lo (fun r V' k => r = some (.int (rB (rowR t n p))) ∧ ∃ (V9 : Vw) (pf2 : Nat → Option Nat) (fb2 fc2 fs2 fd2 fr2 ov2 tt2 : Nat → Int32) (L2 : List Tri) (of2 : Bool), V' = vU V9 [(rd, eO 3 [.ref tp, .int (nI n), .int (nI (sR (rowR t n p)))]), (tp, eI (gB G) 400 f), (tw, eO 5 [.ref ps, .ref bl, .ref sn, .ref tu]), (ps, eQ (gP G) 61 pf2), (bl, eO 4 [.ref b1, .ref b2]), (b1, eI (gI G) 31 fb2), (b2, eI (gI G) 31 fc2), (sn, eO 4 [.ref s1, .ref s2]), (s1, eI (gI G) 31 fs2), (s2, eI (gI G) 31 fd2), (tu, eO 6 [.ref af, .ref ao, .ref a3, .int (nI L2.length), .int (b2i of2)]), (af, eI (gI G) 20 fr2), (ao, eI (gI G) 20 ov2), (a3, eI (gI G) 20 tt2)] ∧ (∀ q, q < sz → V9 q = V q) ∧ sz ≤ k ∧ k ≤ sz + 4 ∧ tnOk fr2 ov2 tt2 L2 ∧ L2.length ≤ 20 ∧ ∀ z, rowR t n p = .inr z → twA G V9 dy k pf2 fb2 fc2 fs2 fd2 L2 of2 (rowA A z.1))) 4 24 (vL lo) := by
  refine vMet (R := RRd) (by decide) rfl (Nat.le_of_ble_eq_true rfl) ?_
  intro pg ev s mi args below meth cd hx hb hr hml hlk hnm hts hown hK hz hV ls hl
  have hl : lv_has ls 2 [(0, .ref rd), (1, .ref tw)] := hl
  have hV0 := hV
  obtain ⟨H, hH⟩ : ∃ H, H = s.heap := ⟨_, rfl⟩
  obtain ⟨locs, hlocs⟩ : ∃ locs : List Loc, locs = [] := ⟨_, rfl⟩
  rw [← hH, ← hlocs]
  rw [← hH] at hz
  replace hV : vS G.1 cls lo s H locs (vU V [(rd, eO 3 [.ref tp, .int (nI n), .int (nI p)]), (tp, eI (gB G) 400 f), (tw, eO 5 [.ref ps, .ref bl, .ref sn, .ref tu]), (ps, eQ (gP G) 61 pf), (bl, eO 4 [.ref b1, .ref b2]), (b1, eI (gI G) 31 fb), (b2, eI (gI G) 31 fc), (sn, eO 4 [.ref s1, .ref s2]), (s1, eI (gI G) 31 fs), (s2, eI (gI G) 31 fd), (tu, eO 6 [.ref af, .ref ao, .ref a3, .int (nI L.length), .int (b2i of)]), (af, eI (gI G) 20 fr), (ao, eI (gI G) 20 ov), (a3, eI (gI G) 20 tt)]) := by rw [hH, hlocs]; exact hV
  clear hH hlocs hV0
  refine lv_aload_n hx hb d_Rd_readRow_0 rfl (lv_at hl 0 rfl) ?_
  refine v_call (va_runV (As := []) (rest := []) ⟨hx, hb, hml, hown, hts⟩ (c_Rd_peek l G lo _ _ rd tp f t n p (nd_sub hn [0, 1] (by decide) rfl) hT h4 (by omega)) (kwV 0 hts w_co_Rd_peek rfl rfl w_it_Rd w_ml_Rd_22 w_im_Rd_peek w_se_Rd__Rd_peek (by decide +kernel) ⟨by decide, by decide⟩) (u_preV hK hV hn [0, 1] rfl hz 0 rfl rfl) rfl rfl hl.1 rfl (lv_room (Nat.le_of_ble_eq_true rfl)) d_Rd_readRow_1 ⟨(Nat.le_of_ble_eq_true rfl), (Nat.le_of_ble_eq_true rfl)⟩) hV (fun r9 V9 H locs hp hV hle => ?_)
  obtain ⟨rfl, rfl, hz⟩ := hp
  replace hV := u_back hV hn [0, 1] rfl
  have hV : vS G.1 cls lo s H locs (vU V [(rd, eO 3 [.ref tp, .int (nI n), .int (nI (sk t n p))]), (tp, eI (gB G) 400 f), (tw, eO 5 [.ref ps, .ref bl, .ref sn, .ref tu]), (ps, eQ (gP G) 61 pf), (bl, eO 4 [.ref b1, .ref b2]), (b1, eI (gI G) 31 fb), (b2, eI (gI G) 31 fc), (sn, eO 4 [.ref s1, .ref s2]), (s1, eI (gI G) 31 fs), (s2, eI (gI G) 31 fd), (tu, eO 6 [.ref af, .ref ao, .ref a3, .int (nI L.length), .int (b2i of)]), (af, eI (gI G) 20 fr), (ao, eI (gI G) 20 ov), (a3, eI (gI G) 20 tt)]) := hV
  obtain ⟨q_1, hq_1⟩ : ∃ z, sk t n p = z := ⟨_, rfl⟩
  rw [hq_1] at hV
  have bq_1 : q_1 ≤ n := by rw [← hq_1]; exact sk_le (by omega)
  have gq_1 : p ≤ q_1 := by rw [← hq_1]; exact sk_ge t n p
  rcases Nat.lt_or_ge q_1 n with lq_1 | lq_1
  · have kq_1 : t q_1 < 256 := (hT q_1 lq_1).1
    have hV : vS G.1 cls lo s H locs (vU V [(rd, eO 3 [.ref tp, .int (nI n), .int (nI q_1)]), (tp, eI (gB G) 400 f), (tw, eO 5 [.ref ps, .ref bl, .ref sn, .ref tu]), (ps, eQ (gP G) 61 pf), (bl, eO 4 [.ref b1, .ref b2]), (b1, eI (gI G) 31 fb), (b2, eI (gI G) 31 fc), (sn, eO 4 [.ref s1, .ref s2]), (s1, eI (gI G) 31 fs), (s2, eI (gI G) 31 fd), (tu, eO 6 [.ref af, .ref ao, .ref a3, .int (nI L.length), .int (b2i of)]), (af, eI (gI G) 20 fr), (ao, eI (gI G) 20 ov), (a3, eI (gI G) 20 tt)]) := hV
    refine W.eq (g2 := F0 mi 4 ls [.int (nI (t q_1))]) (by rw [hq_1, rK_in lq_1]; rfl) ?_
    by_cases k_2 : t q_1 = 103
    · refine lv_lookup (off := 125) (tgt := 129) hx hb d_Rd_readRow_4 (by decide) (by rw [nI_toInt (by omega), k_2]; decide) (by decide) ?_
      refine lv_aload_n hx hb d_Rd_readRow_129 rfl (lv_at hl 0 rfl) ?_
      refine lv_dup hx hb d_Rd_readRow_130 rfl ?_
      refine u_get hx hb hts inRd hown hK hV hn 0 rfl rfl 2 (by decide) w_fl_Rd_19 rfl rfl d_Rd_readRow_131 ?_
      refine lv_iconst (v := 1) hx hb d_Rd_readRow_134 (by decide) ?_
      refine e_iadd (v := nI (q_1 + 1)) hx hb d_Rd_readRow_135 (nI_add q_1 1) ?_
      refine u_put hx hb hts inRd tyRd tyRd_ok nmRd hown hK hV hn 0 rfl rfl 2 (by decide) w_fl_Rd_19 rfl rfl rfl rfl (Nat.le_of_ble_eq_true rfl) d_Rd_readRow_136 (fun H locs hV hz9 => ?_)
      have hV : vS G.1 cls lo s H locs (vU V [(rd, eO 3 [.ref tp, .int (nI n), .int (nI (q_1 + 1))]), (tp, eI (gB G) 400 f), (tw, eO 5 [.ref ps, .ref bl, .ref sn, .ref tu]), (ps, eQ (gP G) 61 pf), (bl, eO 4 [.ref b1, .ref b2]), (b1, eI (gI G) 31 fb), (b2, eI (gI G) 31 fc), (sn, eO 4 [.ref s1, .ref s2]), (s1, eI (gI G) 31 fs), (s2, eI (gI G) 31 fd), (tu, eO 6 [.ref af, .ref ao, .ref a3, .int (nI L.length), .int (b2i of)]), (af, eI (gI G) 20 fr), (ao, eI (gI G) 20 ov), (a3, eI (gI G) 20 tt)]) := hV
      replace hz := hz9.trans hz
      refine lv_aload_n hx hb d_Rd_readRow_139 rfl (lv_at hl 0 rfl) ?_
      refine lv_aload_n hx hb d_Rd_readRow_140 rfl (lv_at hl 1 rfl) ?_
      refine v_call (va_runV (As := [.ref tw]) (rest := []) ⟨hx, hb, hml, hown, hts⟩ (c_Rd_readGone l G lo _ _ rd tp f t n (q_1 + 1) tw ps bl b1 b2 sn s1 s2 tu pf fb fc fs fd (nd_sub hn [0, 1, 2, 3, 4, 5, 6, 7, 8, 9] (by decide) rfl) hT h4 (by omega)) (kwV 1 hts w_co_Rd_readGone rfl rfl w_it_Rd w_ml_Rd_58 w_im_Rd_readGone w_se_Rd__Rd_readGone (by decide +kernel) ⟨by decide, by decide⟩) (u_preV hK hV hn [0, 1, 2, 3, 4, 5, 6, 7, 8, 9] rfl hz 0 rfl rfl) rfl rfl hl.1 rfl (lv_room (Nat.le_of_ble_eq_true rfl)) d_Rd_readRow_141 ⟨(Nat.le_of_ble_eq_true rfl), (Nat.le_of_ble_eq_true rfl)⟩) hV (fun r9 V9 H locs hp hV hle => ?_)
      obtain ⟨rfl, rfl, hz⟩ := hp
      replace hV := u_back hV hn [0, 1, 2, 3, 4, 5, 6, 7, 8, 9] rfl
      have hV : vS G.1 cls lo s H locs (vU V [(rd, eO 3 [.ref tp, .int (nI n), .int (nI (sR (goneR t n (q_1 + 1))))]), (tp, eI (gB G) 400 f), (tw, eO 5 [.ref ps, .ref bl, .ref sn, .ref tu]), (ps, eQ (gP G) 61 (gnP pf (goneR t n (q_1 + 1)))), (bl, eO 4 [.ref b1, .ref b2]), (b1, eI (gI G) 31 (gnS 104 fb (goneR t n (q_1 + 1)))), (b2, eI (gI G) 31 (gnS 104 fc (goneR t n (q_1 + 1)))), (sn, eO 4 [.ref s1, .ref s2]), (s1, eI (gI G) 31 (gnS 115 fs (goneR t n (q_1 + 1)))), (s2, eI (gI G) 31 (gnS 115 fd (goneR t n (q_1 + 1)))), (tu, eO 6 [.ref af, .ref ao, .ref a3, .int (nI L.length), .int (b2i of)]), (af, eI (gI G) 20 fr), (ao, eI (gI G) 20 ov), (a3, eI (gI G) 20 tt)]) := hV
      obtain ⟨x_3, hx_3⟩ : ∃ z, goneR t n (q_1 + 1) = z := ⟨_, rfl⟩
      rw [hx_3] at hV
      have okx_3 := goneR_ok (t := t) (n := n) (p := (q_1 + 1)) (by omega)
      rw [hx_3] at okx_3
      rcases x_3 with e_3 | ⟨z_3, q_3⟩
      · have hV : vS G.1 cls lo s H locs (vU V [(rd, eO 3 [.ref tp, .int (nI n), .int (nI e_3)]), (tp, eI (gB G) 400 f), (tw, eO 5 [.ref ps, .ref bl, .ref sn, .ref tu]), (ps, eQ (gP G) 61 pf), (bl, eO 4 [.ref b1, .ref b2]), (b1, eI (gI G) 31 fb), (b2, eI (gI G) 31 fc), (sn, eO 4 [.ref s1, .ref s2]), (s1, eI (gI G) 31 fs), (s2, eI (gI G) 31 fd), (tu, eO 6 [.ref af, .ref ao, .ref a3, .int (nI L.length), .int (b2i of)]), (af, eI (gI G) 20 fr), (ao, eI (gI G) 20 ov), (a3, eI (gI G) 20 tt)]) := hV
        refine W.eq (g2 := F0 mi 144 ls [.int 0]) (by rw [hx_3]; rfl) ?_
        have hE : rowR t n p = .inl e_3 := by simp [rowR, sbd_l, sbd_r, hq_1, hx_3, lq_1, k_2]
        refine W.widen (k := 4) (n := 24) (by omega) (by omega) ?_
        exact W.zret (v := 0) hx hb hr (by decide) (v_end hV ⟨by rw [hE]; rfl, V, pf, fb, fc, fs, fd, fr, ov, tt, L, of, by rw [hE]; rfl, fun q hq => rfl, by omega, by omega, hO, hL, fun z hz9 => by rw [hE] at hz9; cases hz9⟩) hV.2.1.2.2 d_Rd_readRow_144
      · simp only [] at okx_3
        have hV : vS G.1 cls lo s H locs (vU V [(rd, eO 3 [.ref tp, .int (nI n), .int (nI q_3)]), (tp, eI (gB G) 400 f), (tw, eO 5 [.ref ps, .ref bl, .ref sn, .ref tu]), (ps, eQ (gP G) 61 (gnP pf (.inr (z_3, q_3)))), (bl, eO 4 [.ref b1, .ref b2]), (b1, eI (gI G) 31 (gnS 104 fb (.inr (z_3, q_3)))), (b2, eI (gI G) 31 (gnS 104 fc (.inr (z_3, q_3)))), (sn, eO 4 [.ref s1, .ref s2]), (s1, eI (gI G) 31 (gnS 115 fs (.inr (z_3, q_3)))), (s2, eI (gI G) 31 (gnS 115 fd (.inr (z_3, q_3)))), (tu, eO 6 [.ref af, .ref ao, .ref a3, .int (nI L.length), .int (b2i of)]), (af, eI (gI G) 20 fr), (ao, eI (gI G) 20 ov), (a3, eI (gI G) 20 tt)]) := hV
        refine W.eq (g2 := F0 mi 144 ls [.int 1]) (by rw [hx_3]; rfl) ?_
        have hE : rowR t n p = .inr (.inr (.inr (.inr (.inr z_3))), q_3) := by simp [rowR, sbd_l, sbd_r, hq_1, hx_3, lq_1, k_2]
        refine W.widen (k := 4) (n := 24) (by omega) (by omega) ?_
        exact W.zret (v := 1) hx hb hr (by decide) (v_end hV ⟨by rw [hE]; rfl, V, gnP pf (.inr (z_3, q_3)), gnS 104 fb (.inr (z_3, q_3)), gnS 104 fc (.inr (z_3, q_3)), gnS 115 fs (.inr (z_3, q_3)), gnS 115 fd (.inr (z_3, q_3)), fr, ov, tt, L, of, by rw [hE]; rfl, fun q hq => rfl, by omega, by omega, hO, hL, fun z hz9 => by rw [hE] at hz9; cases hz9; rw [hz]; exact twA_gone hA okx_3.2.2.1⟩) hV.2.1.2.2 d_Rd_readRow_144
    · by_cases k_4 : t q_1 = 104
      · refine lv_lookup (off := 87) (tgt := 91) hx hb d_Rd_readRow_4 (by decide) (by rw [nI_toInt (by omega), k_4]; decide) (by decide) ?_
        refine lv_aload_n hx hb d_Rd_readRow_91 rfl (lv_at hl 0 rfl) ?_
        refine lv_dup hx hb d_Rd_readRow_92 rfl ?_
        refine u_get hx hb hts inRd hown hK hV hn 0 rfl rfl 2 (by decide) w_fl_Rd_19 rfl rfl d_Rd_readRow_93 ?_
        refine lv_iconst (v := 1) hx hb d_Rd_readRow_96 (by decide) ?_
        refine e_iadd (v := nI (q_1 + 1)) hx hb d_Rd_readRow_97 (nI_add q_1 1) ?_
        refine u_put hx hb hts inRd tyRd tyRd_ok nmRd hown hK hV hn 0 rfl rfl 2 (by decide) w_fl_Rd_19 rfl rfl rfl rfl (Nat.le_of_ble_eq_true rfl) d_Rd_readRow_98 (fun H locs hV hz9 => ?_)
        have hV : vS G.1 cls lo s H locs (vU V [(rd, eO 3 [.ref tp, .int (nI n), .int (nI (q_1 + 1))]), (tp, eI (gB G) 400 f), (tw, eO 5 [.ref ps, .ref bl, .ref sn, .ref tu]), (ps, eQ (gP G) 61 pf), (bl, eO 4 [.ref b1, .ref b2]), (b1, eI (gI G) 31 fb), (b2, eI (gI G) 31 fc), (sn, eO 4 [.ref s1, .ref s2]), (s1, eI (gI G) 31 fs), (s2, eI (gI G) 31 fd), (tu, eO 6 [.ref af, .ref ao, .ref a3, .int (nI L.length), .int (b2i of)]), (af, eI (gI G) 20 fr), (ao, eI (gI G) 20 ov), (a3, eI (gI G) 20 tt)]) := hV
        replace hz := hz9.trans hz
        refine lv_aload_n hx hb d_Rd_readRow_101 rfl (lv_at hl 0 rfl) ?_
        refine lv_aload_n hx hb d_Rd_readRow_102 rfl (lv_at hl 1 rfl) ?_
        refine u_get hx hb hts inTw hown hK hV hn 2 rfl rfl 1 (by decide) w_fl_Rd_47 rfl rfl d_Rd_readRow_103 ?_
        refine v_call (va_runV (As := [.ref bl]) (rest := []) ⟨hx, hb, hml, hown, hts⟩ (c_Rd_readSpot l G lo _ _ rd tp f t n (q_1 + 1) bl b1 b2 fb fc (nd_sub hn [0, 1, 4, 5, 6] (by decide) rfl) hT h4 (by omega)) (kwV 1 hts w_co_Rd_readSpot rfl rfl w_it_Rd w_ml_Rd_51 w_im_Rd_readSpot w_se_Rd__Rd_readSpot (by decide +kernel) ⟨by decide, by decide⟩) (u_preV hK hV hn [0, 1, 4, 5, 6] rfl hz 0 rfl rfl) rfl rfl hl.1 rfl (lv_room (Nat.le_of_ble_eq_true rfl)) d_Rd_readRow_106 ⟨(Nat.le_of_ble_eq_true rfl), (Nat.le_of_ble_eq_true rfl)⟩) hV (fun r9 V9 H locs hp hV hle => ?_)
        obtain ⟨rfl, rfl, hz⟩ := hp
        replace hV := u_back hV hn [0, 1, 4, 5, 6] rfl
        have hV : vS G.1 cls lo s H locs (vU V [(rd, eO 3 [.ref tp, .int (nI n), .int (nI (sR (spotR t n (q_1 + 1))))]), (tp, eI (gB G) 400 f), (tw, eO 5 [.ref ps, .ref bl, .ref sn, .ref tu]), (ps, eQ (gP G) 61 pf), (bl, eO 4 [.ref b1, .ref b2]), (b1, eI (gI G) 31 ((spE (fb, fc) (spotR t n (q_1 + 1))).1)), (b2, eI (gI G) 31 ((spE (fb, fc) (spotR t n (q_1 + 1))).2)), (sn, eO 4 [.ref s1, .ref s2]), (s1, eI (gI G) 31 fs), (s2, eI (gI G) 31 fd), (tu, eO 6 [.ref af, .ref ao, .ref a3, .int (nI L.length), .int (b2i of)]), (af, eI (gI G) 20 fr), (ao, eI (gI G) 20 ov), (a3, eI (gI G) 20 tt)]) := hV
        obtain ⟨x_5, hx_5⟩ : ∃ z, spotR t n (q_1 + 1) = z := ⟨_, rfl⟩
        rw [hx_5] at hV
        have okx_5 := spotR_ok (t := t) (n := n) (p := (q_1 + 1)) (by omega)
        rw [hx_5] at okx_5
        rcases x_5 with e_5 | ⟨z_5, q_5⟩
        · have hV : vS G.1 cls lo s H locs (vU V [(rd, eO 3 [.ref tp, .int (nI n), .int (nI e_5)]), (tp, eI (gB G) 400 f), (tw, eO 5 [.ref ps, .ref bl, .ref sn, .ref tu]), (ps, eQ (gP G) 61 pf), (bl, eO 4 [.ref b1, .ref b2]), (b1, eI (gI G) 31 fb), (b2, eI (gI G) 31 fc), (sn, eO 4 [.ref s1, .ref s2]), (s1, eI (gI G) 31 fs), (s2, eI (gI G) 31 fd), (tu, eO 6 [.ref af, .ref ao, .ref a3, .int (nI L.length), .int (b2i of)]), (af, eI (gI G) 20 fr), (ao, eI (gI G) 20 ov), (a3, eI (gI G) 20 tt)]) := hV
          refine W.eq (g2 := F0 mi 109 ls [.int 0]) (by rw [hx_5]; rfl) ?_
          have hE : rowR t n p = .inl e_5 := by simp [rowR, sbd_l, sbd_r, hq_1, hx_5, lq_1, k_2, k_4]
          refine W.widen (k := 4) (n := 24) (by omega) (by omega) ?_
          exact W.zret (v := 0) hx hb hr (by decide) (v_end hV ⟨by rw [hE]; rfl, V, pf, fb, fc, fs, fd, fr, ov, tt, L, of, by rw [hE]; rfl, fun q hq => rfl, by omega, by omega, hO, hL, fun z hz9 => by rw [hE] at hz9; cases hz9⟩) hV.2.1.2.2 d_Rd_readRow_109
        · simp only [] at okx_5
          have hV : vS G.1 cls lo s H locs (vU V [(rd, eO 3 [.ref tp, .int (nI n), .int (nI q_5)]), (tp, eI (gB G) 400 f), (tw, eO 5 [.ref ps, .ref bl, .ref sn, .ref tu]), (ps, eQ (gP G) 61 pf), (bl, eO 4 [.ref b1, .ref b2]), (b1, eI (gI G) 31 (upd fb z_5.1 (nI z_5.2.1))), (b2, eI (gI G) 31 (upd fc z_5.1 (nI z_5.2.2))), (sn, eO 4 [.ref s1, .ref s2]), (s1, eI (gI G) 31 fs), (s2, eI (gI G) 31 fd), (tu, eO 6 [.ref af, .ref ao, .ref a3, .int (nI L.length), .int (b2i of)]), (af, eI (gI G) 20 fr), (ao, eI (gI G) 20 ov), (a3, eI (gI G) 20 tt)]) := hV
          refine W.eq (g2 := F0 mi 109 ls [.int 1]) (by rw [hx_5]; rfl) ?_
          have hE : rowR t n p = .inr (.inr (.inr (.inl z_5)), q_5) := by simp [rowR, sbd_l, sbd_r, hq_1, hx_5, lq_1, k_2, k_4]
          refine W.widen (k := 4) (n := 24) (by omega) (by omega) ?_
          exact W.zret (v := 1) hx hb hr (by decide) (v_end hV ⟨by rw [hE]; rfl, V, pf, upd fb z_5.1 (nI z_5.2.1), upd fc z_5.1 (nI z_5.2.2), fs, fd, fr, ov, tt, L, of, by rw [hE]; rfl, fun q hq => rfl, by omega, by omega, hO, hL, fun z hz9 => by rw [hE] at hz9; cases hz9; exact ⟨by rw [hz]; exact hA.1, spOk_put hA.2.1 (by omega) (by omega) (by omega), hA.2.2⟩⟩) hV.2.1.2.2 d_Rd_readRow_109
      · by_cases k_6 : t q_1 = 112
        · refine lv_lookup (off := 52) (tgt := 56) hx hb d_Rd_readRow_4 (by decide) (by rw [nI_toInt (by omega), k_6]; decide) (by decide) ?_
          refine lv_aload_n hx hb d_Rd_readRow_56 rfl (lv_at hl 0 rfl) ?_
          refine lv_dup hx hb d_Rd_readRow_57 rfl ?_
          refine u_get hx hb hts inRd hown hK hV hn 0 rfl rfl 2 (by decide) w_fl_Rd_19 rfl rfl d_Rd_readRow_58 ?_
          refine lv_iconst (v := 1) hx hb d_Rd_readRow_61 (by decide) ?_
          refine e_iadd (v := nI (q_1 + 1)) hx hb d_Rd_readRow_62 (nI_add q_1 1) ?_
          refine u_put hx hb hts inRd tyRd tyRd_ok nmRd hown hK hV hn 0 rfl rfl 2 (by decide) w_fl_Rd_19 rfl rfl rfl rfl (Nat.le_of_ble_eq_true rfl) d_Rd_readRow_63 (fun H locs hV hz9 => ?_)
          have hV : vS G.1 cls lo s H locs (vU V [(rd, eO 3 [.ref tp, .int (nI n), .int (nI (q_1 + 1))]), (tp, eI (gB G) 400 f), (tw, eO 5 [.ref ps, .ref bl, .ref sn, .ref tu]), (ps, eQ (gP G) 61 pf), (bl, eO 4 [.ref b1, .ref b2]), (b1, eI (gI G) 31 fb), (b2, eI (gI G) 31 fc), (sn, eO 4 [.ref s1, .ref s2]), (s1, eI (gI G) 31 fs), (s2, eI (gI G) 31 fd), (tu, eO 6 [.ref af, .ref ao, .ref a3, .int (nI L.length), .int (b2i of)]), (af, eI (gI G) 20 fr), (ao, eI (gI G) 20 ov), (a3, eI (gI G) 20 tt)]) := hV
          replace hz := hz9.trans hz
          refine lv_aload_n hx hb d_Rd_readRow_66 rfl (lv_at hl 0 rfl) ?_
          refine lv_aload_n hx hb d_Rd_readRow_67 rfl (lv_at hl 1 rfl) ?_
          refine v_call (va_runV (As := [.ref tw]) (rest := []) ⟨hx, hb, hml, hown, hts⟩ (c_Rd_readPiece l G lo _ _ rd tp f t n (q_1 + 1) tw ps bl sn tu pf (nd_sub hn [0, 1, 2, 3] (by decide) rfl) (by omega) hT h4 (by omega)) (kwV 1 hts w_co_Rd_readPiece rfl rfl w_it_Rd w_ml_Rd_34 w_im_Rd_readPiece w_se_Rd__Rd_readPiece (by decide +kernel) ⟨by decide, by decide⟩) (u_preV hK hV hn [0, 1, 2, 3] rfl hz 0 rfl rfl) rfl rfl hl.1 rfl (lv_room (Nat.le_of_ble_eq_true rfl)) d_Rd_readRow_68 ⟨(Nat.le_of_ble_eq_true rfl), (Nat.le_of_ble_eq_true rfl)⟩) hV (fun r9 V9 H locs hp hV hle => ?_)
          obtain ⟨rfl, V9, rfl, hV9, hk1, hk2, hpc⟩ := hp
          obtain ⟨V10, h10, h11, e10⟩ := vU_reb hV9 (by intro a ha; simp only [List.map_cons, List.map_nil, List.mem_cons, List.not_mem_nil, or_false] at ha; omega)
          rw [← e10] at hV
          replace hV := u_back hV hn [0, 1, 2, 3] rfl
          have hV : vS G.1 cls lo s H locs (vU V10 [(rd, eO 3 [.ref tp, .int (nI n), .int (nI (sR (pieceR t n (q_1 + 1))))]), (tp, eI (gB G) 400 f), (tw, eO 5 [.ref ps, .ref bl, .ref sn, .ref tu]), (ps, eQ (gP G) 61 (pcP pf sz (pieceR t n (q_1 + 1)))), (bl, eO 4 [.ref b1, .ref b2]), (b1, eI (gI G) 31 fb), (b2, eI (gI G) 31 fc), (sn, eO 4 [.ref s1, .ref s2]), (s1, eI (gI G) 31 fs), (s2, eI (gI G) 31 fd), (tu, eO 6 [.ref af, .ref ao, .ref a3, .int (nI L.length), .int (b2i of)]), (af, eI (gI G) 20 fr), (ao, eI (gI G) 20 ov), (a3, eI (gI G) 20 tt)]) := hV
          obtain ⟨x_7, hx_7⟩ : ∃ z, pieceR t n (q_1 + 1) = z := ⟨_, rfl⟩
          rw [hx_7] at hV
          have okx_7 := pieceR_ok (t := t) (n := n) (p := (q_1 + 1)) (by omega)
          rw [hx_7] at okx_7
          obtain ⟨k9, hz⟩ : ∃ k9, H.size = k9 := ⟨_, rfl⟩
          rw [hz] at hk1 hk2 hpc
          rcases x_7 with e_7 | ⟨z_7, q_7⟩
          · have hV : vS G.1 cls lo s H locs (vU V10 [(rd, eO 3 [.ref tp, .int (nI n), .int (nI e_7)]), (tp, eI (gB G) 400 f), (tw, eO 5 [.ref ps, .ref bl, .ref sn, .ref tu]), (ps, eQ (gP G) 61 pf), (bl, eO 4 [.ref b1, .ref b2]), (b1, eI (gI G) 31 fb), (b2, eI (gI G) 31 fc), (sn, eO 4 [.ref s1, .ref s2]), (s1, eI (gI G) 31 fs), (s2, eI (gI G) 31 fd), (tu, eO 6 [.ref af, .ref ao, .ref a3, .int (nI L.length), .int (b2i of)]), (af, eI (gI G) 20 fr), (ao, eI (gI G) 20 ov), (a3, eI (gI G) 20 tt)]) := hV
            refine W.eq (g2 := F0 mi 71 ls [.int 0]) (by rw [hx_7]; rfl) ?_
            have hE : rowR t n p = .inl e_7 := by simp [rowR, sbd_l, sbd_r, hq_1, hx_7, lq_1, k_2, k_4, k_6]
            exact W.zret (v := 0) hx hb hr (by decide) (v_end hV ⟨by rw [hE]; rfl, V10, pf, fb, fc, fs, fd, fr, ov, tt, L, of, by rw [hE]; rfl, h10, by rw [hz]; exact hk1, by rw [hz]; exact hk2, hO, hL, fun z hz9 => by rw [hE] at hz9; cases hz9⟩) hV.2.1.2.2 d_Rd_readRow_71
          · simp only [] at okx_7
            obtain ⟨hpc1, hpc2⟩ := hpc _ hx_7
            have hV : vS G.1 cls lo s H locs (vU V10 [(rd, eO 3 [.ref tp, .int (nI n), .int (nI q_7)]), (tp, eI (gB G) 400 f), (tw, eO 5 [.ref ps, .ref bl, .ref sn, .ref tu]), (ps, eQ (gP G) 61 (va_up pf z_7.1 (some sz))), (bl, eO 4 [.ref b1, .ref b2]), (b1, eI (gI G) 31 fb), (b2, eI (gI G) 31 fc), (sn, eO 4 [.ref s1, .ref s2]), (s1, eI (gI G) 31 fs), (s2, eI (gI G) 31 fd), (tu, eO 6 [.ref af, .ref ao, .ref a3, .int (nI L.length), .int (b2i of)]), (af, eI (gI G) 20 fr), (ao, eI (gI G) 20 ov), (a3, eI (gI G) 20 tt)]) := hV
            refine W.eq (g2 := F0 mi 71 ls [.int 1]) (by rw [hx_7]; rfl) ?_
            have hE : rowR t n p = .inr (.inl z_7, q_7) := by simp [rowR, sbd_l, sbd_r, hq_1, hx_7, lq_1, k_2, k_4, k_6]
            exact W.zret (v := 1) hx hb hr (by decide) (v_end hV ⟨by rw [hE]; rfl, V10, va_up pf z_7.1 (some sz), fb, fc, fs, fd, fr, ov, tt, L, of, by rw [hE]; rfl, h10, by rw [hz]; exact hk1, by rw [hz]; exact hk2, hO, hL, fun z hz9 => by rw [hE] at hz9; cases hz9; exact ⟨by rw [hz]; exact twB_put (twB_mono hA.1 (fun q z1 z2 => h10 q z2) (by omega)) (pcAt_eq hpc1 (fun q z1 z2 => h11 q z1)) (by omega) (by omega), hA.2⟩⟩) hV.2.1.2.2 d_Rd_readRow_71
        · by_cases k_8 : t q_1 = 115
          · refine lv_lookup (off := 106) (tgt := 110) hx hb d_Rd_readRow_4 (by decide) (by rw [nI_toInt (by omega), k_8]; decide) (by decide) ?_
            refine lv_aload_n hx hb d_Rd_readRow_110 rfl (lv_at hl 0 rfl) ?_
            refine lv_dup hx hb d_Rd_readRow_111 rfl ?_
            refine u_get hx hb hts inRd hown hK hV hn 0 rfl rfl 2 (by decide) w_fl_Rd_19 rfl rfl d_Rd_readRow_112 ?_
            refine lv_iconst (v := 1) hx hb d_Rd_readRow_115 (by decide) ?_
            refine e_iadd (v := nI (q_1 + 1)) hx hb d_Rd_readRow_116 (nI_add q_1 1) ?_
            refine u_put hx hb hts inRd tyRd tyRd_ok nmRd hown hK hV hn 0 rfl rfl 2 (by decide) w_fl_Rd_19 rfl rfl rfl rfl (Nat.le_of_ble_eq_true rfl) d_Rd_readRow_117 (fun H locs hV hz9 => ?_)
            have hV : vS G.1 cls lo s H locs (vU V [(rd, eO 3 [.ref tp, .int (nI n), .int (nI (q_1 + 1))]), (tp, eI (gB G) 400 f), (tw, eO 5 [.ref ps, .ref bl, .ref sn, .ref tu]), (ps, eQ (gP G) 61 pf), (bl, eO 4 [.ref b1, .ref b2]), (b1, eI (gI G) 31 fb), (b2, eI (gI G) 31 fc), (sn, eO 4 [.ref s1, .ref s2]), (s1, eI (gI G) 31 fs), (s2, eI (gI G) 31 fd), (tu, eO 6 [.ref af, .ref ao, .ref a3, .int (nI L.length), .int (b2i of)]), (af, eI (gI G) 20 fr), (ao, eI (gI G) 20 ov), (a3, eI (gI G) 20 tt)]) := hV
            replace hz := hz9.trans hz
            refine lv_aload_n hx hb d_Rd_readRow_120 rfl (lv_at hl 0 rfl) ?_
            refine lv_aload_n hx hb d_Rd_readRow_121 rfl (lv_at hl 1 rfl) ?_
            refine u_get hx hb hts inTw hown hK hV hn 2 rfl rfl 2 (by decide) w_fl_Rd_55 rfl rfl d_Rd_readRow_122 ?_
            refine v_call (va_runV (As := [.ref sn]) (rest := []) ⟨hx, hb, hml, hown, hts⟩ (c_Rd_readSpot l G lo _ _ rd tp f t n (q_1 + 1) sn s1 s2 fs fd (nd_sub hn [0, 1, 7, 8, 9] (by decide) rfl) hT h4 (by omega)) (kwV 1 hts w_co_Rd_readSpot rfl rfl w_it_Rd w_ml_Rd_51 w_im_Rd_readSpot w_se_Rd__Rd_readSpot (by decide +kernel) ⟨by decide, by decide⟩) (u_preV hK hV hn [0, 1, 7, 8, 9] rfl hz 0 rfl rfl) rfl rfl hl.1 rfl (lv_room (Nat.le_of_ble_eq_true rfl)) d_Rd_readRow_125 ⟨(Nat.le_of_ble_eq_true rfl), (Nat.le_of_ble_eq_true rfl)⟩) hV (fun r9 V9 H locs hp hV hle => ?_)
            obtain ⟨rfl, rfl, hz⟩ := hp
            replace hV := u_back hV hn [0, 1, 7, 8, 9] rfl
            have hV : vS G.1 cls lo s H locs (vU V [(rd, eO 3 [.ref tp, .int (nI n), .int (nI (sR (spotR t n (q_1 + 1))))]), (tp, eI (gB G) 400 f), (tw, eO 5 [.ref ps, .ref bl, .ref sn, .ref tu]), (ps, eQ (gP G) 61 pf), (bl, eO 4 [.ref b1, .ref b2]), (b1, eI (gI G) 31 fb), (b2, eI (gI G) 31 fc), (sn, eO 4 [.ref s1, .ref s2]), (s1, eI (gI G) 31 ((spE (fs, fd) (spotR t n (q_1 + 1))).1)), (s2, eI (gI G) 31 ((spE (fs, fd) (spotR t n (q_1 + 1))).2)), (tu, eO 6 [.ref af, .ref ao, .ref a3, .int (nI L.length), .int (b2i of)]), (af, eI (gI G) 20 fr), (ao, eI (gI G) 20 ov), (a3, eI (gI G) 20 tt)]) := hV
            obtain ⟨x_9, hx_9⟩ : ∃ z, spotR t n (q_1 + 1) = z := ⟨_, rfl⟩
            rw [hx_9] at hV
            have okx_9 := spotR_ok (t := t) (n := n) (p := (q_1 + 1)) (by omega)
            rw [hx_9] at okx_9
            rcases x_9 with e_9 | ⟨z_9, q_9⟩
            · have hV : vS G.1 cls lo s H locs (vU V [(rd, eO 3 [.ref tp, .int (nI n), .int (nI e_9)]), (tp, eI (gB G) 400 f), (tw, eO 5 [.ref ps, .ref bl, .ref sn, .ref tu]), (ps, eQ (gP G) 61 pf), (bl, eO 4 [.ref b1, .ref b2]), (b1, eI (gI G) 31 fb), (b2, eI (gI G) 31 fc), (sn, eO 4 [.ref s1, .ref s2]), (s1, eI (gI G) 31 fs), (s2, eI (gI G) 31 fd), (tu, eO 6 [.ref af, .ref ao, .ref a3, .int (nI L.length), .int (b2i of)]), (af, eI (gI G) 20 fr), (ao, eI (gI G) 20 ov), (a3, eI (gI G) 20 tt)]) := hV
              refine W.eq (g2 := F0 mi 128 ls [.int 0]) (by rw [hx_9]; rfl) ?_
              have hE : rowR t n p = .inl e_9 := by simp [rowR, sbd_l, sbd_r, hq_1, hx_9, lq_1, k_2, k_4, k_6, k_8]
              refine W.widen (k := 4) (n := 24) (by omega) (by omega) ?_
              exact W.zret (v := 0) hx hb hr (by decide) (v_end hV ⟨by rw [hE]; rfl, V, pf, fb, fc, fs, fd, fr, ov, tt, L, of, by rw [hE]; rfl, fun q hq => rfl, by omega, by omega, hO, hL, fun z hz9 => by rw [hE] at hz9; cases hz9⟩) hV.2.1.2.2 d_Rd_readRow_128
            · simp only [] at okx_9
              have hV : vS G.1 cls lo s H locs (vU V [(rd, eO 3 [.ref tp, .int (nI n), .int (nI q_9)]), (tp, eI (gB G) 400 f), (tw, eO 5 [.ref ps, .ref bl, .ref sn, .ref tu]), (ps, eQ (gP G) 61 pf), (bl, eO 4 [.ref b1, .ref b2]), (b1, eI (gI G) 31 fb), (b2, eI (gI G) 31 fc), (sn, eO 4 [.ref s1, .ref s2]), (s1, eI (gI G) 31 (upd fs z_9.1 (nI z_9.2.1))), (s2, eI (gI G) 31 (upd fd z_9.1 (nI z_9.2.2))), (tu, eO 6 [.ref af, .ref ao, .ref a3, .int (nI L.length), .int (b2i of)]), (af, eI (gI G) 20 fr), (ao, eI (gI G) 20 ov), (a3, eI (gI G) 20 tt)]) := hV
              refine W.eq (g2 := F0 mi 128 ls [.int 1]) (by rw [hx_9]; rfl) ?_
              have hE : rowR t n p = .inr (.inr (.inr (.inr (.inl z_9))), q_9) := by simp [rowR, sbd_l, sbd_r, hq_1, hx_9, lq_1, k_2, k_4, k_6, k_8]
              refine W.widen (k := 4) (n := 24) (by omega) (by omega) ?_
              exact W.zret (v := 1) hx hb hr (by decide) (v_end hV ⟨by rw [hE]; rfl, V, pf, fb, fc, upd fs z_9.1 (nI z_9.2.1), upd fd z_9.1 (nI z_9.2.2), fr, ov, tt, L, of, by rw [hE]; rfl, fun q hq => rfl, by omega, by omega, hO, hL, fun z hz9 => by rw [hE] at hz9; cases hz9; exact ⟨by rw [hz]; exact hA.1, hA.2.1, spOk_put hA.2.2.1 (by omega) (by omega) (by omega), hA.2.2.2⟩⟩) hV.2.1.2.2 d_Rd_readRow_128
          · by_cases k_10 : t q_1 = 120
            · refine lv_lookup (off := 68) (tgt := 72) hx hb d_Rd_readRow_4 (by decide) (by rw [nI_toInt (by omega), k_10]; decide) (by decide) ?_
              refine lv_aload_n hx hb d_Rd_readRow_72 rfl (lv_at hl 0 rfl) ?_
              refine lv_dup hx hb d_Rd_readRow_73 rfl ?_
              refine u_get hx hb hts inRd hown hK hV hn 0 rfl rfl 2 (by decide) w_fl_Rd_19 rfl rfl d_Rd_readRow_74 ?_
              refine lv_iconst (v := 1) hx hb d_Rd_readRow_77 (by decide) ?_
              refine e_iadd (v := nI (q_1 + 1)) hx hb d_Rd_readRow_78 (nI_add q_1 1) ?_
              refine u_put hx hb hts inRd tyRd tyRd_ok nmRd hown hK hV hn 0 rfl rfl 2 (by decide) w_fl_Rd_19 rfl rfl rfl rfl (Nat.le_of_ble_eq_true rfl) d_Rd_readRow_79 (fun H locs hV hz9 => ?_)
              have hV : vS G.1 cls lo s H locs (vU V [(rd, eO 3 [.ref tp, .int (nI n), .int (nI (q_1 + 1))]), (tp, eI (gB G) 400 f), (tw, eO 5 [.ref ps, .ref bl, .ref sn, .ref tu]), (ps, eQ (gP G) 61 pf), (bl, eO 4 [.ref b1, .ref b2]), (b1, eI (gI G) 31 fb), (b2, eI (gI G) 31 fc), (sn, eO 4 [.ref s1, .ref s2]), (s1, eI (gI G) 31 fs), (s2, eI (gI G) 31 fd), (tu, eO 6 [.ref af, .ref ao, .ref a3, .int (nI L.length), .int (b2i of)]), (af, eI (gI G) 20 fr), (ao, eI (gI G) 20 ov), (a3, eI (gI G) 20 tt)]) := hV
              replace hz := hz9.trans hz
              refine lv_aload_n hx hb d_Rd_readRow_82 rfl (lv_at hl 0 rfl) ?_
              refine lv_aload_n hx hb d_Rd_readRow_83 rfl (lv_at hl 1 rfl) ?_
              refine u_get hx hb hts inTw hown hK hV hn 2 rfl rfl 3 (by decide) w_fl_Rd_37 rfl rfl d_Rd_readRow_84 ?_
              refine v_call (va_runV (As := [.ref tu]) (rest := []) ⟨hx, hb, hml, hown, hts⟩ (c_Rd_readTurn l G lo _ _ rd tp f t n (q_1 + 1) tu af ao a3 fr ov tt L of (nd_sub hn [0, 1, 10, 11, 12, 13] (by decide) rfl) hO hL hT h4 (by omega)) (kwV 1 hts w_co_Rd_readTurn rfl rfl w_it_Rd w_ml_Rd_43 w_im_Rd_readTurn w_se_Rd__Rd_readTurn (by decide +kernel) ⟨by decide, by decide⟩) (u_preV hK hV hn [0, 1, 10, 11, 12, 13] rfl hz 0 rfl rfl) rfl rfl hl.1 rfl (lv_room (Nat.le_of_ble_eq_true rfl)) d_Rd_readRow_87 ⟨(Nat.le_of_ble_eq_true rfl), (Nat.le_of_ble_eq_true rfl)⟩) hV (fun r9 V9 H locs hp hV hle => ?_)
              obtain ⟨rfl, ⟨fr2, ov2, tt2, L2, of2, rfl, hO2, hTE⟩, hz⟩ := hp
              replace hV := u_back hV hn [0, 1, 10, 11, 12, 13] rfl
              have hV : vS G.1 cls lo s H locs (vU V [(rd, eO 3 [.ref tp, .int (nI n), .int (nI (sR (turnR t n (q_1 + 1))))]), (tp, eI (gB G) 400 f), (tw, eO 5 [.ref ps, .ref bl, .ref sn, .ref tu]), (ps, eQ (gP G) 61 pf), (bl, eO 4 [.ref b1, .ref b2]), (b1, eI (gI G) 31 fb), (b2, eI (gI G) 31 fc), (sn, eO 4 [.ref s1, .ref s2]), (s1, eI (gI G) 31 fs), (s2, eI (gI G) 31 fd), (tu, eO 6 [.ref af, .ref ao, .ref a3, .int (nI L2.length), .int (b2i of2)]), (af, eI (gI G) 20 fr2), (ao, eI (gI G) 20 ov2), (a3, eI (gI G) 20 tt2)]) := hV
              obtain ⟨x_11, hx_11⟩ : ∃ z, turnR t n (q_1 + 1) = z := ⟨_, rfl⟩
              rw [hx_11] at hV hTE
              have okx_11 := turnR_ok (t := t) (n := n) (p := (q_1 + 1)) (by omega)
              rw [hx_11] at okx_11
              have hL2 : L2.length ≤ 20 := by have h9 := tnE_len (of := of) x_11 hL; rw [← hTE] at h9; exact h9
              rcases x_11 with e_11 | ⟨z_11, q_11⟩
              · have hV : vS G.1 cls lo s H locs (vU V [(rd, eO 3 [.ref tp, .int (nI n), .int (nI e_11)]), (tp, eI (gB G) 400 f), (tw, eO 5 [.ref ps, .ref bl, .ref sn, .ref tu]), (ps, eQ (gP G) 61 pf), (bl, eO 4 [.ref b1, .ref b2]), (b1, eI (gI G) 31 fb), (b2, eI (gI G) 31 fc), (sn, eO 4 [.ref s1, .ref s2]), (s1, eI (gI G) 31 fs), (s2, eI (gI G) 31 fd), (tu, eO 6 [.ref af, .ref ao, .ref a3, .int (nI L2.length), .int (b2i of2)]), (af, eI (gI G) 20 fr2), (ao, eI (gI G) 20 ov2), (a3, eI (gI G) 20 tt2)]) := hV
                refine W.eq (g2 := F0 mi 90 ls [.int 0]) (by rw [hx_11]; rfl) ?_
                have hE : rowR t n p = .inl e_11 := by simp [rowR, sbd_l, sbd_r, hq_1, hx_11, lq_1, k_2, k_4, k_6, k_8, k_10]
                refine W.widen (k := 4) (n := 24) (by omega) (by omega) ?_
                exact W.zret (v := 0) hx hb hr (by decide) (v_end hV ⟨by rw [hE]; rfl, V, pf, fb, fc, fs, fd, fr2, ov2, tt2, L2, of2, by rw [hE]; rfl, fun q hq => rfl, by omega, by omega, hO2, hL2, fun z hz9 => by rw [hE] at hz9; cases hz9⟩) hV.2.1.2.2 d_Rd_readRow_90
              · simp only [] at okx_11
                have hV : vS G.1 cls lo s H locs (vU V [(rd, eO 3 [.ref tp, .int (nI n), .int (nI q_11)]), (tp, eI (gB G) 400 f), (tw, eO 5 [.ref ps, .ref bl, .ref sn, .ref tu]), (ps, eQ (gP G) 61 pf), (bl, eO 4 [.ref b1, .ref b2]), (b1, eI (gI G) 31 fb), (b2, eI (gI G) 31 fc), (sn, eO 4 [.ref s1, .ref s2]), (s1, eI (gI G) 31 fs), (s2, eI (gI G) 31 fd), (tu, eO 6 [.ref af, .ref ao, .ref a3, .int (nI L2.length), .int (b2i of2)]), (af, eI (gI G) 20 fr2), (ao, eI (gI G) 20 ov2), (a3, eI (gI G) 20 tt2)]) := hV
                refine W.eq (g2 := F0 mi 90 ls [.int 1]) (by rw [hx_11]; rfl) ?_
                have hE : rowR t n p = .inr (.inr (.inl z_11), q_11) := by simp [rowR, sbd_l, sbd_r, hq_1, hx_11, lq_1, k_2, k_4, k_6, k_8, k_10]
                refine W.widen (k := 4) (n := 24) (by omega) (by omega) ?_
                exact W.zret (v := 1) hx hb hr (by decide) (v_end hV ⟨by rw [hE]; rfl, V, pf, fb, fc, fs, fd, fr2, ov2, tt2, L2, of2, by rw [hE]; rfl, fun q hq => rfl, by omega, by omega, hO2, hL2, fun z hz9 => by rw [hE] at hz9; cases hz9; exact ⟨by rw [hz]; exact hA.1, hA.2.1, hA.2.2.1, by have h9 := tlOk_add hA.2.2.2 z_11; rw [← show (L2, of2) = tnAdd (L, of) z_11 from hTE] at h9; exact h9⟩⟩) hV.2.1.2.2 d_Rd_readRow_90
            · refine lv_lookup (off := 141) (tgt := 145) hx hb d_Rd_readRow_4 (by decide) (by rw [nI_toInt (by omega)]; simp only [lookupswitch.offset_cons, lookupswitch.offset_nil]; repeat rw [if_neg (by omega)]) (by decide) ?_
              refine lv_iconst (v := 0) hx hb d_Rd_readRow_145 (by decide) ?_
              have hE : rowR t n p = .inl q_1 := by simp [rowR, sbd_l, sbd_r, hq_1, lq_1, k_2, k_4, k_6, k_8, k_10]
              refine W.widen (k := 4) (n := 24) (by omega) (by omega) ?_
              exact W.zret (v := 0) hx hb hr (by decide) (v_end hV ⟨by rw [hE]; rfl, V, pf, fb, fc, fs, fd, fr, ov, tt, L, of, by rw [hE]; rfl, fun q hq => rfl, by omega, by omega, hO, hL, fun z hz9 => by rw [hE] at hz9; cases hz9⟩) hV.2.1.2.2 d_Rd_readRow_146
  · have hV : vS G.1 cls lo s H locs (vU V [(rd, eO 3 [.ref tp, .int (nI n), .int (nI q_1)]), (tp, eI (gB G) 400 f), (tw, eO 5 [.ref ps, .ref bl, .ref sn, .ref tu]), (ps, eQ (gP G) 61 pf), (bl, eO 4 [.ref b1, .ref b2]), (b1, eI (gI G) 31 fb), (b2, eI (gI G) 31 fc), (sn, eO 4 [.ref s1, .ref s2]), (s1, eI (gI G) 31 fs), (s2, eI (gI G) 31 fd), (tu, eO 6 [.ref af, .ref ao, .ref a3, .int (nI L.length), .int (b2i of)]), (af, eI (gI G) 20 fr), (ao, eI (gI G) 20 ov), (a3, eI (gI G) 20 tt)]) := hV
    refine W.eq (g2 := F0 mi 4 ls [.int ((-1))]) (by rw [hq_1, rK_out (by omega)]; rfl) ?_
    refine lv_lookup (off := 141) (tgt := 145) hx hb d_Rd_readRow_4 (by decide) (by decide) (by decide) ?_
    refine lv_iconst (v := 0) hx hb d_Rd_readRow_145 (by decide) ?_
    have hE : rowR t n p = .inl q_1 := by simp [rowR, sbd_l, sbd_r, hq_1, Nat.not_lt.mpr lq_1]
    refine W.widen (k := 4) (n := 24) (by omega) (by omega) ?_
    exact W.zret (v := 0) hx hb hr (by decide) (v_end hV ⟨by rw [hE]; rfl, V, pf, fb, fc, fs, fd, fr, ov, tt, L, of, by rw [hE]; rfl, fun q hq => rfl, by omega, by omega, hO, hL, fun z hz9 => by rw [hE] at hz9; cases hz9⟩) hV.2.1.2.2 d_Rd_readRow_146
