/-! THE CLASS'S STATE as one predicate over the view -/
theorem vU_idm {V : Vw} {CS : va_W} (hn : vN CS) : vU (vU V CS) CS = vU V CS := vU_all (fun x hx => by
  obtain ⟨i, hi⟩ := List.getElem?_of_mem hx
  exact vU_at hn i hi)
theorem vU_pick {V : Vw} {CS cs : va_W} (hV : vU V CS = V) (hn : vN CS) (is : List Nat) (h : is.map (fun i => CS[i]?) = cs.map some) : vU V cs = V := by
  have := vU_sub (V := V) hn is h
  rw [hV] at this
  exact this
theorem vU_put {V : Vw} {CS cs : va_W} (hV : vU V CS = V) (hn : vN CS) (is : List Nat) (h : is.map (fun i => (CS.map Prod.fst)[i]?) = cs.map (fun x => some x.1)) : vU V cs = vU V (vR CS is cs) := by
  have := vU_back (V := V) hn is h
  rw [hV] at this
  exact this
noncomputable def tpA (b : Int64) (t : Nat → Nat) (n j : Nat) : Nat → Nat := fun p => if p < n then t p else Classical.choose (sg_two b (j - 1 - (p - n)))
theorem tpA_c {f : Nat → Int32} {t : Nat → Nat} {n j : Nat} (b : Int64) (h1 : tpOk f t n) : tpOk (apG b f n j j) (tpA b t n j) (n + j) := by
  intro i hi
  unfold tpA
  by_cases h : i < n
  · simp only [if_pos h]
    have := h1 i h
    refine ⟨this.1, ?_⟩
    unfold apG
    rw [if_neg (by omega)]
    exact this.2
  · simp only [if_neg h]
    have := Classical.choose_spec (sg_two b (j - 1 - (i - n)))
    refine ⟨this.1, ?_⟩
    unfold apG
    rw [if_pos (by omega)]
    exact this.2.2
theorem tpA_m {g : Nat → Int32} {t : Nat → Nat} {n j : Nat} (b : Int64) (h2 : mtOk g t n) : mtOk (apM b g n j j) (tpA b t n j) (n + j) := by
  intro i hi
  unfold tpA
  by_cases h : i < n
  · simp only [if_pos h]
    have := h2 i h
    refine ⟨this.1, ?_⟩
    unfold apM
    rw [if_neg (by omega)]
    exact this.2
  · simp only [if_neg h]
    have := Classical.choose_spec (sg_two b (j - 1 - (i - n)))
    refine ⟨this.1, ?_⟩
    unfold apM
    rw [if_pos (by omega)]
    exact this.2.1
noncomputable def tpT (b : Int64) (t : Nat → Nat) (n : Nat) : Sum Nat Nat → Nat → Nat
  | .inl _ => t
  | .inr z => tpA b t n (z - n)
theorem fltA_le (Q : Nat → Option PcR) (B S : Nat → Option (Nat × Nat)) {L : List Tri} (h : L.length ≤ 20) : (fltA (Q, B, S, L)).length ≤ 250 := by
  unfold fltA
  simp only [List.length_append]
  have h1 := flt_le 1 (lostP Q B) 30
  have h2 := flt_le 2 (lostP Q S) 30
  have h3 := flt_le 3 (twinP Q) 60
  have h4 := idlQ_le Q L 40
  have h5 := flt_le 5 (fun j => wallI L j L.length) 40
  have h6 := flt_le 6 (endP Q) 40
  have h7 := flt_le 7 (unr Q S) 30
  omega
def cS (G : Gx) (V : Vw) (x dy sz : Nat) (Q : Nat → Option PcR) (B S : Nat → Option (Nat × Nat)) (L : List Tri) (t : Nat → Nat) (n : Nat) (wr : Int32) (F : List Two) (PB : List Nat) : Prop := ∃ (rd tp ck kk kn pr bs tw ps bl b1 b2 sn s1 s2 tu af ao a3 w0 w1 w2 w3 w4 w5 w6 w7 w8 w9 wa wb p : Nat) (f fk fn fo : Nat → Int32) (pf gp : Nat → Option Nat) (fb fc fs fd gb gc gs gd fr ov tt g1 g2 g3 : Nat → Int32) (L1 : List Tri) (of of1 : Bool),
  [x, rd, tp, ck, kk, kn, pr, bs, tw, ps, bl, b1, b2, sn, s1, s2, tu, af, ao, a3, w0, w1, w2, w3, w4, w5, w6, w7, w8, w9, wa, wb].Nodup ∧ (∀ a ∈ [x, rd, tp, ck, kk, kn, pr, bs, tw, ps, bl, b1, b2, sn, s1, s2, tu, af, ao, a3, w0, w1, w2, w3, w4, w5, w6, w7, w8, w9, wa, wb], x ≤ a ∧ a < x + 32) ∧ x + 32 ≤ dy ∧ dy ≤ sz ∧ vU V [(x, eO 7 [.ref rd, .ref ck, .ref pr, .ref tw, .ref w0, .int wr]), (rd, eO 3 [.ref tp, .int (nI n), .int (nI p)]), (tp, eI (gB G) 400 f), (ck, eO 0 [.ref kk, .ref kn, .int (nI F.length)]), (kk, eI (gI G) 250 fk), (kn, eI (gI G) 250 fn), (pr, eO 2 [.ref bs, .int (nI PB.length)]), (bs, eI (gB G) 4880 fo), (tw, eO 5 [.ref ps, .ref bl, .ref sn, .ref tu]), (ps, eQ (gP G) 61 pf), (bl, eO 4 [.ref b1, .ref b2]), (b1, eI (gI G) 31 fb), (b2, eI (gI G) 31 fc), (sn, eO 4 [.ref s1, .ref s2]), (s1, eI (gI G) 31 fs), (s2, eI (gI G) 31 fd), (tu, eO 6 [.ref af, .ref ao, .ref a3, .int (nI L.length), .int (b2i of)]), (af, eI (gI G) 20 fr), (ao, eI (gI G) 20 ov), (a3, eI (gI G) 20 tt), (w0, eO 5 [.ref w1, .ref w2, .ref w5, .ref w8]), (w1, eQ (gP G) 61 gp), (w2, eO 4 [.ref w3, .ref w4]), (w3, eI (gI G) 31 gb), (w4, eI (gI G) 31 gc), (w5, eO 4 [.ref w6, .ref w7]), (w6, eI (gI G) 31 gs), (w7, eI (gI G) 31 gd), (w8, eO 6 [.ref w9, .ref wa, .ref wb, .int (nI L1.length), .int (b2i of1)]), (w9, eI (gI G) 20 g1), (wa, eI (gI G) 20 g2), (wb, eI (gI G) 20 g3)] = V ∧
  twB G V dy sz pf Q ∧ spOk fb fc B ∧ spOk fs fd S ∧ tnOk fr ov tt L ∧ L.length ≤ 20 ∧ tpOk f t n ∧ n ≤ 400 ∧ p ≤ 400 ∧ ckOk fk fn F ∧ F.length ≤ 250 ∧ prOk fo PB ∧ PB.length ≤ 4880
theorem cS.elim {G : Gx} {V : Vw} {x dy sz : Nat} {Q : Nat → Option PcR} {B S : Nat → Option (Nat × Nat)} {L : List Tri} {t : Nat → Nat} {n : Nat} {wr : Int32} {F : List Two} {PB : List Nat} {Z : Prop} (h : cS G V x dy sz Q B S L t n wr F PB) (k : ∀ (rd tp ck kk kn pr bs tw ps bl b1 b2 sn s1 s2 tu af ao a3 w0 w1 w2 w3 w4 w5 w6 w7 w8 w9 wa wb p : Nat) (f fk fn fo : Nat → Int32) (pf gp : Nat → Option Nat) (fb fc fs fd gb gc gs gd fr ov tt g1 g2 g3 : Nat → Int32) (L1 : List Tri) (of of1 : Bool), ([x, rd, tp, ck, kk, kn, pr, bs, tw, ps, bl, b1, b2, sn, s1, s2, tu, af, ao, a3, w0, w1, w2, w3, w4, w5, w6, w7, w8, w9, wa, wb].Nodup) → (∀ a ∈ [x, rd, tp, ck, kk, kn, pr, bs, tw, ps, bl, b1, b2, sn, s1, s2, tu, af, ao, a3, w0, w1, w2, w3, w4, w5, w6, w7, w8, w9, wa, wb], x ≤ a ∧ a < x + 32) → (x + 32 ≤ dy) → (dy ≤ sz) → (vU V [(x, eO 7 [.ref rd, .ref ck, .ref pr, .ref tw, .ref w0, .int wr]), (rd, eO 3 [.ref tp, .int (nI n), .int (nI p)]), (tp, eI (gB G) 400 f), (ck, eO 0 [.ref kk, .ref kn, .int (nI F.length)]), (kk, eI (gI G) 250 fk), (kn, eI (gI G) 250 fn), (pr, eO 2 [.ref bs, .int (nI PB.length)]), (bs, eI (gB G) 4880 fo), (tw, eO 5 [.ref ps, .ref bl, .ref sn, .ref tu]), (ps, eQ (gP G) 61 pf), (bl, eO 4 [.ref b1, .ref b2]), (b1, eI (gI G) 31 fb), (b2, eI (gI G) 31 fc), (sn, eO 4 [.ref s1, .ref s2]), (s1, eI (gI G) 31 fs), (s2, eI (gI G) 31 fd), (tu, eO 6 [.ref af, .ref ao, .ref a3, .int (nI L.length), .int (b2i of)]), (af, eI (gI G) 20 fr), (ao, eI (gI G) 20 ov), (a3, eI (gI G) 20 tt), (w0, eO 5 [.ref w1, .ref w2, .ref w5, .ref w8]), (w1, eQ (gP G) 61 gp), (w2, eO 4 [.ref w3, .ref w4]), (w3, eI (gI G) 31 gb), (w4, eI (gI G) 31 gc), (w5, eO 4 [.ref w6, .ref w7]), (w6, eI (gI G) 31 gs), (w7, eI (gI G) 31 gd), (w8, eO 6 [.ref w9, .ref wa, .ref wb, .int (nI L1.length), .int (b2i of1)]), (w9, eI (gI G) 20 g1), (wa, eI (gI G) 20 g2), (wb, eI (gI G) 20 g3)] = V) → (twB G V dy sz pf Q) → (spOk fb fc B) → (spOk fs fd S) → (tnOk fr ov tt L) → (L.length ≤ 20) → (tpOk f t n) → (n ≤ 400) → (p ≤ 400) → (ckOk fk fn F) → (F.length ≤ 250) → (prOk fo PB) → (PB.length ≤ 4880) → Z) : Z := by
  obtain ⟨rd, tp, ck, kk, kn, pr, bs, tw, ps, bl, b1, b2, sn, s1, s2, tu, af, ao, a3, w0, w1, w2, w3, w4, w5, w6, w7, w8, w9, wa, wb, p, f, fk, fn, fo, pf, gp, fb, fc, fs, fd, gb, gc, gs, gd, fr, ov, tt, g1, g2, g3, L1, of, of1, hnd, hblk, hxd, hdz, hVV, hB, hSb, hSs, hO, hL, hT, h4, hp4, hck, hF, hpr, hPB⟩ := h
  exact k rd tp ck kk kn pr bs tw ps bl b1 b2 sn s1 s2 tu af ao a3 w0 w1 w2 w3 w4 w5 w6 w7 w8 w9 wa wb p f fk fn fo pf gp fb fc fs fd gb gc gs gd fr ov tt g1 g2 g3 L1 of of1 hnd hblk hxd hdz hVV hB hSb hSs hO hL hT h4 hp4 hck hF hpr hPB
theorem cS.mk {G : Gx} {V : Vw} {x dy sz : Nat} {Q : Nat → Option PcR} {B S : Nat → Option (Nat × Nat)} {L : List Tri} {t : Nat → Nat} {n : Nat} {wr : Int32} {F : List Two} {PB : List Nat} {rd tp ck kk kn pr bs tw ps bl b1 b2 sn s1 s2 tu af ao a3 w0 w1 w2 w3 w4 w5 w6 w7 w8 w9 wa wb p : Nat} {f fk fn fo : Nat → Int32} {pf gp : Nat → Option Nat} {fb fc fs fd gb gc gs gd fr ov tt g1 g2 g3 : Nat → Int32} {L1 : List Tri} {of of1 : Bool} (hnd : [x, rd, tp, ck, kk, kn, pr, bs, tw, ps, bl, b1, b2, sn, s1, s2, tu, af, ao, a3, w0, w1, w2, w3, w4, w5, w6, w7, w8, w9, wa, wb].Nodup) (hblk : ∀ a ∈ [x, rd, tp, ck, kk, kn, pr, bs, tw, ps, bl, b1, b2, sn, s1, s2, tu, af, ao, a3, w0, w1, w2, w3, w4, w5, w6, w7, w8, w9, wa, wb], x ≤ a ∧ a < x + 32) (hxd : x + 32 ≤ dy) (hdz : dy ≤ sz) (hVV : vU V [(x, eO 7 [.ref rd, .ref ck, .ref pr, .ref tw, .ref w0, .int wr]), (rd, eO 3 [.ref tp, .int (nI n), .int (nI p)]), (tp, eI (gB G) 400 f), (ck, eO 0 [.ref kk, .ref kn, .int (nI F.length)]), (kk, eI (gI G) 250 fk), (kn, eI (gI G) 250 fn), (pr, eO 2 [.ref bs, .int (nI PB.length)]), (bs, eI (gB G) 4880 fo), (tw, eO 5 [.ref ps, .ref bl, .ref sn, .ref tu]), (ps, eQ (gP G) 61 pf), (bl, eO 4 [.ref b1, .ref b2]), (b1, eI (gI G) 31 fb), (b2, eI (gI G) 31 fc), (sn, eO 4 [.ref s1, .ref s2]), (s1, eI (gI G) 31 fs), (s2, eI (gI G) 31 fd), (tu, eO 6 [.ref af, .ref ao, .ref a3, .int (nI L.length), .int (b2i of)]), (af, eI (gI G) 20 fr), (ao, eI (gI G) 20 ov), (a3, eI (gI G) 20 tt), (w0, eO 5 [.ref w1, .ref w2, .ref w5, .ref w8]), (w1, eQ (gP G) 61 gp), (w2, eO 4 [.ref w3, .ref w4]), (w3, eI (gI G) 31 gb), (w4, eI (gI G) 31 gc), (w5, eO 4 [.ref w6, .ref w7]), (w6, eI (gI G) 31 gs), (w7, eI (gI G) 31 gd), (w8, eO 6 [.ref w9, .ref wa, .ref wb, .int (nI L1.length), .int (b2i of1)]), (w9, eI (gI G) 20 g1), (wa, eI (gI G) 20 g2), (wb, eI (gI G) 20 g3)] = V) (hB : twB G V dy sz pf Q) (hSb : spOk fb fc B) (hSs : spOk fs fd S) (hO : tnOk fr ov tt L) (hL : L.length ≤ 20) (hT : tpOk f t n) (h4 : n ≤ 400) (hp4 : p ≤ 400) (hck : ckOk fk fn F) (hF : F.length ≤ 250) (hpr : prOk fo PB) (hPB : PB.length ≤ 4880) : cS G V x dy sz Q B S L t n wr F PB :=
  ⟨rd, tp, ck, kk, kn, pr, bs, tw, ps, bl, b1, b2, sn, s1, s2, tu, af, ao, a3, w0, w1, w2, w3, w4, w5, w6, w7, w8, w9, wa, wb, p, f, fk, fn, fo, pf, gp, fb, fc, fs, fd, gb, gc, gs, gd, fr, ov, tt, g1, g2, g3, L1, of, of1, hnd, hblk, hxd, hdz, hVV, hB, hSb, hSs, hO, hL, hT, h4, hp4, hck, hF, hpr, hPB⟩
theorem cS.mono {G : Gx} {V : Vw} {x dy sz : Nat} {Q : Nat → Option PcR} {B S : Nat → Option (Nat × Nat)} {L : List Tri} {t : Nat → Nat} {n : Nat} {wr : Int32} {F : List Two} {PB : List Nat} {sz2 : Nat} (h : cS G V x dy sz Q B S L t n wr F PB) (hs : sz ≤ sz2) : cS G V x dy sz2 Q B S L t n wr F PB := by
  refine cS.elim h ?_
  intro rd tp ck kk kn pr bs tw ps bl b1 b2 sn s1 s2 tu af ao a3 w0 w1 w2 w3 w4 w5 w6 w7 w8 w9 wa wb p f fk fn fo pf gp fb fc fs fd gb gc gs gd fr ov tt g1 g2 g3 L1 of of1 hnd hblk hxd hdz hVV hB hSb hSs hO hL hT h4 hp4 hck hF hpr hPB
  exact cS.mk hnd hblk hxd (Nat.le_trans hdz hs) hVV (twB_mono hB (fun _ _ _ => rfl) hs) hSb hSs hO hL hT h4 hp4 hck hF hpr hPB
theorem cS.eq {G : Gx} {V : Vw} {x dy sz : Nat} {Q : Nat → Option PcR} {B S : Nat → Option (Nat × Nat)} {L : List Tri} {t : Nat → Nat} {n : Nat} {wr : Int32} {F : List Two} {PB : List Nat} {V2 : Vw} (h : cS G V x dy sz Q B S L t n wr F PB) (h1 : ∀ a, x ≤ a → a < x + 32 → V2 a = V a) (h2 : ∀ a, dy ≤ a → a < sz → V2 a = V a) : cS G V2 x dy sz Q B S L t n wr F PB := by
  refine cS.elim h ?_
  intro rd tp ck kk kn pr bs tw ps bl b1 b2 sn s1 s2 tu af ao a3 w0 w1 w2 w3 w4 w5 w6 w7 w8 w9 wa wb p f fk fn fo pf gp fb fc fs fd gb gc gs gd fr ov tt g1 g2 g3 L1 of of1 hnd hblk hxd hdz hVV hB hSb hSs hO hL hT h4 hp4 hck hF hpr hPB
  have hv2 : vU V2 [(x, eO 7 [.ref rd, .ref ck, .ref pr, .ref tw, .ref w0, .int wr]), (rd, eO 3 [.ref tp, .int (nI n), .int (nI p)]), (tp, eI (gB G) 400 f), (ck, eO 0 [.ref kk, .ref kn, .int (nI F.length)]), (kk, eI (gI G) 250 fk), (kn, eI (gI G) 250 fn), (pr, eO 2 [.ref bs, .int (nI PB.length)]), (bs, eI (gB G) 4880 fo), (tw, eO 5 [.ref ps, .ref bl, .ref sn, .ref tu]), (ps, eQ (gP G) 61 pf), (bl, eO 4 [.ref b1, .ref b2]), (b1, eI (gI G) 31 fb), (b2, eI (gI G) 31 fc), (sn, eO 4 [.ref s1, .ref s2]), (s1, eI (gI G) 31 fs), (s2, eI (gI G) 31 fd), (tu, eO 6 [.ref af, .ref ao, .ref a3, .int (nI L.length), .int (b2i of)]), (af, eI (gI G) 20 fr), (ao, eI (gI G) 20 ov), (a3, eI (gI G) 20 tt), (w0, eO 5 [.ref w1, .ref w2, .ref w5, .ref w8]), (w1, eQ (gP G) 61 gp), (w2, eO 4 [.ref w3, .ref w4]), (w3, eI (gI G) 31 gb), (w4, eI (gI G) 31 gc), (w5, eO 4 [.ref w6, .ref w7]), (w6, eI (gI G) 31 gs), (w7, eI (gI G) 31 gd), (w8, eO 6 [.ref w9, .ref wa, .ref wb, .int (nI L1.length), .int (b2i of1)]), (w9, eI (gI G) 20 g1), (wa, eI (gI G) 20 g2), (wb, eI (gI G) 20 g3)] = V2 := by
    refine vU_all (fun y hy => ?_)
    have hm := hblk y.1 (List.mem_map_of_mem hy)
    rw [h1 _ hm.1 hm.2]
    obtain ⟨i, hi⟩ := List.getElem?_of_mem hy
    exact (congrFun hVV y.1).symm.trans (vU_at (cs := [(x, eO 7 [.ref rd, .ref ck, .ref pr, .ref tw, .ref w0, .int wr]), (rd, eO 3 [.ref tp, .int (nI n), .int (nI p)]), (tp, eI (gB G) 400 f), (ck, eO 0 [.ref kk, .ref kn, .int (nI F.length)]), (kk, eI (gI G) 250 fk), (kn, eI (gI G) 250 fn), (pr, eO 2 [.ref bs, .int (nI PB.length)]), (bs, eI (gB G) 4880 fo), (tw, eO 5 [.ref ps, .ref bl, .ref sn, .ref tu]), (ps, eQ (gP G) 61 pf), (bl, eO 4 [.ref b1, .ref b2]), (b1, eI (gI G) 31 fb), (b2, eI (gI G) 31 fc), (sn, eO 4 [.ref s1, .ref s2]), (s1, eI (gI G) 31 fs), (s2, eI (gI G) 31 fd), (tu, eO 6 [.ref af, .ref ao, .ref a3, .int (nI L.length), .int (b2i of)]), (af, eI (gI G) 20 fr), (ao, eI (gI G) 20 ov), (a3, eI (gI G) 20 tt), (w0, eO 5 [.ref w1, .ref w2, .ref w5, .ref w8]), (w1, eQ (gP G) 61 gp), (w2, eO 4 [.ref w3, .ref w4]), (w3, eI (gI G) 31 gb), (w4, eI (gI G) 31 gc), (w5, eO 4 [.ref w6, .ref w7]), (w6, eI (gI G) 31 gs), (w7, eI (gI G) 31 gd), (w8, eO 6 [.ref w9, .ref wa, .ref wb, .int (nI L1.length), .int (b2i of1)]), (w9, eI (gI G) 20 g1), (wa, eI (gI G) 20 g2), (wb, eI (gI G) 20 g3)]) hnd i hi)
  exact cS.mk hnd hblk hxd hdz hv2 (twB_mono hB h2 (Nat.le_refl _)) hSb hSs hO hL hT h4 hp4 hck hF hpr hPB
theorem cS.at {G : Gx} {V : Vw} {x dy sz : Nat} {Q : Nat → Option PcR} {B S : Nat → Option (Nat × Nat)} {L : List Tri} {t : Nat → Nat} {n : Nat} {wr : Int32} {F : List Two} {PB : List Nat} (h : cS G V x dy sz Q B S L t n wr F PB) : (∃ fs, V x = some (eO 7 fs)) ∧ x + 32 ≤ dy ∧ dy ≤ sz := by
  refine cS.elim h ?_
  intro rd tp ck kk kn pr bs tw ps bl b1 b2 sn s1 s2 tu af ao a3 w0 w1 w2 w3 w4 w5 w6 w7 w8 w9 wa wb p f fk fn fo pf gp fb fc fs fd gb gc gs gd fr ov tt g1 g2 g3 L1 of of1 hnd hblk hxd hdz hVV hB hSb hSs hO hL hT h4 hp4 hck hF hpr hPB
  exact ⟨⟨_, (congrFun hVV x).symm.trans (vU_at (cs := [(x, eO 7 [.ref rd, .ref ck, .ref pr, .ref tw, .ref w0, .int wr]), (rd, eO 3 [.ref tp, .int (nI n), .int (nI p)]), (tp, eI (gB G) 400 f), (ck, eO 0 [.ref kk, .ref kn, .int (nI F.length)]), (kk, eI (gI G) 250 fk), (kn, eI (gI G) 250 fn), (pr, eO 2 [.ref bs, .int (nI PB.length)]), (bs, eI (gB G) 4880 fo), (tw, eO 5 [.ref ps, .ref bl, .ref sn, .ref tu]), (ps, eQ (gP G) 61 pf), (bl, eO 4 [.ref b1, .ref b2]), (b1, eI (gI G) 31 fb), (b2, eI (gI G) 31 fc), (sn, eO 4 [.ref s1, .ref s2]), (s1, eI (gI G) 31 fs), (s2, eI (gI G) 31 fd), (tu, eO 6 [.ref af, .ref ao, .ref a3, .int (nI L.length), .int (b2i of)]), (af, eI (gI G) 20 fr), (ao, eI (gI G) 20 ov), (a3, eI (gI G) 20 tt), (w0, eO 5 [.ref w1, .ref w2, .ref w5, .ref w8]), (w1, eQ (gP G) 61 gp), (w2, eO 4 [.ref w3, .ref w4]), (w3, eI (gI G) 31 gb), (w4, eI (gI G) 31 gc), (w5, eO 4 [.ref w6, .ref w7]), (w6, eI (gI G) 31 gs), (w7, eI (gI G) 31 gd), (w8, eO 6 [.ref w9, .ref wa, .ref wb, .int (nI L1.length), .int (b2i of1)]), (w9, eI (gI G) 20 g1), (wa, eI (gI G) 20 g2), (wb, eI (gI G) 20 g3)]) hnd 0 rfl)⟩, hxd, hdz⟩
theorem cS.len {G : Gx} {V : Vw} {x dy sz : Nat} {Q : Nat → Option PcR} {B S : Nat → Option (Nat × Nat)} {L : List Tri} {t : Nat → Nat} {n : Nat} {wr : Int32} {F : List Two} {PB : List Nat} (h : cS G V x dy sz Q B S L t n wr F PB) : L.length ≤ 20 ∧ n ≤ 400 ∧ F.length ≤ 250 ∧ PB.length ≤ 4880 := by
  refine cS.elim h ?_
  intro rd tp ck kk kn pr bs tw ps bl b1 b2 sn s1 s2 tu af ao a3 w0 w1 w2 w3 w4 w5 w6 w7 w8 w9 wa wb p f fk fn fo pf gp fb fc fs fd gb gc gs gd fr ov tt g1 g2 g3 L1 of of1 hnd hblk hxd hdz hVV hB hSb hSs hO hL hT h4 hp4 hck hF hpr hPB
  exact ⟨hL, h4, hF, hPB⟩
