set_option maxHeartbeats 4000000 in
set_option maxRecDepth 100000 in
/-- piece, over the class's state -/
theorem k_SG_piece (l : Launch) (hlT : l.stackTraces = false) (G : Gx) (lo : Nat) {V : Vw} {x dy sz : Nat} {Q : Nat → Option PcR} {B S : Nat → Option (Nat × Nat)} {L : List Tri} {t : Nat → Nat} {n : Nat} {wr : Int32} {F : List Two} {PB : List Nat} (hC : cS G V x dy sz Q B S L t n wr F PB) (v1 v2 : Int32) : xMet l y_SG_piece ws_SG_piece ({ frames := 6, cells := 1, slots := 6, locals := 130 } : Room) (vPre G lo [.ref x, .int v1, .int v2] V sz) (xEnd G lo (xP (vaI (pieR Q v1 v2)) (thI (pieR Q v1 v2)) (cF G V x dy sz Q B S L t n wr F PB)) (xT eIA eIO (thI (pieR Q v1 v2)) (cF G V x dy sz Q B S L t n wr F PB)) 1 6) := by
  refine cS.elim hC ?_
  intro rd tp ck kk kn pr bs tw ps bl b1 b2 sn s1 s2 tu af ao a3 w0 w1 w2 w3 w4 w5 w6 w7 w8 w9 wa wb p f fk fn fo pf gp fb fc fs fd gb gc gs gd fr ov tt g1 g2 g3 L1 of of1 hnd hblk hxd hdz hVV hB hSb hSs hO hL hT h4 hp4 hck hF hpr hPB
  have hdc : ∀ a ∈ [x, rd, tp, ck, kk, kn, pr, bs, tw, ps, bl, b1, b2, sn, s1, s2, tu, af, ao, a3, w0, w1, w2, w3, w4, w5, w6, w7, w8, w9, wa, wb], a < dy := fun a ha => by have := hblk a ha; omega
  have h := c_SG_piece l hlT G lo V sz x rd ck pr tw w0 wr ps bl sn tu pf Q dy (nd_sub hnd [0, 8, 9] (by decide) rfl) hB (cn_sub hdc [0, 8, 9] rfl) v1 v2
  rw [vU_pick (CS := [(x, eO 7 [.ref rd, .ref ck, .ref pr, .ref tw, .ref w0, .int wr]), (rd, eO 3 [.ref tp, .int (nI n), .int (nI p)]), (tp, eI (gB G) 400 f), (ck, eO 0 [.ref kk, .ref kn, .int (nI F.length)]), (kk, eI (gI G) 250 fk), (kn, eI (gI G) 250 fn), (pr, eO 2 [.ref bs, .int (nI PB.length)]), (bs, eI (gB G) 4880 fo), (tw, eO 5 [.ref ps, .ref bl, .ref sn, .ref tu]), (ps, eQ (gP G) 61 pf), (bl, eO 4 [.ref b1, .ref b2]), (b1, eI (gI G) 31 fb), (b2, eI (gI G) 31 fc), (sn, eO 4 [.ref s1, .ref s2]), (s1, eI (gI G) 31 fs), (s2, eI (gI G) 31 fd), (tu, eO 6 [.ref af, .ref ao, .ref a3, .int (nI L.length), .int (b2i of)]), (af, eI (gI G) 20 fr), (ao, eI (gI G) 20 ov), (a3, eI (gI G) 20 tt), (w0, eO 5 [.ref w1, .ref w2, .ref w5, .ref w8]), (w1, eQ (gP G) 61 gp), (w2, eO 4 [.ref w3, .ref w4]), (w3, eI (gI G) 31 gb), (w4, eI (gI G) 31 gc), (w5, eO 4 [.ref w6, .ref w7]), (w6, eI (gI G) 31 gs), (w7, eI (gI G) 31 gd), (w8, eO 6 [.ref w9, .ref wa, .ref wb, .int (nI L1.length), .int (b2i of1)]), (w9, eI (gI G) 20 g1), (wa, eI (gI G) 20 g2), (wb, eI (gI G) 20 g3)]) (cs := [(x, eO 7 [.ref rd, .ref ck, .ref pr, .ref tw, .ref w0, .int wr]), (tw, eO 5 [.ref ps, .ref bl, .ref sn, .ref tu]), (ps, eQ (gP G) 61 pf)]) hVV hnd [0, 8, 9] rfl] at h
  refine xMono h ?_ ?_
  · rintro r V' k ⟨v, rfl, h1, rfl, rfl⟩
    have h1 : pieR Q v1 v2 = .inr v := h1
    rw [h1]
    exact ⟨rfl, rfl, hC, fun _ _ _ => rfl, Nat.le_refl _⟩
  · rintro E V' k ⟨h1, rfl, rfl⟩
    exact ⟨xK_T h1, hC.mono (Nat.le_succ _), fun _ _ _ => rfl, Nat.le_succ _⟩

set_option maxHeartbeats 4000000 in
set_option maxRecDepth 100000 in
/-- speed, over the class's state -/
theorem k_SG_speed (l : Launch) (hlT : l.stackTraces = false) (G : Gx) (lo : Nat) {V : Vw} {x dy sz : Nat} {Q : Nat → Option PcR} {B S : Nat → Option (Nat × Nat)} {L : List Tri} {t : Nat → Nat} {n : Nat} {wr : Int32} {F : List Two} {PB : List Nat} (hC : cS G V x dy sz Q B S L t n wr F PB) (v1 v2 : Int32) : xMet l y_SG_speed ws_SG_speed ({ frames := 6, cells := 1, slots := 6, locals := 130 } : Room) (vPre G lo [.ref x, .int v1, .int v2] V sz) (xEnd G lo (xP (vaI (speR Q v1 v2)) (thI (speR Q v1 v2)) (cF G V x dy sz Q B S L t n wr F PB)) (xT eIA eIO (thI (speR Q v1 v2)) (cF G V x dy sz Q B S L t n wr F PB)) 1 6) := by
  refine cS.elim hC ?_
  intro rd tp ck kk kn pr bs tw ps bl b1 b2 sn s1 s2 tu af ao a3 w0 w1 w2 w3 w4 w5 w6 w7 w8 w9 wa wb p f fk fn fo pf gp fb fc fs fd gb gc gs gd fr ov tt g1 g2 g3 L1 of of1 hnd hblk hxd hdz hVV hB hSb hSs hO hL hT h4 hp4 hck hF hpr hPB
  have hdc : ∀ a ∈ [x, rd, tp, ck, kk, kn, pr, bs, tw, ps, bl, b1, b2, sn, s1, s2, tu, af, ao, a3, w0, w1, w2, w3, w4, w5, w6, w7, w8, w9, wa, wb], a < dy := fun a ha => by have := hblk a ha; omega
  have h := c_SG_speed l hlT G lo V sz x rd ck pr tw w0 wr ps bl sn tu pf Q dy (nd_sub hnd [0, 8, 9] (by decide) rfl) hB (cn_sub hdc [0, 8, 9] rfl) v1 v2
  rw [vU_pick (CS := [(x, eO 7 [.ref rd, .ref ck, .ref pr, .ref tw, .ref w0, .int wr]), (rd, eO 3 [.ref tp, .int (nI n), .int (nI p)]), (tp, eI (gB G) 400 f), (ck, eO 0 [.ref kk, .ref kn, .int (nI F.length)]), (kk, eI (gI G) 250 fk), (kn, eI (gI G) 250 fn), (pr, eO 2 [.ref bs, .int (nI PB.length)]), (bs, eI (gB G) 4880 fo), (tw, eO 5 [.ref ps, .ref bl, .ref sn, .ref tu]), (ps, eQ (gP G) 61 pf), (bl, eO 4 [.ref b1, .ref b2]), (b1, eI (gI G) 31 fb), (b2, eI (gI G) 31 fc), (sn, eO 4 [.ref s1, .ref s2]), (s1, eI (gI G) 31 fs), (s2, eI (gI G) 31 fd), (tu, eO 6 [.ref af, .ref ao, .ref a3, .int (nI L.length), .int (b2i of)]), (af, eI (gI G) 20 fr), (ao, eI (gI G) 20 ov), (a3, eI (gI G) 20 tt), (w0, eO 5 [.ref w1, .ref w2, .ref w5, .ref w8]), (w1, eQ (gP G) 61 gp), (w2, eO 4 [.ref w3, .ref w4]), (w3, eI (gI G) 31 gb), (w4, eI (gI G) 31 gc), (w5, eO 4 [.ref w6, .ref w7]), (w6, eI (gI G) 31 gs), (w7, eI (gI G) 31 gd), (w8, eO 6 [.ref w9, .ref wa, .ref wb, .int (nI L1.length), .int (b2i of1)]), (w9, eI (gI G) 20 g1), (wa, eI (gI G) 20 g2), (wb, eI (gI G) 20 g3)]) (cs := [(x, eO 7 [.ref rd, .ref ck, .ref pr, .ref tw, .ref w0, .int wr]), (tw, eO 5 [.ref ps, .ref bl, .ref sn, .ref tu]), (ps, eQ (gP G) 61 pf)]) hVV hnd [0, 8, 9] rfl] at h
  refine xMono h ?_ ?_
  · rintro r V' k ⟨v, rfl, h1, rfl, rfl⟩
    have h1 : speR Q v1 v2 = .inr v := h1
    rw [h1]
    exact ⟨rfl, rfl, hC, fun _ _ _ => rfl, Nat.le_refl _⟩
  · rintro E V' k ⟨h1, rfl, rfl⟩
    exact ⟨xK_T h1, hC.mono (Nat.le_succ _), fun _ _ _ => rfl, Nat.le_succ _⟩

set_option maxHeartbeats 4000000 in
set_option maxRecDepth 100000 in
/-- name, over the class's state -/
theorem k_SG_name (l : Launch) (hlT : l.stackTraces = false) (G : Gx) (lo : Nat) {V : Vw} {x dy sz : Nat} {Q : Nat → Option PcR} {B S : Nat → Option (Nat × Nat)} {L : List Tri} {t : Nat → Nat} {n : Nat} {wr : Int32} {F : List Two} {PB : List Nat} (hC : cS G V x dy sz Q B S L t n wr F PB) (v1 v2 : Int32) : xMet l y_SG_name ws_SG_name ({ frames := 6, cells := 1, slots := 6, locals := 130 } : Room) (vPre G lo [.ref x, .int v1, .int v2] V sz) (xEnd G lo (xP (vaI (nmeR Q v1 v2)) (thI (nmeR Q v1 v2)) (cF G V x dy sz Q B S L t n wr F PB)) (xT eIA eIO (thI (nmeR Q v1 v2)) (cF G V x dy sz Q B S L t n wr F PB)) 1 6) := by
  refine cS.elim hC ?_
  intro rd tp ck kk kn pr bs tw ps bl b1 b2 sn s1 s2 tu af ao a3 w0 w1 w2 w3 w4 w5 w6 w7 w8 w9 wa wb p f fk fn fo pf gp fb fc fs fd gb gc gs gd fr ov tt g1 g2 g3 L1 of of1 hnd hblk hxd hdz hVV hB hSb hSs hO hL hT h4 hp4 hck hF hpr hPB
  have hdc : ∀ a ∈ [x, rd, tp, ck, kk, kn, pr, bs, tw, ps, bl, b1, b2, sn, s1, s2, tu, af, ao, a3, w0, w1, w2, w3, w4, w5, w6, w7, w8, w9, wa, wb], a < dy := fun a ha => by have := hblk a ha; omega
  have h := c_SG_name l hlT G lo V sz x rd ck pr tw w0 wr ps bl sn tu pf Q dy (nd_sub hnd [0, 8, 9] (by decide) rfl) hB (cn_sub hdc [0, 8, 9] rfl) v1 v2
  rw [vU_pick (CS := [(x, eO 7 [.ref rd, .ref ck, .ref pr, .ref tw, .ref w0, .int wr]), (rd, eO 3 [.ref tp, .int (nI n), .int (nI p)]), (tp, eI (gB G) 400 f), (ck, eO 0 [.ref kk, .ref kn, .int (nI F.length)]), (kk, eI (gI G) 250 fk), (kn, eI (gI G) 250 fn), (pr, eO 2 [.ref bs, .int (nI PB.length)]), (bs, eI (gB G) 4880 fo), (tw, eO 5 [.ref ps, .ref bl, .ref sn, .ref tu]), (ps, eQ (gP G) 61 pf), (bl, eO 4 [.ref b1, .ref b2]), (b1, eI (gI G) 31 fb), (b2, eI (gI G) 31 fc), (sn, eO 4 [.ref s1, .ref s2]), (s1, eI (gI G) 31 fs), (s2, eI (gI G) 31 fd), (tu, eO 6 [.ref af, .ref ao, .ref a3, .int (nI L.length), .int (b2i of)]), (af, eI (gI G) 20 fr), (ao, eI (gI G) 20 ov), (a3, eI (gI G) 20 tt), (w0, eO 5 [.ref w1, .ref w2, .ref w5, .ref w8]), (w1, eQ (gP G) 61 gp), (w2, eO 4 [.ref w3, .ref w4]), (w3, eI (gI G) 31 gb), (w4, eI (gI G) 31 gc), (w5, eO 4 [.ref w6, .ref w7]), (w6, eI (gI G) 31 gs), (w7, eI (gI G) 31 gd), (w8, eO 6 [.ref w9, .ref wa, .ref wb, .int (nI L1.length), .int (b2i of1)]), (w9, eI (gI G) 20 g1), (wa, eI (gI G) 20 g2), (wb, eI (gI G) 20 g3)]) (cs := [(x, eO 7 [.ref rd, .ref ck, .ref pr, .ref tw, .ref w0, .int wr]), (tw, eO 5 [.ref ps, .ref bl, .ref sn, .ref tu]), (ps, eQ (gP G) 61 pf)]) hVV hnd [0, 8, 9] rfl] at h
  refine xMono h ?_ ?_
  · rintro r V' k ⟨v, rfl, h1, rfl, rfl⟩
    have h1 : nmeR Q v1 v2 = .inr v := h1
    rw [h1]
    exact ⟨rfl, rfl, hC, fun _ _ _ => rfl, Nat.le_refl _⟩
  · rintro E V' k ⟨h1, rfl, rfl⟩
    exact ⟨xK_T h1, hC.mono (Nat.le_succ _), fun _ _ _ => rfl, Nat.le_succ _⟩

set_option maxHeartbeats 4000000 in
set_option maxRecDepth 100000 in
/-- fault, over the class's state -/
theorem k_SG_fault (l : Launch) (hlT : l.stackTraces = false) (G : Gx) (lo : Nat) {V : Vw} {x dy sz : Nat} {Q : Nat → Option PcR} {B S : Nat → Option (Nat × Nat)} {L : List Tri} {t : Nat → Nat} {n : Nat} {wr : Int32} {F : List Two} {PB : List Nat} (hC : cS G V x dy sz Q B S L t n wr F PB) (v1 v2 : Int32) : xMet l y_SG_fault ws_SG_fault ({ frames := 6, cells := 1, slots := 6, locals := 130 } : Room) (vPre G lo [.ref x, .int v1, .int v2] V sz) (xEnd G lo (xP (vaI (fauR F v1 v2)) (thI (fauR F v1 v2)) (cF G V x dy sz Q B S L t n wr F PB)) (xT eIA eIO (thI (fauR F v1 v2)) (cF G V x dy sz Q B S L t n wr F PB)) 1 6) := by
  refine cS.elim hC ?_
  intro rd tp ck kk kn pr bs tw ps bl b1 b2 sn s1 s2 tu af ao a3 w0 w1 w2 w3 w4 w5 w6 w7 w8 w9 wa wb p f fk fn fo pf gp fb fc fs fd gb gc gs gd fr ov tt g1 g2 g3 L1 of of1 hnd hblk hxd hdz hVV hB hSb hSs hO hL hT h4 hp4 hck hF hpr hPB
  have hdc : ∀ a ∈ [x, rd, tp, ck, kk, kn, pr, bs, tw, ps, bl, b1, b2, sn, s1, s2, tu, af, ao, a3, w0, w1, w2, w3, w4, w5, w6, w7, w8, w9, wa, wb], a < dy := fun a ha => by have := hblk a ha; omega
  have h := c_SG_fault l hlT G lo V sz x rd ck pr tw w0 wr kk kn fk fn F (nd_sub hnd [0, 3, 4, 5] (by decide) rfl) hck hF v1 v2
  rw [vU_pick (CS := [(x, eO 7 [.ref rd, .ref ck, .ref pr, .ref tw, .ref w0, .int wr]), (rd, eO 3 [.ref tp, .int (nI n), .int (nI p)]), (tp, eI (gB G) 400 f), (ck, eO 0 [.ref kk, .ref kn, .int (nI F.length)]), (kk, eI (gI G) 250 fk), (kn, eI (gI G) 250 fn), (pr, eO 2 [.ref bs, .int (nI PB.length)]), (bs, eI (gB G) 4880 fo), (tw, eO 5 [.ref ps, .ref bl, .ref sn, .ref tu]), (ps, eQ (gP G) 61 pf), (bl, eO 4 [.ref b1, .ref b2]), (b1, eI (gI G) 31 fb), (b2, eI (gI G) 31 fc), (sn, eO 4 [.ref s1, .ref s2]), (s1, eI (gI G) 31 fs), (s2, eI (gI G) 31 fd), (tu, eO 6 [.ref af, .ref ao, .ref a3, .int (nI L.length), .int (b2i of)]), (af, eI (gI G) 20 fr), (ao, eI (gI G) 20 ov), (a3, eI (gI G) 20 tt), (w0, eO 5 [.ref w1, .ref w2, .ref w5, .ref w8]), (w1, eQ (gP G) 61 gp), (w2, eO 4 [.ref w3, .ref w4]), (w3, eI (gI G) 31 gb), (w4, eI (gI G) 31 gc), (w5, eO 4 [.ref w6, .ref w7]), (w6, eI (gI G) 31 gs), (w7, eI (gI G) 31 gd), (w8, eO 6 [.ref w9, .ref wa, .ref wb, .int (nI L1.length), .int (b2i of1)]), (w9, eI (gI G) 20 g1), (wa, eI (gI G) 20 g2), (wb, eI (gI G) 20 g3)]) (cs := [(x, eO 7 [.ref rd, .ref ck, .ref pr, .ref tw, .ref w0, .int wr]), (ck, eO 0 [.ref kk, .ref kn, .int (nI F.length)]), (kk, eI (gI G) 250 fk), (kn, eI (gI G) 250 fn)]) hVV hnd [0, 3, 4, 5] rfl] at h
  refine xMono h ?_ ?_
  · rintro r V' k ⟨v, rfl, h1, rfl, rfl⟩
    have h1 : fauR F v1 v2 = .inr v := h1
    rw [h1]
    exact ⟨rfl, rfl, hC, fun _ _ _ => rfl, Nat.le_refl _⟩
  · rintro E V' k ⟨h1, rfl, rfl⟩
    exact ⟨xK_T h1, hC.mono (Nat.le_succ _), fun _ _ _ => rfl, Nat.le_succ _⟩

set_option maxHeartbeats 4000000 in
set_option maxRecDepth 100000 in
/-- barred, over the class's state -/
theorem k_SG_barred (l : Launch) (hlT : l.stackTraces = false) (G : Gx) (lo : Nat) {V : Vw} {x dy sz : Nat} {Q : Nat → Option PcR} {B S : Nat → Option (Nat × Nat)} {L : List Tri} {t : Nat → Nat} {n : Nat} {wr : Int32} {F : List Two} {PB : List Nat} (hC : cS G V x dy sz Q B S L t n wr F PB) (v1 v2 v3 : Int32) : xMet l y_SG_barred ws_SG_barred ({ frames := 6, cells := 1, slots := 6, locals := 130 } : Room) (vPre G lo [.ref x, .int v1, .int v2, .int v3] V sz) (xEnd G lo (xP (b2i (vaB (barR L v1 v2 v3))) (thI (barR L v1 v2 v3)) (cF G V x dy sz Q B S L t n wr F PB)) (xT1 eIO (thI (barR L v1 v2 v3)) (cF G V x dy sz Q B S L t n wr F PB)) 1 6) := by
  refine cS.elim hC ?_
  intro rd tp ck kk kn pr bs tw ps bl b1 b2 sn s1 s2 tu af ao a3 w0 w1 w2 w3 w4 w5 w6 w7 w8 w9 wa wb p f fk fn fo pf gp fb fc fs fd gb gc gs gd fr ov tt g1 g2 g3 L1 of of1 hnd hblk hxd hdz hVV hB hSb hSs hO hL hT h4 hp4 hck hF hpr hPB
  have hdc : ∀ a ∈ [x, rd, tp, ck, kk, kn, pr, bs, tw, ps, bl, b1, b2, sn, s1, s2, tu, af, ao, a3, w0, w1, w2, w3, w4, w5, w6, w7, w8, w9, wa, wb], a < dy := fun a ha => by have := hblk a ha; omega
  have h := c_SG_barred l hlT G lo V sz x rd ck pr tw w0 wr ps bl sn tu af ao a3 fr ov tt L of (nd_sub hnd [0, 8, 16, 17, 18, 19] (by decide) rfl) hO hL v1 v2 v3
  rw [vU_pick (CS := [(x, eO 7 [.ref rd, .ref ck, .ref pr, .ref tw, .ref w0, .int wr]), (rd, eO 3 [.ref tp, .int (nI n), .int (nI p)]), (tp, eI (gB G) 400 f), (ck, eO 0 [.ref kk, .ref kn, .int (nI F.length)]), (kk, eI (gI G) 250 fk), (kn, eI (gI G) 250 fn), (pr, eO 2 [.ref bs, .int (nI PB.length)]), (bs, eI (gB G) 4880 fo), (tw, eO 5 [.ref ps, .ref bl, .ref sn, .ref tu]), (ps, eQ (gP G) 61 pf), (bl, eO 4 [.ref b1, .ref b2]), (b1, eI (gI G) 31 fb), (b2, eI (gI G) 31 fc), (sn, eO 4 [.ref s1, .ref s2]), (s1, eI (gI G) 31 fs), (s2, eI (gI G) 31 fd), (tu, eO 6 [.ref af, .ref ao, .ref a3, .int (nI L.length), .int (b2i of)]), (af, eI (gI G) 20 fr), (ao, eI (gI G) 20 ov), (a3, eI (gI G) 20 tt), (w0, eO 5 [.ref w1, .ref w2, .ref w5, .ref w8]), (w1, eQ (gP G) 61 gp), (w2, eO 4 [.ref w3, .ref w4]), (w3, eI (gI G) 31 gb), (w4, eI (gI G) 31 gc), (w5, eO 4 [.ref w6, .ref w7]), (w6, eI (gI G) 31 gs), (w7, eI (gI G) 31 gd), (w8, eO 6 [.ref w9, .ref wa, .ref wb, .int (nI L1.length), .int (b2i of1)]), (w9, eI (gI G) 20 g1), (wa, eI (gI G) 20 g2), (wb, eI (gI G) 20 g3)]) (cs := [(x, eO 7 [.ref rd, .ref ck, .ref pr, .ref tw, .ref w0, .int wr]), (tw, eO 5 [.ref ps, .ref bl, .ref sn, .ref tu]), (tu, eO 6 [.ref af, .ref ao, .ref a3, .int (nI L.length), .int (b2i of)]), (af, eI (gI G) 20 fr), (ao, eI (gI G) 20 ov), (a3, eI (gI G) 20 tt)]) hVV hnd [0, 8, 16, 17, 18, 19] rfl] at h
  refine xMono h ?_ ?_
  · rintro r V' k ⟨v, rfl, h1, rfl, rfl⟩
    have h1 : barR L v1 v2 v3 = .inr v := h1
    rw [h1]
    exact ⟨rfl, rfl, hC, fun _ _ _ => rfl, Nat.le_refl _⟩
  · rintro E V' k ⟨h1, rfl, rfl⟩
    exact ⟨⟨h1.1, thI_1 h1.2⟩, hC.mono (Nat.le_succ _), fun _ _ _ => rfl, Nat.le_succ _⟩

set_option maxHeartbeats 4000000 in
set_option maxRecDepth 100000 in
/-- spot, over the class's state -/
theorem k_SG_spot (l : Launch) (hlT : l.stackTraces = false) (G : Gx) (lo : Nat) {V : Vw} {x dy sz : Nat} {Q : Nat → Option PcR} {B S : Nat → Option (Nat × Nat)} {L : List Tri} {t : Nat → Nat} {n : Nat} {wr : Int32} {F : List Two} {PB : List Nat} (hC : cS G V x dy sz Q B S L t n wr F PB) (v1 v2 : Int32) : xMet l y_SG_spot ws_SG_spot ({ frames := 6, cells := 1, slots := 6, locals := 130 } : Room) (vPre G lo [.ref x, .int v1, .int v2] V sz) (xEnd G lo (xP (vaI (spoR (bsel v2 B S) v1)) (thI (spoR (bsel v2 B S) v1)) (cF G V x dy sz Q B S L t n wr F PB)) (xT1 eIA (thI (spoR (bsel v2 B S) v1)) (cF G V x dy sz Q B S L t n wr F PB)) 1 6) := by
  refine cS.elim hC ?_
  intro rd tp ck kk kn pr bs tw ps bl b1 b2 sn s1 s2 tu af ao a3 w0 w1 w2 w3 w4 w5 w6 w7 w8 w9 wa wb p f fk fn fo pf gp fb fc fs fd gb gc gs gd fr ov tt g1 g2 g3 L1 of of1 hnd hblk hxd hdz hVV hB hSb hSs hO hL hT h4 hp4 hck hF hpr hPB
  have hdc : ∀ a ∈ [x, rd, tp, ck, kk, kn, pr, bs, tw, ps, bl, b1, b2, sn, s1, s2, tu, af, ao, a3, w0, w1, w2, w3, w4, w5, w6, w7, w8, w9, wa, wb], a < dy := fun a ha => by have := hblk a ha; omega
  have h := c_SG_spot l hlT G lo V sz x rd ck pr tw w0 wr ps bl b1 b2 sn s1 s2 tu fb fc fs fd B S (nd_sub hnd [0, 8, 10, 11, 12, 13, 14, 15] (by decide) rfl) hSb hSs v1 v2
  rw [vU_pick (CS := [(x, eO 7 [.ref rd, .ref ck, .ref pr, .ref tw, .ref w0, .int wr]), (rd, eO 3 [.ref tp, .int (nI n), .int (nI p)]), (tp, eI (gB G) 400 f), (ck, eO 0 [.ref kk, .ref kn, .int (nI F.length)]), (kk, eI (gI G) 250 fk), (kn, eI (gI G) 250 fn), (pr, eO 2 [.ref bs, .int (nI PB.length)]), (bs, eI (gB G) 4880 fo), (tw, eO 5 [.ref ps, .ref bl, .ref sn, .ref tu]), (ps, eQ (gP G) 61 pf), (bl, eO 4 [.ref b1, .ref b2]), (b1, eI (gI G) 31 fb), (b2, eI (gI G) 31 fc), (sn, eO 4 [.ref s1, .ref s2]), (s1, eI (gI G) 31 fs), (s2, eI (gI G) 31 fd), (tu, eO 6 [.ref af, .ref ao, .ref a3, .int (nI L.length), .int (b2i of)]), (af, eI (gI G) 20 fr), (ao, eI (gI G) 20 ov), (a3, eI (gI G) 20 tt), (w0, eO 5 [.ref w1, .ref w2, .ref w5, .ref w8]), (w1, eQ (gP G) 61 gp), (w2, eO 4 [.ref w3, .ref w4]), (w3, eI (gI G) 31 gb), (w4, eI (gI G) 31 gc), (w5, eO 4 [.ref w6, .ref w7]), (w6, eI (gI G) 31 gs), (w7, eI (gI G) 31 gd), (w8, eO 6 [.ref w9, .ref wa, .ref wb, .int (nI L1.length), .int (b2i of1)]), (w9, eI (gI G) 20 g1), (wa, eI (gI G) 20 g2), (wb, eI (gI G) 20 g3)]) (cs := [(x, eO 7 [.ref rd, .ref ck, .ref pr, .ref tw, .ref w0, .int wr]), (tw, eO 5 [.ref ps, .ref bl, .ref sn, .ref tu]), (bl, eO 4 [.ref b1, .ref b2]), (b1, eI (gI G) 31 fb), (b2, eI (gI G) 31 fc), (sn, eO 4 [.ref s1, .ref s2]), (s1, eI (gI G) 31 fs), (s2, eI (gI G) 31 fd)]) hVV hnd [0, 8, 10, 11, 12, 13, 14, 15] rfl] at h
  refine xMono h ?_ ?_
  · rintro r V' k ⟨v, rfl, h1, rfl, rfl⟩
    have h1 : spoR (bsel v2 B S) v1 = .inr v := h1
    rw [h1]
    exact ⟨rfl, rfl, hC, fun _ _ _ => rfl, Nat.le_refl _⟩
  · rintro E V' k ⟨h1, rfl, rfl⟩
    exact ⟨⟨h1.1, thI_1 h1.2⟩, hC.mono (Nat.le_succ _), fun _ _ _ => rfl, Nat.le_succ _⟩

set_option maxHeartbeats 4000000 in
set_option maxRecDepth 100000 in
/-- along, over the class's state -/
theorem k_SG_along (l : Launch) (hlT : l.stackTraces = false) (G : Gx) (lo : Nat) {V : Vw} {x dy sz : Nat} {Q : Nat → Option PcR} {B S : Nat → Option (Nat × Nat)} {L : List Tri} {t : Nat → Nat} {n : Nat} {wr : Int32} {F : List Two} {PB : List Nat} (hC : cS G V x dy sz Q B S L t n wr F PB) (v1 v2 : Int32) : xMet l y_SG_along ws_SG_along ({ frames := 6, cells := 1, slots := 6, locals := 130 } : Room) (vPre G lo [.ref x, .int v1, .int v2] V sz) (xEnd G lo (xP (vaI (aloR (bsel v2 B S) v1)) (thI (aloR (bsel v2 B S) v1)) (cF G V x dy sz Q B S L t n wr F PB)) (xT1 eIA (thI (aloR (bsel v2 B S) v1)) (cF G V x dy sz Q B S L t n wr F PB)) 1 6) := by
  refine cS.elim hC ?_
  intro rd tp ck kk kn pr bs tw ps bl b1 b2 sn s1 s2 tu af ao a3 w0 w1 w2 w3 w4 w5 w6 w7 w8 w9 wa wb p f fk fn fo pf gp fb fc fs fd gb gc gs gd fr ov tt g1 g2 g3 L1 of of1 hnd hblk hxd hdz hVV hB hSb hSs hO hL hT h4 hp4 hck hF hpr hPB
  have hdc : ∀ a ∈ [x, rd, tp, ck, kk, kn, pr, bs, tw, ps, bl, b1, b2, sn, s1, s2, tu, af, ao, a3, w0, w1, w2, w3, w4, w5, w6, w7, w8, w9, wa, wb], a < dy := fun a ha => by have := hblk a ha; omega
  have h := c_SG_along l hlT G lo V sz x rd ck pr tw w0 wr ps bl b1 b2 sn s1 s2 tu fb fc fs fd B S (nd_sub hnd [0, 8, 10, 11, 12, 13, 14, 15] (by decide) rfl) hSb hSs v1 v2
  rw [vU_pick (CS := [(x, eO 7 [.ref rd, .ref ck, .ref pr, .ref tw, .ref w0, .int wr]), (rd, eO 3 [.ref tp, .int (nI n), .int (nI p)]), (tp, eI (gB G) 400 f), (ck, eO 0 [.ref kk, .ref kn, .int (nI F.length)]), (kk, eI (gI G) 250 fk), (kn, eI (gI G) 250 fn), (pr, eO 2 [.ref bs, .int (nI PB.length)]), (bs, eI (gB G) 4880 fo), (tw, eO 5 [.ref ps, .ref bl, .ref sn, .ref tu]), (ps, eQ (gP G) 61 pf), (bl, eO 4 [.ref b1, .ref b2]), (b1, eI (gI G) 31 fb), (b2, eI (gI G) 31 fc), (sn, eO 4 [.ref s1, .ref s2]), (s1, eI (gI G) 31 fs), (s2, eI (gI G) 31 fd), (tu, eO 6 [.ref af, .ref ao, .ref a3, .int (nI L.length), .int (b2i of)]), (af, eI (gI G) 20 fr), (ao, eI (gI G) 20 ov), (a3, eI (gI G) 20 tt), (w0, eO 5 [.ref w1, .ref w2, .ref w5, .ref w8]), (w1, eQ (gP G) 61 gp), (w2, eO 4 [.ref w3, .ref w4]), (w3, eI (gI G) 31 gb), (w4, eI (gI G) 31 gc), (w5, eO 4 [.ref w6, .ref w7]), (w6, eI (gI G) 31 gs), (w7, eI (gI G) 31 gd), (w8, eO 6 [.ref w9, .ref wa, .ref wb, .int (nI L1.length), .int (b2i of1)]), (w9, eI (gI G) 20 g1), (wa, eI (gI G) 20 g2), (wb, eI (gI G) 20 g3)]) (cs := [(x, eO 7 [.ref rd, .ref ck, .ref pr, .ref tw, .ref w0, .int wr]), (tw, eO 5 [.ref ps, .ref bl, .ref sn, .ref tu]), (bl, eO 4 [.ref b1, .ref b2]), (b1, eI (gI G) 31 fb), (b2, eI (gI G) 31 fc), (sn, eO 4 [.ref s1, .ref s2]), (s1, eI (gI G) 31 fs), (s2, eI (gI G) 31 fd)]) hVV hnd [0, 8, 10, 11, 12, 13, 14, 15] rfl] at h
  refine xMono h ?_ ?_
  · rintro r V' k ⟨v, rfl, h1, rfl, rfl⟩
    have h1 : aloR (bsel v2 B S) v1 = .inr v := h1
    rw [h1]
    exact ⟨rfl, rfl, hC, fun _ _ _ => rfl, Nat.le_refl _⟩
  · rintro E V' k ⟨h1, rfl, rfl⟩
    exact ⟨⟨h1.1, thI_1 h1.2⟩, hC.mono (Nat.le_succ _), fun _ _ _ => rfl, Nat.le_succ _⟩

set_option maxHeartbeats 4000000 in
set_option maxRecDepth 100000 in
/-- at, over the class's state -/
theorem k_SG_at (l : Launch) (hlT : l.stackTraces = false) (G : Gx) (lo : Nat) {V : Vw} {x dy sz : Nat} {Q : Nat → Option PcR} {B S : Nat → Option (Nat × Nat)} {L : List Tri} {t : Nat → Nat} {n : Nat} {wr : Int32} {F : List Two} {PB : List Nat} (hC : cS G V x dy sz Q B S L t n wr F PB) (v1 : Int32) : xMet l y_SG_at ws_SG_at ({ frames := 6, cells := 1, slots := 6, locals := 130 } : Room) (vPre G lo [.ref x, .int v1] V sz) (xEnd G lo (xP (vaI (atR PB v1)) (thI (atR PB v1)) (cF G V x dy sz Q B S L t n wr F PB)) (xT1 eIO (thI (atR PB v1)) (cF G V x dy sz Q B S L t n wr F PB)) 1 6) := by
  refine cS.elim hC ?_
  intro rd tp ck kk kn pr bs tw ps bl b1 b2 sn s1 s2 tu af ao a3 w0 w1 w2 w3 w4 w5 w6 w7 w8 w9 wa wb p f fk fn fo pf gp fb fc fs fd gb gc gs gd fr ov tt g1 g2 g3 L1 of of1 hnd hblk hxd hdz hVV hB hSb hSs hO hL hT h4 hp4 hck hF hpr hPB
  have hdc : ∀ a ∈ [x, rd, tp, ck, kk, kn, pr, bs, tw, ps, bl, b1, b2, sn, s1, s2, tu, af, ao, a3, w0, w1, w2, w3, w4, w5, w6, w7, w8, w9, wa, wb], a < dy := fun a ha => by have := hblk a ha; omega
  have h := c_SG_at l hlT G lo V sz x rd ck pr tw w0 wr bs fo PB (nd_sub hnd [0, 6, 7] (by decide) rfl) hpr hPB v1
  rw [vU_pick (CS := [(x, eO 7 [.ref rd, .ref ck, .ref pr, .ref tw, .ref w0, .int wr]), (rd, eO 3 [.ref tp, .int (nI n), .int (nI p)]), (tp, eI (gB G) 400 f), (ck, eO 0 [.ref kk, .ref kn, .int (nI F.length)]), (kk, eI (gI G) 250 fk), (kn, eI (gI G) 250 fn), (pr, eO 2 [.ref bs, .int (nI PB.length)]), (bs, eI (gB G) 4880 fo), (tw, eO 5 [.ref ps, .ref bl, .ref sn, .ref tu]), (ps, eQ (gP G) 61 pf), (bl, eO 4 [.ref b1, .ref b2]), (b1, eI (gI G) 31 fb), (b2, eI (gI G) 31 fc), (sn, eO 4 [.ref s1, .ref s2]), (s1, eI (gI G) 31 fs), (s2, eI (gI G) 31 fd), (tu, eO 6 [.ref af, .ref ao, .ref a3, .int (nI L.length), .int (b2i of)]), (af, eI (gI G) 20 fr), (ao, eI (gI G) 20 ov), (a3, eI (gI G) 20 tt), (w0, eO 5 [.ref w1, .ref w2, .ref w5, .ref w8]), (w1, eQ (gP G) 61 gp), (w2, eO 4 [.ref w3, .ref w4]), (w3, eI (gI G) 31 gb), (w4, eI (gI G) 31 gc), (w5, eO 4 [.ref w6, .ref w7]), (w6, eI (gI G) 31 gs), (w7, eI (gI G) 31 gd), (w8, eO 6 [.ref w9, .ref wa, .ref wb, .int (nI L1.length), .int (b2i of1)]), (w9, eI (gI G) 20 g1), (wa, eI (gI G) 20 g2), (wb, eI (gI G) 20 g3)]) (cs := [(x, eO 7 [.ref rd, .ref ck, .ref pr, .ref tw, .ref w0, .int wr]), (pr, eO 2 [.ref bs, .int (nI PB.length)]), (bs, eI (gB G) 4880 fo)]) hVV hnd [0, 6, 7] rfl] at h
  refine xMono h ?_ ?_
  · rintro r V' k ⟨v, rfl, h1, rfl, rfl⟩
    have h1 : atR PB v1 = .inr v := h1
    rw [h1]
    exact ⟨rfl, rfl, hC, fun _ _ _ => rfl, Nat.le_refl _⟩
  · rintro E V' k ⟨h1, rfl, rfl⟩
    exact ⟨⟨h1.1, thI_1 h1.2⟩, hC.mono (Nat.le_succ _), fun _ _ _ => rfl, Nat.le_succ _⟩

set_option maxHeartbeats 4000000 in
set_option maxRecDepth 100000 in
/-- count, over the class's state -/
theorem k_SG_count (l : Launch) (hlT : l.stackTraces = false) (G : Gx) (lo : Nat) {V : Vw} {x dy sz : Nat} {Q : Nat → Option PcR} {B S : Nat → Option (Nat × Nat)} {L : List Tri} {t : Nat → Nat} {n : Nat} {wr : Int32} {F : List Two} {PB : List Nat} (hC : cS G V x dy sz Q B S L t n wr F PB) (v1 : Int32) : xMet l y_SG_count ws_SG_count ({ frames := 6, cells := 1, slots := 6, locals := 130 } : Room) (vPre G lo [.ref x, .int v1] V sz) (xEnd G lo (xP (vaI (couR (Q, B, S, L) v1)) (thI (couR (Q, B, S, L) v1)) (cF G V x dy sz Q B S L t n wr F PB)) (xT1 eIO (thI (couR (Q, B, S, L) v1)) (cF G V x dy sz Q B S L t n wr F PB)) 1 6) := by
  refine cS.elim hC ?_
  intro rd tp ck kk kn pr bs tw ps bl b1 b2 sn s1 s2 tu af ao a3 w0 w1 w2 w3 w4 w5 w6 w7 w8 w9 wa wb p f fk fn fo pf gp fb fc fs fd gb gc gs gd fr ov tt g1 g2 g3 L1 of of1 hnd hblk hxd hdz hVV hB hSb hSs hO hL hT h4 hp4 hck hF hpr hPB
  have hdc : ∀ a ∈ [x, rd, tp, ck, kk, kn, pr, bs, tw, ps, bl, b1, b2, sn, s1, s2, tu, af, ao, a3, w0, w1, w2, w3, w4, w5, w6, w7, w8, w9, wa, wb], a < dy := fun a ha => by have := hblk a ha; omega
  have h := c_SG_count l hlT G lo V sz x rd ck pr tw w0 wr ps bl b1 b2 sn s1 s2 tu af ao a3 fb fc fs fd fr ov tt L of B S pf Q dy (nd_sub hnd [0, 8, 9, 10, 11, 12, 13, 14, 15, 16, 17, 18, 19] (by decide) rfl) hB (cn_sub hdc [0, 8, 9, 10, 11, 12, 13, 14, 15, 16, 17, 18, 19] rfl) hSb hSs v1
  rw [vU_pick (CS := [(x, eO 7 [.ref rd, .ref ck, .ref pr, .ref tw, .ref w0, .int wr]), (rd, eO 3 [.ref tp, .int (nI n), .int (nI p)]), (tp, eI (gB G) 400 f), (ck, eO 0 [.ref kk, .ref kn, .int (nI F.length)]), (kk, eI (gI G) 250 fk), (kn, eI (gI G) 250 fn), (pr, eO 2 [.ref bs, .int (nI PB.length)]), (bs, eI (gB G) 4880 fo), (tw, eO 5 [.ref ps, .ref bl, .ref sn, .ref tu]), (ps, eQ (gP G) 61 pf), (bl, eO 4 [.ref b1, .ref b2]), (b1, eI (gI G) 31 fb), (b2, eI (gI G) 31 fc), (sn, eO 4 [.ref s1, .ref s2]), (s1, eI (gI G) 31 fs), (s2, eI (gI G) 31 fd), (tu, eO 6 [.ref af, .ref ao, .ref a3, .int (nI L.length), .int (b2i of)]), (af, eI (gI G) 20 fr), (ao, eI (gI G) 20 ov), (a3, eI (gI G) 20 tt), (w0, eO 5 [.ref w1, .ref w2, .ref w5, .ref w8]), (w1, eQ (gP G) 61 gp), (w2, eO 4 [.ref w3, .ref w4]), (w3, eI (gI G) 31 gb), (w4, eI (gI G) 31 gc), (w5, eO 4 [.ref w6, .ref w7]), (w6, eI (gI G) 31 gs), (w7, eI (gI G) 31 gd), (w8, eO 6 [.ref w9, .ref wa, .ref wb, .int (nI L1.length), .int (b2i of1)]), (w9, eI (gI G) 20 g1), (wa, eI (gI G) 20 g2), (wb, eI (gI G) 20 g3)]) (cs := [(x, eO 7 [.ref rd, .ref ck, .ref pr, .ref tw, .ref w0, .int wr]), (tw, eO 5 [.ref ps, .ref bl, .ref sn, .ref tu]), (ps, eQ (gP G) 61 pf), (bl, eO 4 [.ref b1, .ref b2]), (b1, eI (gI G) 31 fb), (b2, eI (gI G) 31 fc), (sn, eO 4 [.ref s1, .ref s2]), (s1, eI (gI G) 31 fs), (s2, eI (gI G) 31 fd), (tu, eO 6 [.ref af, .ref ao, .ref a3, .int (nI L.length), .int (b2i of)]), (af, eI (gI G) 20 fr), (ao, eI (gI G) 20 ov), (a3, eI (gI G) 20 tt)]) hVV hnd [0, 8, 9, 10, 11, 12, 13, 14, 15, 16, 17, 18, 19] rfl] at h
  refine xMono h ?_ ?_
  · rintro r V' k ⟨v, rfl, h1, rfl, rfl⟩
    have h1 : couR (Q, B, S, L) v1 = .inr v := h1
    rw [h1]
    exact ⟨rfl, rfl, hC, fun _ _ _ => rfl, Nat.le_refl _⟩
  · rintro E V' k ⟨h1, rfl, rfl⟩
    exact ⟨⟨h1.1, thI_1 h1.2⟩, hC.mono (Nat.le_succ _), fun _ _ _ => rfl, Nat.le_succ _⟩
