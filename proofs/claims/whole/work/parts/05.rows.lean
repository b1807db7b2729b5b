/-! rows with the result said; rows of arrays at a place that is a number -/
section E5
variable {p : Program} {l : Launch} {e : Env} {R : Room} {s : State} {m : MethodId} {args : Array Value} {below : List Frame} {meth : Method} {c : Code} {H : Heap} {locs : List Loc} {cells slots : Nat} {Q : State → Prop}
variable {cc : ByteArray} {pc : Nat} {ls : Array Slot} {rest : List Value} {G : Gx} {a lo : Nat} {V : Vw} {cs : va_W}
theorem e_iadd (hexec : p.tables.exec = Jvm.exec) (hb : c.code = cc) {x y v : Int32} (hdg : decode cc pc = .ok (.iadd, 1)) (hv : x + y = v) (k : W p l e R s m args below meth c H locs cells slots Q (F0 m (pc + 1) ls (.int v :: rest))) : W p l e R s m args below meth c H locs cells slots Q (F0 m pc ls (.int y :: .int x :: rest)) := lv_iadd hexec hb hdg (by rw [hv]; exact k)
theorem e_isub (hexec : p.tables.exec = Jvm.exec) (hb : c.code = cc) {x y v : Int32} (hdg : decode cc pc = .ok (.isub, 1)) (hv : x - y = v) (k : W p l e R s m args below meth c H locs cells slots Q (F0 m (pc + 1) ls (.int v :: rest))) : W p l e R s m args below meth c H locs cells slots Q (F0 m pc ls (.int y :: .int x :: rest)) := lv_isub hexec hb hdg (by rw [hv]; exact k)
theorem e_imul (hexec : p.tables.exec = Jvm.exec) (hb : c.code = cc) {x y v : Int32} (hdg : decode cc pc = .ok (.imul, 1)) (hv : x * y = v) (k : W p l e R s m args below meth c H locs cells slots Q (F0 m (pc + 1) ls (.int v :: rest))) : W p l e R s m args below meth c H locs cells slots Q (F0 m pc ls (.int y :: .int x :: rest)) := lv_imul hexec hb hdg (by rw [hv]; exact k)
theorem e_iand (hexec : p.tables.exec = Jvm.exec) (hb : c.code = cc) {x y v : Int32} (hdg : decode cc pc = .ok (.iand, 1)) (hv : x &&& y = v) (k : W p l e R s m args below meth c H locs cells slots Q (F0 m (pc + 1) ls (.int v :: rest))) : W p l e R s m args below meth c H locs cells slots Q (F0 m pc ls (.int y :: .int x :: rest)) := lv_iand hexec hb hdg (by rw [hv]; exact k)
theorem e_ior (hexec : p.tables.exec = Jvm.exec) (hb : c.code = cc) {x y v : Int32} (hdg : decode cc pc = .ok (.ior, 1)) (hv : x ||| y = v) (k : W p l e R s m args below meth c H locs cells slots Q (F0 m (pc + 1) ls (.int v :: rest))) : W p l e R s m args below meth c H locs cells slots Q (F0 m pc ls (.int y :: .int x :: rest)) := lv_ior hexec hb hdg (by rw [hv]; exact k)
theorem e_ladd (hexec : p.tables.exec = Jvm.exec) (hb : c.code = cc) {x y v : Int64} (hdg : decode cc pc = .ok (.ladd, 1)) (hv : x + y = v) (k : W p l e R s m args below meth c H locs cells slots Q (F0 m (pc + 1) ls (.long v :: rest))) : W p l e R s m args below meth c H locs cells slots Q (F0 m pc ls (.long y :: .long x :: rest)) := lv_ladd hexec hb hdg (by rw [hv]; exact k)
theorem e_lsub (hexec : p.tables.exec = Jvm.exec) (hb : c.code = cc) {x y v : Int64} (hdg : decode cc pc = .ok (.lsub, 1)) (hv : x - y = v) (k : W p l e R s m args below meth c H locs cells slots Q (F0 m (pc + 1) ls (.long v :: rest))) : W p l e R s m args below meth c H locs cells slots Q (F0 m pc ls (.long y :: .long x :: rest)) := lv_lsub hexec hb hdg (by rw [hv]; exact k)
theorem e_land (hexec : p.tables.exec = Jvm.exec) (hb : c.code = cc) {x y v : Int64} (hdg : decode cc pc = .ok (.land, 1)) (hv : x &&& y = v) (k : W p l e R s m args below meth c H locs cells slots Q (F0 m (pc + 1) ls (.long v :: rest))) : W p l e R s m args below meth c H locs cells slots Q (F0 m pc ls (.long y :: .long x :: rest)) := lv_land hexec hb hdg (by rw [hv]; exact k)
theorem e_lor (hexec : p.tables.exec = Jvm.exec) (hb : c.code = cc) {x y v : Int64} (hdg : decode cc pc = .ok (.lor, 1)) (hv : x ||| y = v) (k : W p l e R s m args below meth c H locs cells slots Q (F0 m (pc + 1) ls (.long v :: rest))) : W p l e R s m args below meth c H locs cells slots Q (F0 m pc ls (.long y :: .long x :: rest)) := lv_lor hexec hb hdg (by rw [hv]; exact k)
theorem e_lxor (hexec : p.tables.exec = Jvm.exec) (hb : c.code = cc) {x y v : Int64} (hdg : decode cc pc = .ok (.lxor, 1)) (hv : x ^^^ y = v) (k : W p l e R s m args below meth c H locs cells slots Q (F0 m (pc + 1) ls (.long v :: rest))) : W p l e R s m args below meth c H locs cells slots Q (F0 m pc ls (.long y :: .long x :: rest)) := lv_lxor hexec hb hdg (by rw [hv]; exact k)
theorem e_idiv (hexec : p.tables.exec = Jvm.exec) (hb : c.code = cc) {x y v : Int32} (hdg : decode cc pc = .ok (.idiv, 1)) (hne : ¬ y = 0) (hv : x / y = v) (k : W p l e R s m args below meth c H locs cells slots Q (F0 m (pc + 1) ls (.int v :: rest))) : W p l e R s m args below meth c H locs cells slots Q (F0 m pc ls (.int y :: .int x :: rest)) := lv_idiv hexec hb hdg hne (by rw [hv]; exact k)
theorem e_irem (hexec : p.tables.exec = Jvm.exec) (hb : c.code = cc) {x y v : Int32} (hdg : decode cc pc = .ok (.irem, 1)) (hne : ¬ y = 0) (hv : x - x / y * y = v) (k : W p l e R s m args below meth c H locs cells slots Q (F0 m (pc + 1) ls (.int v :: rest))) : W p l e R s m args below meth c H locs cells slots Q (F0 m pc ls (.int y :: .int x :: rest)) := lv_irem hexec hb hdg hne (by rw [hv]; exact k)
theorem u_ialdN (hexec : p.tables.exec = Jvm.exec) (hb : c.code = cc) (hK : gK G lo s) (hV : vS G.1 cls lo s H locs (vU V cs)) (hn : vN cs) (q0 : Nat) {n : Nat} {f : Nat → Int32} (ha : cs[q0]? = some (a, eI (gI G) n f)) {j : Nat} (hj : j < n) (hN : n < 2 ^ 31) (hdg : decode cc pc = .ok (.iaload, 1))
    (kk : W p l e R s m args below meth c H locs cells slots Q (F0 m (pc + 1) ls (.int (f j) :: rest))) : W p l e R s m args below meth c H locs cells slots Q (F0 m pc ls (.int (nI j) :: .ref a :: rest)) := by
  refine u_iald hexec hb hK hV hn q0 ha (vp_in_nI hj hN) hdg ?_
  rw [nI_clamp (Nat.lt_trans hj hN)]
  exact kk
theorem u_baldN (hexec : p.tables.exec = Jvm.exec) (hb : c.code = cc) (hK : gK G lo s) (hV : vS G.1 cls lo s H locs (vU V cs)) (hn : vN cs) (q0 : Nat) {n : Nat} {f : Nat → Int32} (ha : cs[q0]? = some (a, eI (gB G) n f)) {j : Nat} (hj : j < n) (hN : n < 2 ^ 31) (hdg : decode cc pc = .ok (.baload, 1))
    (kk : W p l e R s m args below meth c H locs cells slots Q (F0 m (pc + 1) ls (.int (f j) :: rest))) : W p l e R s m args below meth c H locs cells slots Q (F0 m pc ls (.int (nI j) :: .ref a :: rest)) := by
  refine u_bald hexec hb hK hV hn q0 ha (vp_in_nI hj hN) hdg ?_
  rw [nI_clamp (Nat.lt_trans hj hN)]
  exact kk
theorem u_zaldN (hexec : p.tables.exec = Jvm.exec) (hb : c.code = cc) (hK : gK G lo s) (hV : vS G.1 cls lo s H locs (vU V cs)) (hn : vN cs) (q0 : Nat) {n : Nat} {f : Nat → Int32} (ha : cs[q0]? = some (a, eI (gZ G) n f)) {j : Nat} (hj : j < n) (hN : n < 2 ^ 31) (hdg : decode cc pc = .ok (.baload, 1))
    (kk : W p l e R s m args below meth c H locs cells slots Q (F0 m (pc + 1) ls (.int (f j) :: rest))) : W p l e R s m args below meth c H locs cells slots Q (F0 m pc ls (.int (nI j) :: .ref a :: rest)) := by
  refine u_zald hexec hb hK hV hn q0 ha (vp_in_nI hj hN) hdg ?_
  rw [nI_clamp (Nat.lt_trans hj hN)]
  exact kk
theorem u_laldN (hexec : p.tables.exec = Jvm.exec) (hb : c.code = cc) (hK : gK G lo s) (hV : vS G.1 cls lo s H locs (vU V cs)) (hn : vN cs) (q0 : Nat) {n : Nat} {f : Nat → Int64} (ha : cs[q0]? = some (a, eL (gL G) n f)) {j : Nat} (hj : j < n) (hN : n < 2 ^ 31) (hdg : decode cc pc = .ok (.laload, 1))
    (kk : W p l e R s m args below meth c H locs cells slots Q (F0 m (pc + 1) ls (.long (f j) :: rest))) : W p l e R s m args below meth c H locs cells slots Q (F0 m pc ls (.int (nI j) :: .ref a :: rest)) := by
  refine u_lald hexec hb hK hV hn q0 ha (vp_in_nI hj hN) hdg ?_
  rw [nI_clamp (Nat.lt_trans hj hN)]
  exact kk
theorem u_aaldN (hexec : p.tables.exec = Jvm.exec) (hb : c.code = cc) (hK : gK G lo s) (hV : vS G.1 cls lo s H locs (vU V cs)) (hn : vN cs) (q0 : Nat) {n : Nat} {f : Nat → Option Nat} (ha : cs[q0]? = some (a, eQ (gP G) n f)) {j : Nat} (hj : j < n) (hN : n < 2 ^ 31) (hdg : decode cc pc = .ok (.aaload, 1))
    (kk : W p l e R s m args below meth c H locs cells slots Q (F0 m (pc + 1) ls (va_rf (f j) :: rest))) : W p l e R s m args below meth c H locs cells slots Q (F0 m pc ls (.int (nI j) :: .ref a :: rest)) := by
  refine u_aald hexec hb hK hV hn q0 ha (vp_in_nI hj hN) hdg ?_
  rw [nI_clamp (Nat.lt_trans hj hN)]
  exact kk
theorem u_iastN (hexec : p.tables.exec = Jvm.exec) (hb : c.code = cc) (hK : gK G lo s) (hV : vS G.1 cls lo s H locs (vU V cs)) (hn : vN cs) (q0 : Nat) {n : Nat} {f : Nat → Int32} (ha : cs[q0]? = some (a, eI (gI G) n f)) {x : Int32} {j : Nat} (hj : j < n) (hN : n < 2 ^ 31) (hdg : decode cc pc = .ok (.iastore, 1))
    (kk : ∀ (H1 : Heap) (locs1 : List Loc), vS G.1 cls lo s H1 locs1 (vU V (cs.set q0 (a, eI (gI G) n (upd f j x)))) → H1.size = H.size → W p l e R s m args below meth c H1 locs1 cells slots Q (F0 m (pc + 1) ls rest)) : W p l e R s m args below meth c H locs cells slots Q (F0 m pc ls (.int x :: .int (nI j) :: .ref a :: rest)) := by
  refine u_iast hexec hb hK hV hn q0 ha (vp_in_nI hj hN) hdg (fun H1 locs1 h z => kk H1 locs1 ?_ z)
  rw [nI_clamp (Nat.lt_trans hj hN)] at h
  exact h
theorem u_bastN (hexec : p.tables.exec = Jvm.exec) (hb : c.code = cc) (hK : gK G lo s) (hV : vS G.1 cls lo s H locs (vU V cs)) (hn : vN cs) (q0 : Nat) {n : Nat} {f : Nat → Int32} (ha : cs[q0]? = some (a, eI (gB G) n f)) {x : Int32} {j : Nat} (hj : j < n) (hN : n < 2 ^ 31) (hdg : decode cc pc = .ok (.bastore, 1))
    (kk : ∀ (H1 : Heap) (locs1 : List Loc), vS G.1 cls lo s H1 locs1 (vU V (cs.set q0 (a, eI (gB G) n (upd f j (vp_nar .byte x))))) → H1.size = H.size → W p l e R s m args below meth c H1 locs1 cells slots Q (F0 m (pc + 1) ls rest)) : W p l e R s m args below meth c H locs cells slots Q (F0 m pc ls (.int x :: .int (nI j) :: .ref a :: rest)) := by
  refine u_bast hexec hb hK hV hn q0 ha (vp_in_nI hj hN) hdg (fun H1 locs1 h z => kk H1 locs1 ?_ z)
  rw [nI_clamp (Nat.lt_trans hj hN)] at h
  exact h
theorem u_zastN (hexec : p.tables.exec = Jvm.exec) (hb : c.code = cc) (hK : gK G lo s) (hV : vS G.1 cls lo s H locs (vU V cs)) (hn : vN cs) (q0 : Nat) {n : Nat} {f : Nat → Int32} (ha : cs[q0]? = some (a, eI (gZ G) n f)) {x : Int32} {j : Nat} (hj : j < n) (hN : n < 2 ^ 31) (hdg : decode cc pc = .ok (.bastore, 1))
    (kk : ∀ (H1 : Heap) (locs1 : List Loc), vS G.1 cls lo s H1 locs1 (vU V (cs.set q0 (a, eI (gZ G) n (upd f j (vp_nar .boolean x))))) → H1.size = H.size → W p l e R s m args below meth c H1 locs1 cells slots Q (F0 m (pc + 1) ls rest)) : W p l e R s m args below meth c H locs cells slots Q (F0 m pc ls (.int x :: .int (nI j) :: .ref a :: rest)) := by
  refine u_zast hexec hb hK hV hn q0 ha (vp_in_nI hj hN) hdg (fun H1 locs1 h z => kk H1 locs1 ?_ z)
  rw [nI_clamp (Nat.lt_trans hj hN)] at h
  exact h
theorem u_lastN (hexec : p.tables.exec = Jvm.exec) (hb : c.code = cc) (hK : gK G lo s) (hV : vS G.1 cls lo s H locs (vU V cs)) (hn : vN cs) (q0 : Nat) {n : Nat} {f : Nat → Int64} (ha : cs[q0]? = some (a, eL (gL G) n f)) {x : Int64} {j : Nat} (hj : j < n) (hN : n < 2 ^ 31) (hdg : decode cc pc = .ok (.lastore, 1))
    (kk : ∀ (H1 : Heap) (locs1 : List Loc), vS G.1 cls lo s H1 locs1 (vU V (cs.set q0 (a, eL (gL G) n (vp_updL f j x)))) → H1.size = H.size → W p l e R s m args below meth c H1 locs1 cells slots Q (F0 m (pc + 1) ls rest)) : W p l e R s m args below meth c H locs cells slots Q (F0 m pc ls (.long x :: .int (nI j) :: .ref a :: rest)) := by
  refine u_last hexec hb hK hV hn q0 ha (vp_in_nI hj hN) hdg (fun H1 locs1 h z => kk H1 locs1 ?_ z)
  rw [nI_clamp (Nat.lt_trans hj hN)] at h
  exact h
theorem u_aastR (hexec : p.tables.exec = Jvm.exec) (hb : c.code = cc) (hK : gK G lo s) (hV : vS G.1 cls lo s H locs (vU V cs)) (hn : vN cs) (q0 : Nat) {n : Nat} {f : Nat → Option Nat} (ha : cs[q0]? = some (a, eQ (gP G) n f)) {v : Nat} {vs : List Value} (qk : Nat) (hv : cs[qk]? = some (v, eO 1 vs)) {j : Nat} (hj : j < n) (hN : n < 2 ^ 31) (hdg : decode cc pc = .ok (.aastore, 1))
    (kk : ∀ (H1 : Heap) (locs1 : List Loc), vS G.1 cls lo s H1 locs1 (vU V (cs.set q0 (a, eQ (gP G) n (va_up f j (some v))))) → H1.size = H.size → W p l e R s m args below meth c H1 locs1 cells slots Q (F0 m (pc + 1) ls rest)) : W p l e R s m args below meth c H locs cells slots Q (F0 m pc ls (.ref v :: .int (nI j) :: .ref a :: rest)) := by
  refine u_aast hexec hb hK hV hn q0 ha qk hv (vp_in_nI hj hN) hdg (fun H1 locs1 h z => kk H1 locs1 ?_ z)
  rw [nI_clamp (Nat.lt_trans hj hN)] at h
  exact h
theorem u_aastZ (hexec : p.tables.exec = Jvm.exec) (hb : c.code = cc) (hK : gK G lo s) (hV : vS G.1 cls lo s H locs (vU V cs)) (hn : vN cs) (q0 : Nat) {n : Nat} {f : Nat → Option Nat} (ha : cs[q0]? = some (a, eQ (gP G) n f)) {j : Nat} (hj : j < n) (hN : n < 2 ^ 31) (hdg : decode cc pc = .ok (.aastore, 1))
    (kk : ∀ (H1 : Heap) (locs1 : List Loc), vS G.1 cls lo s H1 locs1 (vU V (cs.set q0 (a, eQ (gP G) n (va_up f j none)))) → H1.size = H.size → W p l e R s m args below meth c H1 locs1 cells slots Q (F0 m (pc + 1) ls rest)) : W p l e R s m args below meth c H locs cells slots Q (F0 m pc ls (.null :: .int (nI j) :: .ref a :: rest)) := by
  refine u_aastN hexec hb hK hV hn q0 ha (vp_in_nI hj hN) hdg (fun H1 locs1 h z => kk H1 locs1 ?_ z)
  rw [nI_clamp (Nat.lt_trans hj hN)] at h
  exact h
end E5
/-- a number that lies between two others, as a Nat -/
theorem nI_bd {x : Int32} {a b : Nat} (hb : b < 2 ^ 31) (h1 : ¬ x < nI a) (h2 : ¬ nI b < x) (ha : a < 2 ^ 31) : ∃ j : Nat, a ≤ j ∧ j ≤ b ∧ x = nI j := by
  have h3 : nI a ≤ x := Int32.not_lt.mp h1
  have h4 : x ≤ nI b := Int32.not_lt.mp h2
  rw [Int32.le_iff_toInt_le, nI_toInt ha] at h3
  rw [Int32.le_iff_toInt_le, nI_toInt hb] at h4
  have h5 : ¬ x < 0 := by
    rw [Int32.lt_iff_toInt_lt, Int32.toInt_zero]; omega
  obtain ⟨j, hj, rfl⟩ := nI_of h5
  rw [nI_toInt hj] at h3 h4
  exact ⟨j, by omega, by omega, rfl⟩
theorem nI_off {j a b : Nat} (ha : a < 2 ^ 31) (hj : j < 2 ^ 31) (h : nI j < nI a) : j < a := (nI_ltI hj ha).mp h
section U5
variable {s : State} {H : Heap} {locs : List Loc} {G : Gx} {a lo : Nat} {V : Vw} {CS cs : va_W}
theorem u_preS {As : List Value} (hK : gK G lo s) (hV : vS G.1 cls lo s H locs (vU V CS)) (hn : vN CS) (is : List Nat) (hs : is.map (fun i => CS[i]?) = cs.map some) {sz : Nat} (hz : H.size = sz) : PreS s H (vPre G lo As (vU (vU V CS) cs) sz) As := v_preS hK hV (vU_sub hn is hs) hz
theorem u_preV {As : List Value} {ci : Nat} {fs : List Value} {q : vw_C} (hK : gK G lo s) (hV : vS G.1 cls lo s H locs (vU V CS)) (hn : vN CS) (is : List Nat) (hs : is.map (fun i => CS[i]?) = cs.map some) {sz : Nat} (hz : H.size = sz) (q0 : Nat) (ha : CS[q0]? = some (a, eO ci fs)) (hc : cls[ci]? = some q) : PreV s H q.1 a (vPre G lo (.ref a :: As) (vU (vU V CS) cs) sz) As := v_preV hK hV (vU_sub hn is hs) hz (vU_at hn q0 ha) hc
theorem u_back (hV : vS G.1 cls lo s H locs (vU (vU V CS) cs)) (hn : vN CS) (is : List Nat) (h : is.map (fun i => (CS.map Prod.fst)[i]?) = cs.map (fun x => some x.1)) : vS G.1 cls lo s H locs (vU V (vR CS is cs)) := by
  rw [vU_back hn is h] at hV
  exact hV
theorem vU_app (W : Vw) : ∀ (ns ds : va_W), vU W (ns ++ ds) = vU (vU W ds) ns
  | [], _ => rfl
  | x :: ns, ds => by
    show va_up (vU W (ns ++ ds)) x.1 (some x.2) = va_up (vU (vU W ds) ns) x.1 (some x.2)
    rw [vU_app W ns ds]
theorem u_backN {LL : va_W} (k : Nat) (hV : vS G.1 cls lo s H locs (vU (vU V CS) LL)) (hn : vN CS) (is : List Nat) (h : is.map (fun i => (CS.map Prod.fst)[i]?) = (LL.drop k).map (fun x => some x.1)) : vS G.1 cls lo s H locs (vU V (LL.take k ++ vR CS is (LL.drop k))) := by
  rw [← List.take_append_drop k LL, vU_app, vU_back hn is h, ← vU_app] at hV
  exact hV
theorem vU_all {W : Vw} : ∀ {ds : va_W}, (∀ x ∈ ds, W x.1 = some x.2) → vU W ds = W
  | [], _ => rfl
  | x :: ds, h => by
    show va_up (vU W ds) x.1 (some x.2) = W
    rw [vU_all (fun y hy => h y (List.mem_cons_of_mem _ hy))]
    exact vup_id _ _ (h x List.mem_cons_self)
theorem vS_all {W : Vw} {ds : va_W} (h : ∀ x ∈ ds, W x.1 = some x.2) (hV : vS G.1 cls lo s H locs (vU W ds)) : vS G.1 cls lo s H locs W := by
  rw [vU_all h] at hV
  exact hV
theorem fa1 {W : Vw} {a : Nat} {e : va_E} (f1 : W a = some e) : ∀ x ∈ ([(a, e)] : va_W), W x.1 = some x.2 := by
  intro x hx
  rw [List.mem_singleton] at hx
  subst hx
  exact f1
theorem fa4 {W : Vw} {a b c d : Nat} {e1 e2 e3 e4 : va_E} (f1 : W a = some e1) (f2 : W b = some e2) (f3 : W c = some e3) (f4 : W d = some e4) : ∀ x ∈ ([(a, e1), (b, e2), (c, e3), (d, e4)] : va_W), W x.1 = some x.2 := by
  intro x hx
  simp only [List.mem_cons, List.not_mem_nil, or_false] at hx
  rcases hx with rfl | rfl | rfl | rfl
  · exact f1
  · exact f2
  · exact f3
  · exact f4
theorem uu_same (hV : vS G.1 cls lo s H locs (vU (vU V CS) cs)) (hn : vN CS) (is : List Nat) (h : is.map (fun i => CS[i]?) = cs.map some) : vS G.1 cls lo s H locs (vU V CS) := by
  rw [vU_sub hn is h] at hV
  exact hV
end U5
