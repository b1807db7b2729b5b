/-! WHAT HOLDS OF THE MACHINE ALL ALONG: classes and array classes, links to private constructors, Throwable's statics, texts -/
abbrev Gx : Type := va_G × (ClassId × ClassId × ClassId × ClassId × ClassId) × Nat × Nat
abbrev gI (G : Gx) : ClassId := G.2.1.1
abbrev gB (G : Gx) : ClassId := G.2.1.2.1
abbrev gL (G : Gx) : ClassId := G.2.1.2.2.1
abbrev gZ (G : Gx) : ClassId := G.2.1.2.2.2.1
abbrev gP (G : Gx) : ClassId := G.2.1.2.2.2.2
/-- where the text of the kinds lies, and its bytes -/
abbrev gK1 (G : Gx) : Nat := G.2.2.1
abbrev gK2 (G : Gx) : Nat := G.2.2.2
abbrev tysG (G : Gx) : List (ClassId × FieldType) := [(gI G, .int), (gB G, .byte), (gL G, .long), (gZ G, .boolean), (gP G, .object RPc)]
def nestW : List (String × Nat × MethodName × String) := [("StreetGraph", 9, ⟨"StreetGraph$Reader", "<init>", "()V"⟩, "StreetGraph"), ("StreetGraph", 18, ⟨"StreetGraph$Checker", "<init>", "()V"⟩, "StreetGraph"), ("StreetGraph", 25, ⟨"StreetGraph$Printer", "<init>", "()V"⟩, "StreetGraph"), ("StreetGraph", 32, ⟨"StreetGraph$Town", "<init>", "()V"⟩, "StreetGraph"), ("StreetGraph$Town", 19, ⟨"StreetGraph$Spots", "<init>", "()V"⟩, "StreetGraph"), ("StreetGraph$Town", 29, ⟨"StreetGraph$Turns", "<init>", "()V"⟩, "StreetGraph"), ("StreetGraph$Reader", 67, ⟨"StreetGraph$Piece", "<init>", "()V"⟩, "StreetGraph")]
def msgW : List (String × Nat × String) := [("StreetGraph", 46, "one to eight bytes"), ("StreetGraph", 57, "the tape is full"), ("StreetGraph", 77, "the text is wrong"), ("StreetGraph", 90, "too many barred turns"), ("StreetGraph", 101, "no such piece"), ("StreetGraph", 128, "no such what"), ("StreetGraph", 130, "no such hour"), ("StreetGraph", 136, "below 0"), ("StreetGraph", 145, "no such node"), ("StreetGraph", 165, "no such spot"), ("StreetGraph", 178, "no such fault")]
def kindB : Nat → Int32 := fun j => ([114, 98, 116, 102, 119] : List Int32).getD j 0
def gStr (lo : Nat) (aK aV : Nat) (U : State) (H : Heap) : Prop := vk_R RRd 109 "rbtfw" aK U ∧ vk_R RPr 105 "rbtfw" aK U ∧ va_O "java/lang/String" aK (vL lo) U H ∧ va_OF "java/lang/String" "coder" "B" (.int 0) aK (vL lo) U H ∧ va_OF "java/lang/String" "value" "[B" (.ref aV) aK (vL lo) U H ∧ va_T .byte aV 5 (fun j => .int (kindB j)) (vL lo) U H ∧ va_Z "java/lang/String" "COMPACT_STRINGS" "Z" (.int 1) (vL lo) U H ∧ va_Zq "jdk/internal/util/Preconditions" "SIOOBE_FORMATTER" "Ljava/util/function/BiFunction;" (vL lo) U H
/-- the words of throws and catches that a later state does not keep by itself: they hold as long as what lies below lo stays -/
def thrW : List Cond := [.isRef (.static Bundle.tN "UNASSIGNED_STACK" Bundle.steD), .isRef (.static Bundle.tN "SUPPRESSED_SENTINEL" Bundle.listD), .laysStatic Bundle.tN "UNASSIGNED_STACK" Bundle.steD, .laysStatic Bundle.tN "SUPPRESSED_SENTINEL" Bundle.listD,
  .declares (Bundle.initS "java/lang/RuntimeException"), .declares (Bundle.initS "java/lang/Exception"), .declares (Bundle.initS Bundle.tN),
  .castable "java/lang/IndexOutOfBoundsException" "java/lang/IndexOutOfBoundsException", .castable "java/lang/UnsupportedOperationException" "java/lang/UnsupportedOperationException", .castable "java/lang/IllegalStateException" "java/lang/IllegalStateException", .castable "java/lang/IllegalArgumentException" "java/lang/IllegalArgumentException",
  .not (.castable "java/lang/UnsupportedOperationException" "java/lang/IndexOutOfBoundsException"), .not (.castable "java/lang/UnsupportedOperationException" "java/lang/IllegalStateException"), .not (.castable "java/lang/IndexOutOfBoundsException" "java/lang/IllegalArgumentException")]
def gT (lo : Nat) (U : State) : Prop := ∀ U' : State, U.WarmedH U'.vm → (∀ a : Nat, a < U.heap.size → ¬ vL lo a → U'.heap[a]? = U.heap[a]?) → ∀ w ∈ thrW, ∀ av : Array Value, w.before av U' = true
theorem gT.moved {lo : Nat} {s U : State} (h : gT lo s) (hW : s.WarmedH U.vm) (hq : ∀ a : Nat, a < s.heap.size → ¬ vL lo a → U.heap[a]? = s.heap[a]?) : gT lo U := fun U' hW' hq' w hw av => by
  refine h U' (State.WarmedH.trans hW hW') (fun a h1 h2 => ?_) w hw av
  have e := hq a h1 h2
  have hl : a < U.heap.size := by
    rw [Array.getElem?_eq_getElem h1] at e
    exact (Array.getElem?_eq_some_iff.mp e).1
  exact (hq' a hl h2).trans e
def gK (G : Gx) (lo : Nat) (U : State) : Prop := va_K G.1 cls (tysG G) U ∧ (∀ w ∈ nestW, va_Nw (.methodLinkNest w.1 w.2.1 w.2.2.1 w.2.2.2) U) ∧ va_AO RPc U ∧ gT lo U ∧ (∀ w ∈ msgW, ∃ a, vk_R w.1 w.2.1 w.2.2 a U) ∧ gStr lo (gK1 G) (gK2 G) U U.heap
theorem gK.moved {G : Gx} {lo : Nat} {s U : State} (h : gK G lo s) (hW : s.WarmedH U.vm) (hq : ∀ a : Nat, a < s.heap.size → ¬ vL lo a → U.heap[a]? = s.heap[a]?) : gK G lo U := by
  obtain ⟨h1, h2, h3, h4, h6, k1, k2, k3, k4, k5, k6, k7, k8⟩ := h
  exact ⟨va_K.moved hW.alike h1, fun w hw => va_Nw.warmM hW (h2 w hw), va_AO.moved hW.alike h3, gT.moved h4 hW hq, fun w hw => (by obtain ⟨a, ha⟩ := h6 w hw; exact ⟨a, vk_R.warm hW ha⟩), vk_R.warm hW k1, vk_R.warm hW k2, va_O.kept (va_O.moved hW.alike k3) hq, va_OF.kept (va_OF.moved hW.alike k4) hq, va_OF.kept (va_OF.moved hW.alike k5) hq, va_T.kept (va_T.moved hW.alike k6) hq, va_Z.kept (va_Z.moved hW.alike k7) hq, va_Zq.kept (va_Zq.moved hW.alike k8) hq⟩

section UU
variable {p : Program} {l : Launch} {e : Env} {R : Room} {s : State} {m : MethodId} {args : Array Value} {below : List Frame} {meth : Method} {c : Code} {H : Heap} {locs : List Loc} {cells slots : Nat} {Q : State → Prop}
variable {cc : ByteArray} {pc : Nat} {ls : Array Slot} {rest : List Value} {G : Gx} {a lo : Nat} {V : Vw} {cs : va_W}
theorem u_get (hexec : p.tables.exec = Jvm.exec) (hb : c.code = cc) {own ref C : String} {T : u_T} {N ci index : Nat} (hts : ∀ w ∈ lwT, w.before args s = true) (hin : ∀ w ∈ u_ws C T N, w ∈ lwT) (hown : s.vm.findClass own = some m.cls) (hK : gK G lo s) (hV : vS G.1 cls lo s H locs (vU V cs)) (hn : vN cs) (q0 : Nat) {fs : List Value} (he : cs[q0]? = some (a, eO ci fs)) (hc : cls[ci]? = some (C, T, N)) (k : Nat) (hk : k < N) (hlink : Cond.fieldLink own index ref (T k).2.1 (T k).2.2.1 ∈ lwT) (hsame : (T k).1 = ref) {v : Value} (hv : fs[k]? = some v) (hdg : decode cc pc = .ok (.getfield index, 3))
    (kk : W p l e R s m args below meth c H locs cells slots Q (F0 m (pc + 3) ls (v :: rest))) : W p l e R s m args below meth c H locs cells slots Q (F0 m pc ls (.ref a :: rest)) :=
  v_get hexec hb hts hin hown hK.1 hV (vU_at hn q0 he) hc k hk (hts _ hlink) (fun x h => hsame ▸ h) hv hdg kk
theorem u_put (hexec : p.tables.exec = Jvm.exec) (hb : c.code = cc) {own ref C : String} {T : u_T} {N ci index : Nat} (hts : ∀ w ∈ lwT, w.before args s = true) (hin : ∀ w ∈ u_ws C T N, w ∈ lwT) (ty0 : Nat → FieldType) (hty : ∀ k, k < N → parseFieldDescriptor (T k).2.2.1 = some (ty0 k)) (hnm : ∀ a, a < N → ∀ b, b < N → a ≠ b → (T a).2.1 ≠ (T b).2.1) (hown : s.vm.findClass own = some m.cls) (hK : gK G lo s) (hV : vS G.1 cls lo s H locs (vU V cs)) (hn : vN cs) (q0 : Nat) {fs : List Value} (he : cs[q0]? = some (a, eO ci fs)) (hc : cls[ci]? = some (C, T, N)) (k : Nat) (hk : k < N) (hlink : Cond.fieldLink own index ref (T k).2.1 (T k).2.2.1 ∈ lwT) (hsame : (T k).1 = ref) (hfin : (T k).2.2.2 = false) {v : Value} (hn' : narrow (ty0 k) v = v) (hfit : fits (ty0 k) v = true) (hl : k < fs.length)
    (hdg : decode cc pc = .ok (.putfield index, 3)) (kk : ∀ (H1 : Heap) (locs1 : List Loc), vS G.1 cls lo s H1 locs1 (vU V (cs.set q0 (a, eO ci (fs.set k v)))) → H1.size = H.size → W p l e R s m args below meth c H1 locs1 cells slots Q (F0 m (pc + 3) ls rest)) : W p l e R s m args below meth c H locs cells slots Q (F0 m pc ls (v :: .ref a :: rest)) :=
  v_put hexec hb hts hin ty0 hty hnm hown hK.1 hV (vU_at hn q0 he) hc k hk (hts _ hlink) (fun x h => hsame ▸ h) hfin (hty k hk) hn' hfit hl hdg (fun H1 locs1 h z => kk H1 locs1 (by rw [vU_set hn q0 he] at h; exact h) z)
theorem u_putF (hexec : p.tables.exec = Jvm.exec) (hb : c.code = cc) {own ref C : String} {T : u_T} {N ci index : Nat} (hts : ∀ w ∈ lwT, w.before args s = true) (hin : ∀ w ∈ u_ws C T N, w ∈ lwT) (ty0 : Nat → FieldType) (hty : ∀ k, k < N → parseFieldDescriptor (T k).2.2.1 = some (ty0 k)) (hnm : ∀ a, a < N → ∀ b, b < N → a ≠ b → (T a).2.1 ≠ (T b).2.1) (hown : s.vm.findClass own = some m.cls) (hK : gK G lo s) (hV : vS G.1 cls lo s H locs (vU V cs)) (hn : vN cs) (q0 : Nat) {fs : List Value} (he : cs[q0]? = some (a, eO ci fs)) (hc : cls[ci]? = some (C, T, N)) (k : Nat) (hk : k < N) (hlink : Cond.fieldLink own index ref (T k).2.1 (T k).2.2.1 ∈ lwT) (hsame : (T k).1 = ref) (hfin : (T k).2.2.2 = true) (hin2 : meth.name = "<init>") (hdecl : (T k).1 = own) {v : Value} (hn' : narrow (ty0 k) v = v) (hfit : fits (ty0 k) v = true) (hl : k < fs.length)
    (hdg : decode cc pc = .ok (.putfield index, 3)) (kk : ∀ (H1 : Heap) (locs1 : List Loc), vS G.1 cls lo s H1 locs1 (vU V (cs.set q0 (a, eO ci (fs.set k v)))) → H1.size = H.size → W p l e R s m args below meth c H1 locs1 cells slots Q (F0 m (pc + 3) ls rest)) : W p l e R s m args below meth c H locs cells slots Q (F0 m pc ls (v :: .ref a :: rest)) :=
  v_putF hexec hb hts hin ty0 hty hnm hown hK.1 hV (vU_at hn q0 he) hc k hk (hts _ hlink) (fun x h => hsame ▸ h) hfin hin2 hdecl (hty k hk) hn' hfit hl hdg (fun H1 locs1 h z => kk H1 locs1 (by rw [vU_set hn q0 he] at h; exact h) z)
theorem u_iald (hexec : p.tables.exec = Jvm.exec) (hb : c.code = cc) (hK : gK G lo s) (hV : vS G.1 cls lo s H locs (vU V cs)) (hn : vN cs) (q0 : Nat) {n : Nat} {f : Nat → Int32} (ha : cs[q0]? = some (a, eI (gI G) n f)) {i : Int32} (hin : vp_in i n) (hdg : decode cc pc = .ok (.iaload, 1))
    (kk : W p l e R s m args below meth c H locs cells slots Q (F0 m (pc + 1) ls (.int (f i.toNatClampNeg) :: rest))) : W p l e R s m args below meth c H locs cells slots Q (F0 m pc ls (.int i :: .ref a :: rest)) :=
  v_iald hexec hb hK.1 hV 0 (vU_at hn q0 ha) rfl hin hdg kk
theorem u_bald (hexec : p.tables.exec = Jvm.exec) (hb : c.code = cc) (hK : gK G lo s) (hV : vS G.1 cls lo s H locs (vU V cs)) (hn : vN cs) (q0 : Nat) {n : Nat} {f : Nat → Int32} (ha : cs[q0]? = some (a, eI (gB G) n f)) {i : Int32} (hin : vp_in i n) (hdg : decode cc pc = .ok (.baload, 1))
    (kk : W p l e R s m args below meth c H locs cells slots Q (F0 m (pc + 1) ls (.int (f i.toNatClampNeg) :: rest))) : W p l e R s m args below meth c H locs cells slots Q (F0 m pc ls (.int i :: .ref a :: rest)) :=
  v_bald hexec hb hK.1 hV 1 (vU_at hn q0 ha) rfl hin hdg kk
theorem u_zald (hexec : p.tables.exec = Jvm.exec) (hb : c.code = cc) (hK : gK G lo s) (hV : vS G.1 cls lo s H locs (vU V cs)) (hn : vN cs) (q0 : Nat) {n : Nat} {f : Nat → Int32} (ha : cs[q0]? = some (a, eI (gZ G) n f)) {i : Int32} (hin : vp_in i n) (hdg : decode cc pc = .ok (.baload, 1))
    (kk : W p l e R s m args below meth c H locs cells slots Q (F0 m (pc + 1) ls (.int (f i.toNatClampNeg) :: rest))) : W p l e R s m args below meth c H locs cells slots Q (F0 m pc ls (.int i :: .ref a :: rest)) :=
  v_zald hexec hb hK.1 hV 3 (vU_at hn q0 ha) rfl hin hdg kk
theorem u_lald (hexec : p.tables.exec = Jvm.exec) (hb : c.code = cc) (hK : gK G lo s) (hV : vS G.1 cls lo s H locs (vU V cs)) (hn : vN cs) (q0 : Nat) {n : Nat} {f : Nat → Int64} (ha : cs[q0]? = some (a, eL (gL G) n f)) {i : Int32} (hin : vp_in i n) (hdg : decode cc pc = .ok (.laload, 1))
    (kk : W p l e R s m args below meth c H locs cells slots Q (F0 m (pc + 1) ls (.long (f i.toNatClampNeg) :: rest))) : W p l e R s m args below meth c H locs cells slots Q (F0 m pc ls (.int i :: .ref a :: rest)) :=
  v_lald hexec hb hK.1 hV 2 (vU_at hn q0 ha) rfl hin hdg kk
theorem u_aald (hexec : p.tables.exec = Jvm.exec) (hb : c.code = cc) (hK : gK G lo s) (hV : vS G.1 cls lo s H locs (vU V cs)) (hn : vN cs) (q0 : Nat) {n : Nat} {f : Nat → Option Nat} (ha : cs[q0]? = some (a, eQ (gP G) n f)) {i : Int32} (hin : vp_in i n) (hdg : decode cc pc = .ok (.aaload, 1))
    (kk : W p l e R s m args below meth c H locs cells slots Q (F0 m (pc + 1) ls (va_rf (f i.toNatClampNeg) :: rest))) : W p l e R s m args below meth c H locs cells slots Q (F0 m pc ls (.int i :: .ref a :: rest)) :=
  v_aald hexec hb hK.1 hV 4 (vU_at hn q0 ha) rfl hin hdg kk
theorem u_iast (hexec : p.tables.exec = Jvm.exec) (hb : c.code = cc) (hK : gK G lo s) (hV : vS G.1 cls lo s H locs (vU V cs)) (hn : vN cs) (q0 : Nat) {n : Nat} {f : Nat → Int32} (ha : cs[q0]? = some (a, eI (gI G) n f)) {i : Int32} {x : Int32} (hin : vp_in i n) (hdg : decode cc pc = .ok (.iastore, 1))
    (kk : ∀ (H1 : Heap) (locs1 : List Loc), vS G.1 cls lo s H1 locs1 (vU V (cs.set q0 (a, eI (gI G) n (upd f i.toNatClampNeg x)))) → H1.size = H.size → W p l e R s m args below meth c H1 locs1 cells slots Q (F0 m (pc + 1) ls rest)) : W p l e R s m args below meth c H locs cells slots Q (F0 m pc ls (.int x :: .int i :: .ref a :: rest)) :=
  v_iast hexec hb hK.1 hV 0 (vU_at hn q0 ha) rfl hin hdg (fun H1 locs1 h z => kk H1 locs1 (by rw [vU_set hn q0 ha] at h; exact h) z)
theorem u_bast (hexec : p.tables.exec = Jvm.exec) (hb : c.code = cc) (hK : gK G lo s) (hV : vS G.1 cls lo s H locs (vU V cs)) (hn : vN cs) (q0 : Nat) {n : Nat} {f : Nat → Int32} (ha : cs[q0]? = some (a, eI (gB G) n f)) {i : Int32} {x : Int32} (hin : vp_in i n) (hdg : decode cc pc = .ok (.bastore, 1))
    (kk : ∀ (H1 : Heap) (locs1 : List Loc), vS G.1 cls lo s H1 locs1 (vU V (cs.set q0 (a, eI (gB G) n (upd f i.toNatClampNeg (vp_nar .byte x))))) → H1.size = H.size → W p l e R s m args below meth c H1 locs1 cells slots Q (F0 m (pc + 1) ls rest)) : W p l e R s m args below meth c H locs cells slots Q (F0 m pc ls (.int x :: .int i :: .ref a :: rest)) :=
  v_bast hexec hb hK.1 hV 1 (vU_at hn q0 ha) rfl hin hdg (fun H1 locs1 h z => kk H1 locs1 (by rw [vU_set hn q0 ha] at h; exact h) z)
theorem u_zast (hexec : p.tables.exec = Jvm.exec) (hb : c.code = cc) (hK : gK G lo s) (hV : vS G.1 cls lo s H locs (vU V cs)) (hn : vN cs) (q0 : Nat) {n : Nat} {f : Nat → Int32} (ha : cs[q0]? = some (a, eI (gZ G) n f)) {i : Int32} {x : Int32} (hin : vp_in i n) (hdg : decode cc pc = .ok (.bastore, 1))
    (kk : ∀ (H1 : Heap) (locs1 : List Loc), vS G.1 cls lo s H1 locs1 (vU V (cs.set q0 (a, eI (gZ G) n (upd f i.toNatClampNeg (vp_nar .boolean x))))) → H1.size = H.size → W p l e R s m args below meth c H1 locs1 cells slots Q (F0 m (pc + 1) ls rest)) : W p l e R s m args below meth c H locs cells slots Q (F0 m pc ls (.int x :: .int i :: .ref a :: rest)) :=
  v_zast hexec hb hK.1 hV 3 (vU_at hn q0 ha) rfl hin hdg (fun H1 locs1 h z => kk H1 locs1 (by rw [vU_set hn q0 ha] at h; exact h) z)
theorem u_last (hexec : p.tables.exec = Jvm.exec) (hb : c.code = cc) (hK : gK G lo s) (hV : vS G.1 cls lo s H locs (vU V cs)) (hn : vN cs) (q0 : Nat) {n : Nat} {f : Nat → Int64} (ha : cs[q0]? = some (a, eL (gL G) n f)) {i : Int32} {x : Int64} (hin : vp_in i n) (hdg : decode cc pc = .ok (.lastore, 1))
    (kk : ∀ (H1 : Heap) (locs1 : List Loc), vS G.1 cls lo s H1 locs1 (vU V (cs.set q0 (a, eL (gL G) n (vp_updL f i.toNatClampNeg x)))) → H1.size = H.size → W p l e R s m args below meth c H1 locs1 cells slots Q (F0 m (pc + 1) ls rest)) : W p l e R s m args below meth c H locs cells slots Q (F0 m pc ls (.long x :: .int i :: .ref a :: rest)) :=
  v_last hexec hb hK.1 hV 2 (vU_at hn q0 ha) rfl hin hdg (fun H1 locs1 h z => kk H1 locs1 (by rw [vU_set hn q0 ha] at h; exact h) z)
theorem u_aast (hexec : p.tables.exec = Jvm.exec) (hb : c.code = cc) (hK : gK G lo s) (hV : vS G.1 cls lo s H locs (vU V cs)) (hn : vN cs) (q0 : Nat) {n : Nat} {f : Nat → Option Nat} (ha : cs[q0]? = some (a, eQ (gP G) n f)) {v : Nat} {vs : List Value} (qk : Nat) (hv : cs[qk]? = some (v, eO 1 vs)) {i : Int32} (hin : vp_in i n) (hdg : decode cc pc = .ok (.aastore, 1))
    (kk : ∀ (H1 : Heap) (locs1 : List Loc), vS G.1 cls lo s H1 locs1 (vU V (cs.set q0 (a, eQ (gP G) n (va_up f i.toNatClampNeg (some v))))) → H1.size = H.size → W p l e R s m args below meth c H1 locs1 cells slots Q (F0 m (pc + 1) ls rest)) : W p l e R s m args below meth c H locs cells slots Q (F0 m pc ls (.ref v :: .int i :: .ref a :: rest)) :=
  v_aast hexec hb hK.1 hV 4 1 (vU_at hn q0 ha) rfl (vU_at hn qk hv) rfl hin hdg (fun H1 locs1 h z => kk H1 locs1 (by rw [vU_set hn q0 ha] at h; exact h) z)
theorem u_aastN (hexec : p.tables.exec = Jvm.exec) (hb : c.code = cc) (hK : gK G lo s) (hV : vS G.1 cls lo s H locs (vU V cs)) (hn : vN cs) (q0 : Nat) {n : Nat} {f : Nat → Option Nat} (ha : cs[q0]? = some (a, eQ (gP G) n f)) {i : Int32} (hin : vp_in i n) (hdg : decode cc pc = .ok (.aastore, 1))
    (kk : ∀ (H1 : Heap) (locs1 : List Loc), vS G.1 cls lo s H1 locs1 (vU V (cs.set q0 (a, eQ (gP G) n (va_up f i.toNatClampNeg none)))) → H1.size = H.size → W p l e R s m args below meth c H1 locs1 cells slots Q (F0 m (pc + 1) ls rest)) : W p l e R s m args below meth c H locs cells slots Q (F0 m pc ls (.null :: .int i :: .ref a :: rest)) :=
  v_aastN hexec hb hK.1 hV 4 (vU_at hn q0 ha) rfl hin hdg (fun H1 locs1 h z => kk H1 locs1 (by rw [vU_set hn q0 ha] at h; exact h) z)
theorem u_newa (hexec : p.tables.exec = Jvm.exec) (hb : c.code = cc) (hts : ∀ w ∈ lwT, w.before args s = true) {atype : ArrayType} (harr : Cond.arrayClass (newarray.typeOf atype) ∈ lwT) {ty : FieldType} (hty : newarray.typeOf atype = ty) (hK : gK G lo s) (hV : vS G.1 cls lo s H locs (vU V cs)) (t0 : Nat) {cA : ClassId} (ht : (tysG G)[t0]? = some (cA, ty))
    {n : Int32} {N' : Nat} {a0 : vp_A} (ha : ∀ cA : ClassId, vp_cell cA a0 = arrV cA N' (fun _ => defaultValue ty)) (hn : ¬ n < 0) (hN : n.toNatClampNeg = N') (hbytes : N' * componentBytes ty ≤ 536870912) (hcells : cells + 1 ≤ R.cells) (hslots : slots + N' ≤ R.slots) (hdg : decode cc pc = .ok (.newarray atype, 2)) {h : Nat} (hh : H.size = h)
    (kk : ∀ (H1 : Heap), vS G.1 cls lo s H1 locs (vU V ((h, .inl (cA, a0)) :: cs)) → H1.size = h + 1 →
      W p l e R s m args below meth c H1 locs (cells + 1) (slots + N') Q (F0 m (pc + 2) ls (.ref h :: rest))) : W p l e R s m args below meth c H locs cells slots Q (F0 m pc ls (.int n :: rest)) :=
  v_newa hexec hb (hts _ harr) hty hK.1 hV t0 ht ha hn hN hbytes hcells hslots hdg hh kk
theorem u_new (hexec : p.tables.exec = Jvm.exec) (hb : c.code = cc) {own C : String} {T : u_T} {N ci index : Nat} (hts : ∀ w ∈ lwT, w.before args s = true) (hin : ∀ w ∈ u_ws C T N, w ∈ lwT) (ty : Nat → FieldType) (hty : ∀ k, k < N → parseFieldDescriptor (T k).2.2.1 = some (ty k)) (hown : s.vm.findClass own = some m.cls) (hcl : Cond.classLink own index C ∈ lwT) (hinst : Cond.instantiable C N ∈ lwT) (hini : Cond.initialized C ∈ lwT)
    (hK : gK G lo s) (hV : vS G.1 cls lo s H locs (vU V cs)) (hc : cls[ci]? = some (C, T, N)) {fs : List Value} (hfs : ∀ j, j < N → defaultValue (ty j) = vp_V fs j) (hcells : cells + 1 ≤ R.cells) (hslots : slots + N ≤ R.slots) (hdg : decode cc pc = .ok (.new index, 3)) {h : Nat} (hh : H.size = h)
    (kk : ∀ (H1 : Heap), vS G.1 cls lo s H1 locs (vU V ((h, eO ci fs) :: cs)) → H1.size = h + 1 →
      W p l e R s m args below meth c H1 locs (cells + 1) (slots + N) Q (F0 m (pc + 3) ls (.ref h :: rest))) : W p l e R s m args below meth c H locs cells slots Q (F0 m pc ls rest) :=
  v_new hexec hb hts hin ty hty hown (hts _ hcl) (hts _ hinst) (hts _ hini) hK.1 hV hc hfs hcells hslots hdg hh kk
theorem u_newq (hexec : p.tables.exec = Jvm.exec) (hb : c.code = cc) (hts : ∀ w ∈ lwT, w.before args s = true) {own : String} {index : Nat} (hown : s.vm.findClass own = some m.cls) (hclink : Cond.classLink own index RPc ∈ lwT) (hK : gK G lo s) (hV : vS G.1 cls lo s H locs (vU V cs))
    {n : Int32} {N' : Nat} (hn : ¬ n < 0) (hN : n.toNatClampNeg = N') (hbytes : N' * 4 ≤ 536870912) (hcells : cells + 1 ≤ R.cells) (hslots : slots + N' ≤ R.slots) (hdg : decode cc pc = .ok (.anewarray index, 3)) {h : Nat} (hh : H.size = h)
    (kk : ∀ (H1 : Heap), vS G.1 cls lo s H1 locs (vU V ((h, eQ (gP G) N' (fun _ => none)) :: cs)) → H1.size = h + 1 →
      W p l e R s m args below meth c H1 locs (cells + 1) (slots + N') Q (F0 m (pc + 3) ls (.ref h :: rest))) : W p l e R s m args below meth c H locs cells slots Q (F0 m pc ls (.int n :: rest)) :=
  v_newq hexec hb hown (hts _ hclink) hK.2.2.1 hK.1 hV 4 rfl hn hN hbytes hcells hslots hdg hh kk
end UU
/-! CONTRACTS by views: the start 'vPre', the end 'vPost' -/
def vPre (G : Gx) (lo : Nat) (av : List Value) (V : Vw) (sz : Nat) : Array Value → State → Prop := fun v U => v = av.toArray ∧ U.heap.size = sz ∧ vB G.1 cls lo U.heap V ∧ gK G lo U
def vPost (G : Gx) (lo : Nat) (post : Option Value → Vw → Nat → Prop) : Array Value → State → Outcome → State → Prop := fun _ st oc t => (∃ (r : Option Value) (V' : Vw), oc = .returned r ∧ post r V' t.heap.size ∧ vB G.1 cls lo t.heap V') ∧ va_F (vL lo) st t
theorem vPre.blind {G : Gx} {lo : Nat} {av : List Value} {V : Vw} {sz : Nat} : FrameBlind (vPre G lo av V sz) := fun a U g mk q => by
  obtain ⟨q0, q1, qP, qK⟩ := q
  exact ⟨q0, q1, qP, gK.moved (s := U) (U := U.calling g mk a) qK (State.WarmedH.refl U) (fun _ _ _ => rfl)⟩
/-- a method's contract from the walk of its body -/
theorem vMet {l : Launch} {y : MethodName} {cc : ByteArray} {maxL : Nat} {ret : Option FieldType} {R : String} {G : Gx} {lo sz mc ms : Nat} {V : Vw} {av : List Value} {post : Option Value → Vw → Nat → Prop} {rm : Room}
    (hy : plainName y.cls = true) (hR : y.cls = R) (hav : (lg_sl av).length ≤ maxL)
    (body : ∀ (p : Program) (e : Env) (s : State) (m : MethodId) (args : Array Value) (below : List Frame) (meth : Method) (c : Code), p.tables.exec = Jvm.exec → c.code = cc → meth.sig.returnType = ret → c.maxLocals = maxL → meth.locks = false → meth.name = y.name → (∀ w ∈ lwT, w.before args s = true) → s.vm.findClass R = some m.cls → gK G lo s → s.heap.size = sz → vS G.1 cls lo s s.heap [] V → ∀ ls : Array Slot, lv_has ls maxL (lv_args 0 av) →
      W p l e rm s m args below meth c s.heap [] 0 0 (MQ below (vPost G lo post) args s mc ms (vL lo)) (F0 m 0 ls [])) :
    Met l y (.code y cc maxL ret :: lwT) rm (vPre G lo av V sz) (vPost G lo post) mc ms (vL lo) := by
  refine Met.ofW (cc := cc) (maxL := maxL) (ret := ret) hy rfl ?_
  intro p e s m args below meth c s₁ B hml hv
  obtain ⟨rfl, hsz, hB, hK⟩ := hv
  have hts0 := atoms_spec (ws := Cond.code y cc maxL ret :: lwT) B.pre
  have hl := lv_entry av (n := maxL) hav
  rw [lg_entry_eq]
  exact body p e s m _ below meth c B.exec B.bytes B.returns hml B.notSynchronized (name_of_methodNamed B.named B.method).1 (fun w h => hts0 w (List.mem_cons_of_mem _ h)) (by rw [← hR]; exact findClass_of_methodNamed B.named) hK hsz (vS.entry hB) _ hl
section VV3
variable {p : Program} {l : Launch} {e : Env} {R : Room} {s : State} {m : MethodId} {args : Array Value} {below : List Frame} {meth : Method} {c : Code} {H : Heap} {locs : List Loc} {cells slots mc ms : Nat} {Q : State → Prop}
variable {cc : ByteArray} {pc : Nat} {ls : Array Slot} {rest st0 : List Value} {G : Gx} {a lo : Nat} {V : Vw} {a9 : Array Value}
/-- behind a call -/
theorem v_call {post : Option Value → Vw → Nat → Prop} (hr : va_Run p l e R s m args below meth c H locs cells slots mc ms (F0 m pc ls st0) rest (vPost G lo post a9) (vL lo)) (hV : vS G.1 cls lo s H locs V)
    (kk : ∀ (r : Option Value) (V' : Vw) (H1 : Heap) (locs1 : List Loc), post r V' H1.size → vS G.1 cls lo s H1 locs1 V' → H.size ≤ H1.size → W p l e R s m args below meth c H1 locs1 (cells + mc) (slots + ms) Q (F0 m (pc + 3) ls (r.toList ++ rest))) : W p l e R s m args below meth c H locs cells slots Q (F0 m pc ls st0) := by
  intro T hT X
  obtain ⟨v, st₀, t, T', L, h0, X', hL, e1, e2, ⟨⟨r, V', hv, hp, hb⟩, hz, hk⟩, st⟩ := hr T hT X
  cases hv
  rw [h0] at hz hk
  obtain ⟨hB, hS, hlo⟩ := hV
  obtain ⟨t2, a1, b1⟩ := kk v V' T'.heap (locs ++ L) (by rw [e1]; exact hp) ⟨by rw [e1]; exact hb, ⟨Nat.le_trans hS.1 (by rw [e1]; exact hz), fun q h1 h2 => by rw [e1, hk q (Nat.lt_of_lt_of_le h1 hS.1) h2]; exact hS.2.1 q h1 h2, fun q hq => by
      rcases List.mem_append.mp hq with h | h
      · exact hS.2.2 q h
      · exact hL q h⟩, hlo⟩ (by rw [e1]; exact hz) T' rfl X'
  exact ⟨t2, st t2 a1, b1⟩
/-- what a call's start wants: V' is the view that the callee speaks of -/
theorem v_preS {As : List Value} {V' : Vw} (hK : gK G lo s) (hV : vS G.1 cls lo s H locs V) (he : V' = V) {sz : Nat} (hz : H.size = sz) : PreS s H (vPre G lo As V' sz) As := ⟨vPre.blind, fun U hU hW => ⟨rfl, by rw [hU, hz], by rw [hU, he]; exact hV.1, gK.moved hK hW (fun q h1 h2 => by rw [hU]; exact hV.2.1.2.1 q h1 h2)⟩⟩
theorem v_preV {As : List Value} {V' : Vw} {ci : Nat} {fs : List Value} {q : vw_C} (hK : gK G lo s) (hV : vS G.1 cls lo s H locs V) (he : V' = V) {sz : Nat} (hz : H.size = sz) (ha : V a = some (eO ci fs)) (hc : cls[ci]? = some q) : PreV s H q.1 a (vPre G lo (.ref a :: As) V' sz) As := ⟨vPre.blind, va_recv hK.1 (hV.1.one ha) hc (q0 := 0) rfl, fun U hU hW => ⟨rfl, by rw [hU, hz], by rw [hU, he]; exact hV.1, gK.moved hK hW (fun q h1 h2 => by rw [hU]; exact hV.2.1.2.1 q h1 h2)⟩⟩
/-- a method's end -/
theorem v_end {post : Option Value → Vw → Nat → Prop} {as : Array Value} {r : Option Value} (hV : vS G.1 cls lo s H locs V) (hp : post r V H.size) : ∀ t : State, t.heap = H → s.WarmedH t.vm → vPost G lo post as s (.returned r) t := fun t ht _ => ⟨⟨r, V, rfl, by rw [ht]; exact hp, by rw [ht]; exact hV.1⟩, hV.2.1.F ht⟩
end VV3
/-- every good word list of ours is among every other's -/
theorem goodT {c1 c2 : Cond} (h : c2 ∈ lwT) : GoodIn (c1 :: lwT) (c2 :: lwT) := fun w hw => by
  have hm : w ∈ lwT := by
    rcases List.mem_cons.mp hw with rfl | h1
    · exact h
    · exact h1
  exact ⟨List.mem_cons_of_mem _ hm, good_of_word (lwT_good w hm)⟩
theorem goodL {c2 : Cond} (h : c2 ∈ lwT) : GoodIn lwT (c2 :: lwT) := fun w hw => by
  have hm : w ∈ lwT := by
    rcases List.mem_cons.mp hw with rfl | h1
    · exact h
    · exact h1
  exact ⟨hm, good_of_word (lwT_good w hm)⟩
section KW
variable {R : Room} {s : State} {args : Array Value} {y : MethodName} {bytes : ByteArray} {maxL : Nat} {ret : Option FieldType} {rm : Room} {mc ms index : Nat} {own C : String}
theorem kwB (n : Nat) (ht : ∀ w ∈ lwT, w.before args s = true) (hc : Cond.code y bytes maxL ret ∈ lwT) (hrc : rm.cells = mc) (hrs : rm.slots = ms) (hini : Cond.initialized y.cls ∈ lwT) (hl : Cond.methodLink own index y ∈ lwT)
    (hd : y.cls ≠ "java/lang/invoke/MethodHandle" ∧ y.cls ≠ "java/lang/invoke/VarHandle" ∧ (parseMethodDescriptor y.desc).map (fun d => d.parameters.length) = some n) (hR : rm.frames + 1 ≤ R.frames ∧ 8 + (maxL + 11) + rm.locals ≤ R.locals) :
    CallB R s args own index y bytes maxL ret (.code y bytes maxL ret :: lwT) rm mc ms n := callB_of n ht (goodL hc) rfl hrc hrs (ht _ hini) (ht _ hl) hd hR
theorem kwV (n : Nat) (ht : ∀ w ∈ lwT, w.before args s = true) (hc : Cond.code y bytes maxL ret ∈ lwT) (hrc : rm.cells = mc) (hrs : rm.slots = ms) (hini : Cond.initialized y.cls ∈ lwT) (hl : Cond.methodLink own index y ∈ lwT) (him : Cond.instanceMethod y ∈ lwT) (hse : Cond.selects C y y ∈ lwT)
    (hd : y.cls ≠ "java/lang/invoke/MethodHandle" ∧ y.cls ≠ "java/lang/invoke/VarHandle" ∧ (parseMethodDescriptor y.desc).map (fun d => d.parameters.length) = some n) (hR : rm.frames + 1 ≤ R.frames ∧ 8 + (maxL + 11) + rm.locals ≤ R.locals) :
    CallW R s args own C index y bytes maxL ret (.code y bytes maxL ret :: lwT) rm mc ms n := ⟨kwB n ht hc hrc hrs hini hl hd hR, ht _ him, ht _ hse⟩
theorem kwS (n : Nat) (ht : ∀ w ∈ lwT, w.before args s = true) (hc : Cond.code y bytes maxL ret ∈ lwT) (hrc : rm.cells = mc) (hrs : rm.slots = ms) (hini : Cond.initialized y.cls ∈ lwT) (hl : Cond.methodLink own index y ∈ lwT) (hst : Cond.static y ∈ lwT)
    (hd : y.cls ≠ "java/lang/invoke/MethodHandle" ∧ y.cls ≠ "java/lang/invoke/VarHandle" ∧ (parseMethodDescriptor y.desc).map (fun d => d.parameters.length) = some n) (hR : rm.frames + 1 ≤ R.frames ∧ 8 + (maxL + 11) + rm.locals ≤ R.locals) :
    CallB R s args own index y bytes maxL ret (.code y bytes maxL ret :: lwT) rm mc ms n ∧ (Cond.static y).before args s = true := ⟨kwB n ht hc hrc hrs hini hl hd hR, ht _ hst⟩
end KW
