section XA
variable {p : Program} {l : Launch} {e : Env} {R : Room} {s : State} {m : MethodId} {args : Array Value} {below : List Frame} {meth : Method} {c : Code} {T : State} {locs : List Loc} {cells slots : Nat}
/-- the machine now, as if the method were only called here -/
def xNow (s : State) (m : MethodId) (args : Array Value) (below : List Frame) (T : State) : State := (T.setVm s.vm).setFrames (.invoking m args :: below)
theorem xNow_vm (s : State) (m : MethodId) (args : Array Value) (below : List Frame) (T : State) : (xNow s m args below T).vm = s.vm := rfl
theorem xNow_heap (s : State) (m : MethodId) (args : Array Value) (below : List Frame) (T : State) : (xNow s m args below T).heap = T.heap := rfl
def xUp : List String := ["java/lang/RuntimeException", "java/lang/Exception"]
def xWs (own : String) (ik ic : Nat) (E : String) : List Cond := .classLink own ik E :: .initialized E :: Bundle.ownAtoms own ic E xUp
/-- the rest of the walk may take the state it has come to for a beginning -/
theorem x_again (X : Stand p l e R s m args below meth c T locs cells slots) {k n : Nat} (hc : cells + k ≤ R.cells) (hs : slots + n ≤ R.slots) :
    Stand p l e { frames := R.frames, cells := k, slots := n, locals := R.locals } (xNow s m args below T) m args below meth c T [] 0 0 := by
  have htop := X.here.top
  obtain ⟨g₀, hr⟩ := X.frames_eq
  have hcur : (T.setVm s.vm).cur < (T.setVm s.vm).threads.size := State.cur_lt_of_top (show (T.setVm s.vm).topJava?.isSome from htop)
  have hF : (xNow s m args below T).frames = .invoking m args :: below := State.frames_setFrames _ hcur
  have hli : e.platform.stackLimits (xNow s m args below T).me = e.platform.stackLimits s.me := by
    unfold xNow; rw [State.stackLimits_setFrames]; exact X.limits
  have hby : (xNow s m args below T).me.stackBytes = s.me.stackBytes := by
    unfold xNow; rw [State.stackBytes_setFrames]; exact X.bytes
  have hroom : (xNow s m args below T).hasRoom e.platform { frames := R.frames, cells := k, slots := n, locals := R.locals } = true := by
    have hu : (xNow s m args below T).localsInUse = s.localsInUse := by
      rw [State.localsInUse_invoking hF (meth := meth) (c := c) X.method X.code, State.localsInUse_invoking X.frames X.method X.code]
    obtain ⟨hh1, hh2⟩ := X.heapHas hc hs
    have h := X.room
    simp only [State.hasRoom, Bool.and_eq_true, decide_eq_true_eq] at h ⊢
    rw [hF, hu, hli, hby]
    rw [X.frames] at h
    exact ⟨⟨⟨h.1.1.1, hh1⟩, hh2⟩, X.book⟩
  refine ⟨X.admits, X.cas, X.clock, hF, hroom, X.hears, X.method, X.code, X.here, X.tail, X.warmed, hli ▸ X.limits, hby ▸ X.bytes, ?_⟩
  have hdrop : ((T.heap.toList.drop T.heap.size).map (·.slots.size)).sum = 0 := by
    rw [List.drop_eq_nil_of_le (Nat.le_of_eq Array.length_toList)]; rfl
  refine ⟨?_, Nat.le_refl _, Nat.le_refl _, ?_, ?_, fun a c9 h9 => ⟨c9, h9, rfl, rfl, fun _ _ => rfl⟩⟩
  · obtain ⟨t, ht, -⟩ := State.frames_cons hr
    show T.setVm s.vm = { ((T.setVm s.vm).setFrames (.invoking m args :: below)).setFrames (T.setVm s.vm).frames with heap := T.heap, slotsUsed := T.slotsUsed }
    rw [State.setFrames_setFrames, State.setFrames_self (show (T.setVm s.vm).threads[(T.setVm s.vm).cur]? = some t from ht)]
    rfl
  · show T.slotsUsed = T.slotsUsed + ((T.heap.toList.drop T.heap.size).map (·.slots.size)).sum
    rw [hdrop]; rfl
  · exact Nat.le_of_eq hdrop
/-- what was not written is as it was -/
theorem x_kept {U : State} {k n : Nat} (h : s.sameButNew ({ U with vm := s.vm } : State) [] k n) {q : Nat} (hq : q < s.heap.size) : U.heap[q]? = s.heap[q]? := by
  obtain ⟨-, -, -, -, -, h6⟩ := h
  obtain ⟨c9, e1, e2, e3, e4⟩ := h6 q _ (Array.getElem?_eq_getElem hq)
  have hs : c9.slots = (s.heap[q]).slots := Array.ext_getElem? fun i => e4 i (by simp)
  rw [hs] at e2
  have e5 : U.heap[q]? = some c9 := e1
  rw [e5, e2, Array.getElem?_eq_getElem hq]
set_option maxHeartbeats 1000000 in
theorem x_core (X : Stand p l e R s m args below meth c T locs cells slots) (hexec : p.tables.exec = Jvm.exec) (hl : l.stackTraces = false) {own E text : String} {ik is ic sa pc : Nat} {ls : Array Slot}
    (hown : s.vm.findClass own = some m.cls) (hE : Bundle.fit E = true) (hat : ∀ w ∈ xWs own ik ic E, w.before args (xNow s m args below T) = true)
    (hstr : (Cond.stringRef own is text).before args (xNow s m args below T) = true) (hsa : (Term.string own is).eval args (xNow s m args below T) none [] (xNow s m args below T) = some (.ref sa))
    (hsize : ls.size = c.maxLocals) (d0 : decode c.code pc = .ok (.new ik, 3)) (d3 : decode c.code (pc + 3) = .ok (.dup, 1)) (d4 : decode c.code (pc + 4) = .ok (.ldc is, 2)) (d6 : decode c.code (pc + 6) = .ok (.invokespecial ic, 3)) (d9 : decode c.code (pc + 9) = .ok (.athrow, 1))
    (hno : ∀ x ∈ c.exceptionTable.toList, False) (hF : 5 < R.frames) (hL : 90 ≤ R.locals) (hc : cells + 1 ≤ R.cells) (hs : slots + 6 ≤ R.slots) (hlocks : meth.locks = false) :
    ∃ (U : State) (ce : Cell), Steps p.tables e below (T.setTop (F0 m pc ls [])) U ∧ U.status = .running ∧ Ended U below (.threw T.heap.size) ∧ s.WarmedH U.vm ∧ s.sameButNew ({ U with vm := s.vm } : State) locs (cells + 1) (slots + 6) ∧
      U.heap.size = T.heap.size + 1 ∧ (∀ q : Nat, q < T.heap.size → U.heap[q]? = T.heap[q]?) ∧ U.heap[T.heap.size]? = some ce ∧ ce.vm = .none ∧ s.vm.findClass E = some ce.cls := by
  have htr : e.platform.stackTraces = false := (show e.platform.stackTraces = l.stackTraces by rw [X.admits.platform]).trans hl
  have Y := x_again X hc hs
  have hto : ∀ w ∈ Bundle.ownAtoms own ic E xUp, w.before args (xNow s m args below T) = true := fun w hw => hat w (List.mem_cons_of_mem _ (List.mem_cons_of_mem _ hw))
  obtain ⟨vm1, cX, kX, hfX, hkX, -, -, Y1, st1⟩ := Y.newCold hexec (own := own) (C := E) (index := ik) (n := 6) hown (hat _ List.mem_cons_self) (hto _ (by simp [Bundle.ownAtoms])) (hat _ (List.mem_cons_of_mem _ List.mem_cons_self)) (g := F0 m pc ls []) rfl d0 (Nat.le_refl _) (Nat.le_refl _)
  have hcell := State.heap_pushCell_size (T.setVm vm1) (freshCell cX kX)
  obtain ⟨U, st2, hrun, hend, hW, hsame, ce, hce, hO⟩ := Y1.ctorThrowS hexec htr (own := own) (cls := E) (names := xUp) (ic := ic) hown hE (by decide +kernel) hto (fun x hx => nomatch hx) hfX hkX hcell (Nat.le_refl _) (msg := .ref sa) rfl
    (g := F0 m (pc + 6) ls [.ref sa, .ref T.heap.size, .ref T.heap.size]) rfl hsize rfl rfl (rest := []) rfl d6 d9 (fun x hx => (hno x hx).elim) hF (by show 2 * 0 + (1 + 0) + (13 * 3 + 42) ≤ R.locals; omega) hlocks
  have hsz : U.heap.size = T.heap.size + 1 := by
    have h1 : U.heap.size ≤ T.heap.size + (0 + 1) := hsame.2.2.1
    have h2 := (Array.getElem?_eq_some_iff.mp hce).1
    have h3 : T.heap.size < U.heap.size := h2
    omega
  have hall : s.sameButNew ({ U with vm := s.vm } : State) locs (cells + 1) (slots + 6) := by
    obtain ⟨e1, e2⟩ := hsame
    have e1' : ({ U with vm := s.vm } : State) = { (T.setVm s.vm).setFrames U.frames with heap := U.heap, slotsUsed := U.slotsUsed } := by
      have := e1
      unfold xNow at this
      rw [State.setFrames_setFrames] at this
      exact this
    have h2 : (T.setVm s.vm).sameButNew ({ U with vm := s.vm } : State) [] (0 + 1) (0 + 6) := ⟨e1', e2⟩
    have h3 := X.same.trans h2
    rw [List.append_nil] at h3
    exact h3.mono (Nat.le_refl _) (Nat.le_refl _)
  refine ⟨U, ce, st1 _ ?_, hrun, hend, State.WarmedH.trans (State.WarmedH.refl s) hW, hall, hsz, fun q hq => x_kept hsame hq, hce, hO.vm, hO.cls⟩
  have d3' : decode c.code (pc + 3) = .ok (.dup, 1) := d3
  generalize (T.setVm vm1).pushCell (freshCell cX kX) = T1 at *
  show Steps p.tables e below (T1.setTop (F0 m (pc + 3) ls [.ref T.heap.size])) U
  jvm_step Y1.here [Y1.here.top, hexec, d3', Value.category]
  exact Y1.ldcString hexec (own := own) (text := text) (index := is) (a := sa) hown hstr hsa (g := F0 m (pc + 4) ls [.ref T.heap.size, .ref T.heap.size]) rfl d4 _ st2
end XA
section XB
variable {p : Program} {l : Launch} {e : Env} {R : Room} {s : State} {m : MethodId} {args : Array Value} {below : List Frame} {meth : Method} {c : Code} {H : Heap} {T : State} {locs : List Loc} {cells slots : Nat} {Q : State → Prop}
/-- the frame g, with q thrown over it -/
def xW (p : Program) (l : Launch) (e : Env) (R : Room) (s : State) (m : MethodId) (args : Array Value) (below : List Frame) (meth : Method) (c : Code) (H : Heap) (locs : List Loc) (cells slots : Nat) (Q : State → Prop) (g : JFrame) (q : Addr) : Prop :=
  ∀ T : State, T.heap = H → Stand p l e R s m args below meth c T locs cells slots → ∃ t, Steps p.tables e below ((T.setTop g).pushFrame (.throwing q)) t ∧ Q t
/-- one row of the table whose class links: taken or passed -/
theorem x_row {f : JFrame} {a : Addr} {Q9 : Handler → Pre} {E9 : CtlPost} {d : Bool} {acts : List Action} {U : State} {x : ExceptionTableEntry} {t : List ExceptionTableEntry} {k : ClassId} {cell : Cell} (hx : covers x f.pc = true) (h0 : x.catchType ≠ 0)
    (hl : U.vm.ClassLinks e.platform f.method.cls x.catchType k) (hcell : U.heap[a]? = some cell) (hv : cell.vm = .none) (hk : ∃ k9, U.vm.classes[cell.cls]? = some k9) (hc : ∃ k9, U.vm.classes[k]? = some k9) :
    wp (findHandler.go f a (x :: t)) Q9 E9 e d acts U ↔ if U.vm.assignable cell.cls k = true then Q9 (.found x.handlerPc) d acts (U.setVm (U.vm.noted f.method.cls x.catchType (.cls k))) else wp (findHandler.go f a t) Q9 E9 e d acts (U.setVm (U.vm.noted f.method.cls x.catchType (.cls k))) := by
  simp only [covers] at hx
  obtain ⟨ha, ht⟩ := (resolveClass_links e.toSetting hl).op (op := VmOp.resolveClass f.method.cls x.catchType) rfl
  have hal : U.vm.Alike (U.vm.noted f.method.cls x.catchType (.cls k)) := (Vm.Alike.refl U.vm).noted _ _ _
  obtain ⟨k1, hk1⟩ := hk
  obtain ⟨k2, hk2⟩ := hc
  obtain ⟨k1', hk1', -⟩ := hal.2.2 _ _ hk1
  obtain ⟨k2', hk2', -⟩ := hal.2.2 _ _ hk2
  have hobj : ∀ z, cell.vm ≠ .statics z := fun z hz => by rw [hv] at hz; cases hz
  cases hfit : U.vm.assignable cell.cls k <;>
    (have hfit' := hfit; rw [← hal.assignable] at hfit'; simp [findHandler.go, hx, h0, ha, ht, hcell, hobj, hk1', hk2', hfit', VmOp.dirties, VmOp.acts])
theorem x_caught {g : JFrame} {a : Addr} {pc : Nat} {vm' : Vm} (h : At T g.method c below)
    (hfind : ∀ (Q9 : Handler → Pre) (E9 : CtlPost) (d : Bool) (acts : List Action), wp (findHandler g a) Q9 E9 e d acts ((T.setTop g).pushFrame (.throwing a)) ↔ Q9 (.found pc) d acts (((T.setTop g).pushFrame (.throwing a)).setVm vm'))
    {tg : State} (hrest : Steps p.tables e below ((T.setVm vm').setTop { g with pc := pc, stack := [.ref a] }) tg) : Steps p.tables e below ((T.setTop g).pushFrame (.throwing a)) tg := by
  obtain ⟨hgo, hw⟩ := h.throwing a
  refine Steps.head hgo hw ?_
  obtain ⟨g₀, hg0⟩ := Option.isSome_iff_exists.mp h.top
  obtain ⟨r, hr⟩ := State.topJava?_eq_some.mp hg0
  have hst : (stepThrowing e ((T.setTop g).pushFrame (.throwing a)) a (.java g :: T.frames.tail)).1 = ((T.setVm vm').setTop { g with pc := pc, stack := [.ref a] }) := by
    simp only [stepThrowing, searchFrame, vmDo]
    generalize hres : Sem.go _ e false [] ((T.setTop g).pushFrame (.throwing a)) = res
    obtain ⟨as, rfl, -⟩ := Sem.eq_ok_of hres (a := Handler.found pc) (s' := ((T.setTop g).pushFrame (.throwing a)).setVm vm') (acts' := []) (by simp [hfind _ _ _ _])
    rw [State.setTop_of_frames _ (show (T.setVm vm').frames = .java g₀ :: r from hr)]
    show (((T.setTop g).pushFrame (.throwing a)).setVm vm').setFrames (.java { g with pc := pc, stack := [.ref a] } :: T.frames.tail) = _
    rw [hr, List.tail_cons, State.pushFrame, State.setTop_of_frames _ hr]
    have hsw : ∀ (u : State) (F G : List Frame), ((u.setFrames F).setVm vm').setFrames G = (u.setVm vm').setFrames G := fun u F G => by
      have h1 : (u.setFrames F).setVm vm' = (u.setVm vm').setFrames F := rfl
      rw [h1, State.setFrames_setFrames]
    rw [hsw, hsw]
  rw [stepThread_throwing (frames_entered h.top _), hst]
  exact hrest
/-- caught by the first row -/
theorem x_catch1 {g : JFrame} {q : Addr} {own nm E : String} {ce : Cell} {x : ExceptionTableEntry} {rest9 : List ExceptionTableEntry} (hg : g.method = m) (hown : s.vm.findClass own = some m.cls) (ht : c.exceptionTable.toList = x :: rest9) (hx : covers x g.pc = true) (h0 : x.catchType ≠ 0)
    (hlink : (Cond.classLink own x.catchType nm).before args s = true) (hcell : H[q]? = some ce) (hv : ce.vm = .none) (hE : s.vm.findClass E = some ce.cls) (hcast : (Cond.castable E nm).before args s = true)
    (kk : W p l e R s m args below meth c H locs cells slots Q { g with pc := x.handlerPc, stack := [.ref q] }) : xW p l e R s m args below meth c H locs cells slots Q g q := by
  intro T hT X
  have hpl : e.platform.magicAccessors = ({} : Platform).magicAccessors := by rw [X.admits.platform]
  obtain ⟨cT, hcT, hcl⟩ := Cond.classLink_spec hown hlink e.platform hpl
  obtain ⟨c3, c4, hc3, hc4, hasg⟩ := Cond.castable_spec hcast
  cases Option.some.inj (hc3.symm.trans hE)
  cases Option.some.inj (hc4.symm.trans hcT)
  obtain ⟨dk, _, _, kt, hd, _, _, _, _, hkt, _, hopen⟩ := hcl.here
  have hW' : s.WarmedH (T.vm.noted m.cls x.catchType (.cls cT)) := X.warmed.noted hd hopen (State.rightAt_cls hcl)
  have hal := X.warmed.alike
  obtain ⟨kt', hkt', -⟩ := hal.2.2 _ _ hkt
  have hfit' : T.vm.assignable ce.cls cT = true := by rw [hal.assignable]; exact hasg
  obtain ⟨t, a1, b1⟩ := kk (T.setVm (T.vm.noted m.cls x.catchType (.cls cT))) hT (X.noted hW')
  subst hg
  refine ⟨t, x_caught X.here (fun Q9 E9 d acts => ?_) a1, b1⟩
  rw [W.findHandler_eq (s := (T.setTop g).pushFrame (.throwing q)) X.method' X.code, ht]
  rw [x_row (U := (T.setTop g).pushFrame (.throwing q)) hx h0 (X.warmed.classLinks hcl) (by show T.heap[q]? = some ce; rw [hT]; exact hcell) hv (Vm.classAt_of_assignable hfit' ⟨kt', hkt'⟩) ⟨kt', hkt'⟩, if_pos (show ((T.setTop g).pushFrame (.throwing q)).vm.assignable ce.cls cT = true from hfit')]
  exact Iff.rfl
/-- passed by the first row, caught by the second -/
theorem x_catch2 {g : JFrame} {q : Addr} {own nm nm2 E : String} {ce : Cell} {x x2 : ExceptionTableEntry} {rest9 : List ExceptionTableEntry} (hg : g.method = m) (hown : s.vm.findClass own = some m.cls) (ht : c.exceptionTable.toList = x :: x2 :: rest9) (hx : covers x g.pc = true) (h0 : x.catchType ≠ 0) (hx2 : covers x2 g.pc = true) (h02 : x2.catchType ≠ 0)
    (hlink : (Cond.classLink own x.catchType nm).before args s = true) (hlink2 : (Cond.classLink own x2.catchType nm2).before args s = true) (hcell : H[q]? = some ce) (hv : ce.vm = .none) (hE : s.vm.findClass E = some ce.cls) (hnot : (Cond.not (.castable E nm)).before args s = true) (hcast : (Cond.castable E nm2).before args s = true)
    (kk : W p l e R s m args below meth c H locs cells slots Q { g with pc := x2.handlerPc, stack := [.ref q] }) : xW p l e R s m args below meth c H locs cells slots Q g q := by
  intro T hT X
  have hpl : e.platform.magicAccessors = ({} : Platform).magicAccessors := by rw [X.admits.platform]
  obtain ⟨cT, hcT, hcl⟩ := Cond.classLink_spec hown hlink e.platform hpl
  obtain ⟨cT2, hcT2, hcl2⟩ := Cond.classLink_spec hown hlink2 e.platform hpl
  obtain ⟨c3, c4, hc3, hc4, hasg⟩ := Cond.castable_spec hcast
  cases Option.some.inj (hc3.symm.trans hE)
  cases Option.some.inj (hc4.symm.trans hcT2)
  have hno : s.vm.assignable ce.cls cT = false := by
    have hv9 := Cond.holds_not_iff.mp hnot
    simp only [Cond.value, hE, hcT] at hv9
    exact Option.some.inj hv9
  obtain ⟨dk, _, _, kt, hd, _, _, _, _, hkt, _, hopen⟩ := hcl.here
  obtain ⟨dk2, _, _, kt2, hd2, _, _, _, _, hkt2, _, hopen2⟩ := hcl2.here
  have hW' : s.WarmedH (T.vm.noted m.cls x.catchType (.cls cT)) := X.warmed.noted hd hopen (State.rightAt_cls hcl)
  have hW2 : s.WarmedH ((T.vm.noted m.cls x.catchType (.cls cT)).noted m.cls x2.catchType (.cls cT2)) := State.WarmedH.noted hW' hd2 hopen2 (State.rightAt_cls hcl2)
  have hal := X.warmed.alike
  have hal' := hW'.alike
  obtain ⟨kt', hkt', -⟩ := hal.2.2 _ _ hkt
  obtain ⟨kt2', hkt2', -⟩ := hal'.2.2 _ _ hkt2
  have hno' : T.vm.assignable ce.cls cT = false := by rw [hal.assignable]; exact hno
  have hfit2 : (T.vm.noted m.cls x.catchType (.cls cT)).assignable ce.cls cT2 = true := by rw [hal'.assignable]; exact hasg
  have hce : ∃ k9, s.vm.classes[ce.cls]? = some k9 := Vm.classAt_of_findClass hE
  obtain ⟨kc, hkc⟩ := hce
  obtain ⟨kc1, hkc1, -⟩ := hal.2.2 _ _ hkc
  obtain ⟨kc2, hkc2, -⟩ := hal'.2.2 _ _ hkc
  obtain ⟨t, a1, b1⟩ := kk (T.setVm ((T.vm.noted m.cls x.catchType (.cls cT)).noted m.cls x2.catchType (.cls cT2))) hT (X.noted hW2)
  subst hg
  refine ⟨t, x_caught X.here (fun Q9 E9 d acts => ?_) a1, b1⟩
  rw [W.findHandler_eq (s := (T.setTop g).pushFrame (.throwing q)) X.method' X.code, ht]
  rw [x_row (U := (T.setTop g).pushFrame (.throwing q)) hx h0 (X.warmed.classLinks hcl) (by show T.heap[q]? = some ce; rw [hT]; exact hcell) hv ⟨kc1, hkc1⟩ ⟨kt', hkt'⟩, if_neg (show ¬ ((T.setTop g).pushFrame (.throwing q)).vm.assignable ce.cls cT = true from by show ¬ T.vm.assignable ce.cls cT = true; rw [hno']; decide)]
  show wp (findHandler.go g q (x2 :: rest9)) Q9 E9 e d acts (((T.setTop g).pushFrame (.throwing q)).setVm (T.vm.noted g.method.cls x.catchType (.cls cT))) ↔ _
  rw [x_row (U := ((T.setTop g).pushFrame (.throwing q)).setVm (T.vm.noted g.method.cls x.catchType (.cls cT))) hx2 h02 (hW'.classLinks hcl2) (by show T.heap[q]? = some ce; rw [hT]; exact hcell) hv ⟨kc2, hkc2⟩ ⟨kt2', hkt2'⟩, if_pos (show (((T.setTop g).pushFrame (.throwing q)).setVm (T.vm.noted g.method.cls x.catchType (.cls cT))).vm.assignable ce.cls cT2 = true from hfit2)]
  exact Iff.rfl
end XB
section XC
variable {p : Program} {l : Launch} {e : Env} {R : Room} {s : State} {m : MethodId} {args : Array Value} {below : List Frame} {meth : Method} {c : Code} {H : Heap} {T : State} {locs : List Loc} {cells slots : Nat} {Q : State → Prop}
variable {y : MethodName} {bytes cc : ByteArray} {maxL nL mc ms n index : Nat} {ret : Option FieldType} {ws : List Cond} {rm : Room} {Pc : Array Value → State → Prop} {Qx : Array Value → State → Outcome → State → Prop} {Ts : List Cond} {own C : String} {b : Addr} {As rest : List Value}
/-- a contract that may end by a throw -/
def xMet (l : Launch) (y : MethodName) (ws : List Cond) (rm : Room) (Pc : Array Value → State → Prop) (Qx : Array Value → State → Outcome → State → Prop) : Prop := MetFree l y (headSpec ws rm) Pc (fun _ _ _ _ _ => True) Qx
/-- the callee runs: from its call to its end -/
theorem x_into (X : Stand p l e R s m args below meth c T locs cells slots) {g : JFrame} (hg : g.method = m) (hsize : g.locals.size = c.maxLocals) {ig : Instr} {len : Nat} (hdg : decode c.code g.pc = .ok (ig, len)) (hM : xMet l y ws rm Pc Qx) {a : Array Value} {mk : MethodId} (hn : T.methodNamed? y = some mk)
    {methY : Method} {cY : Code} (hmY : T.vm.method? mk = some methY) (hcY : methY.code = some cY) (hlY : cY.maxLocals = maxL) (hini : (Cond.initialized y.cls).before a T = true) (hws : ∀ w ∈ ws, w.before a T = true)
    (hfr : rm.frames + 1 ≤ R.frames) (hlo : 2 * g.monitorRoom + (g.stack.map fun v => v.category).sum + (maxL + 11) + rm.locals ≤ R.locals) (hc : cells + rm.cells ≤ R.cells) (hs : slots + rm.slots ≤ R.slots) (hP : Pc a (T.calling g mk a)) :
    ∃ o t, Steps p.tables e below (doInvoke e (T.setTop g) [] mk a).1 t ∧ Ended t (.java g :: below) o ∧ Qx a (T.calling g mk a) o t := by
  have h : At T g.method c below := by rw [hg]; exact X.here
  obtain ⟨kY, hkY, -⟩ := className_of_methodNamed hn
  have hinitY : kY.init = .initialized := Cond.initialized_spec (findClass_of_methodNamed hn) hkY hini
  have happ : (headSpec ws rm).appliesLoose y e.platform (T.calling g mk a) = true :=
    Spec.appliesLoose_calling (g := g) h hdg hn hkY hinitY (X.room_calling (g := g) (R' := rm) hsize hmY hcY hfr (by rw [hlY]; exact hlo) hc hs) (atoms_intro hws)
  have hfr9 : (T.setTop g).frames = .java g :: below := by rw [State.frames_setTop' g h.top, X.tail]
  obtain ⟨o, t, st, -, he, hq⟩ := Steps.callFree (mid := [.java g]) (below := below) hM p X.admits X.cas X.clock (acts := []) (s := T.setTop g) (by rw [hfr9]; rfl) happ hP trivial
  rw [hfr9] at he
  exact ⟨o, t, st, he, hq⟩
theorem x_goV (S : CallFix p m c cc nL s args Ts own) (hM : xMet l y ws rm Pc Qx) (cw : CallW R s args own C index y bytes maxL ret ws rm mc ms n) (hp : PreV s H C b Pc As)
    {pc : Nat} {ls : Array Slot} {st0 : List Value} (hn : As.length = n) (hsize : ls.size = nL) (hstack : st0 = As.reverse ++ .ref b :: rest) (hW : (rest.map fun v => v.category).sum ≤ 8) (hdg : decode cc pc = .ok (.invokevirtual index, 3)) (hf : cells + mc ≤ R.cells ∧ slots + ms ≤ R.slots)
    (hT : T.heap = H) (X : Stand p l e R s m args below meth c T locs cells slots) :
    ∃ (T1 : State) (g9 : JFrame) (mk : MethodId) (o : Outcome) (t : State), T1.heap = H ∧ Stand p l e R s m args below meth c T1 locs cells slots ∧ g9 = F0 m pc ls rest ∧ Steps p.tables e below (T.setTop (F0 m pc ls st0)) t ∧ Ended t (.java g9 :: below) o ∧ Qx (Value.ref b :: As).toArray (T1.calling g9 mk (Value.ref b :: As).toArray) o t := by
  obtain ⟨⟨hrc, hrs, hfr, hlo, hws, hcw, hcode, hini, hy, hlen, hl⟩, hin, hse⟩ := cw
  obtain ⟨hx, hb, hml, ho, -⟩ := S
  obtain ⟨hbl, ⟨cellB, hcB, hoB, hclB⟩, hPc⟩ := hp
  obtain ⟨mk, methM, hnamed, hmethM, hstM, habM⟩ := Cond.instanceMethod_spec hin
  obtain ⟨methM', cM, hmethM', hcM, -, hlM, -, -, -, hsigM⟩ := Cond.code_spec hnamed hcode
  cases hmethM.symm.trans hmethM'
  obtain ⟨c2, r2, m2, q1, q2, q3, q4, kP, hkP, hkPi⟩ := Cond.selects_spec hse
  cases hclB.symm.trans q1
  cases (State.methodFound?_of_named hnamed hy).symm.trans q2
  cases hnamed.symm.trans q3
  have hselP : selectMethod e.platform s.vm cellB.cls mk = .method mk := by rw [Launch.admits_selectMethod X.admits]; exact q4
  obtain ⟨vm1, X1, st1⟩ := X.invokevirtual hx ho hl hnamed hmethM hstM hkP hkPi hy (a := b) (cell := cellB) (by rw [hT]; exact hcB)
    (fun z h => by rw [h] at hoB; cases hoB) hselP hmethM habM hkP hkPi (g := F0 m pc ls st0) rfl (argsL := As) (rest := rest) (hn.trans (hlen _ hsigM)) hstack (by rw [hb]; exact hdg)
  have hcode1 : (T.setVm vm1).vm.method? mk = some methM := by rw [show (T.setVm vm1).vm.method? mk = s.vm.method? mk from X1.warmed.alike.method? mk]; exact hmethM
  obtain ⟨o, t, st2, he, hq⟩ := x_into X1 (g := F0 m pc ls rest) rfl (hsize.trans hml.symm) (by rw [hb]; exact hdg) hM (a := (Value.ref b :: As).toArray) (X1.named hnamed) hcode1 hcM hlM
    (word_at X1.warmed (Or.inl (by simp [Cond.onTables, Cond.keeps, Cond.steady])) hini) (fun w hw => hws w hw _ _ X1.warmed) hfr (by show 2 * 0 + (rest.map fun v => v.category).sum + (maxL + 11) + rm.locals ≤ R.locals; omega) (by rw [hrc]; exact hf.1) (by rw [hrs]; exact hf.2) (hbl _ _ _ _ (hPc (T.setVm vm1) hT X1.warmed))
  exact ⟨T.setVm vm1, _, mk, o, t, hT, X1, rfl, st1 _ (fun acts => by rw [doInvoke_state]; exact st2), he, hq⟩
end XC
section XD
variable {p : Program} {l : Launch} {e : Env} {R : Room} {s : State} {m : MethodId} {args : Array Value} {below : List Frame} {meth : Method} {c : Code} {H : Heap} {locs : List Loc} {cells slots : Nat} {Q : State → Prop}
variable {y : MethodName} {bytes cc : ByteArray} {maxL nL mc ms n index : Nat} {ret : Option FieldType} {ws : List Cond} {rm : Room} {Pc : Array Value → State → Prop} {Ts : List Cond} {own C : String} {b : Addr} {As rest st0 : List Value}
variable {pc lo : Nat} {ls : Array Slot} {G : Gx} {V : Vw} {post : Option Value → Vw → Nat → Prop} {px : String → Vw → Nat → Prop}
/-- the end of a method that may throw: what it answers, or which class's exception it throws; the view behind -/
def xEnd (G : Gx) (lo : Nat) (post : Option Value → Vw → Nat → Prop) (px : String → Vw → Nat → Prop) (mc ms : Nat) : Array Value → State → Outcome → State → Prop := fun _ st o t =>
  ((∃ (r : Option Value) (V' : Vw), o = .returned r ∧ post r V' t.heap.size ∧ vB G.1 cls lo t.heap V') ∨
    (∃ (q : Addr) (E : String) (ce : Cell) (V' : Vw), o = .threw q ∧ px E V' t.heap.size ∧ vB G.1 cls lo t.heap V' ∧ t.heap[q]? = some ce ∧ ce.vm = .none ∧ st.vm.findClass E = some ce.cls)) ∧
  va_F (vL lo) st t ∧ ∃ L : List Loc, (st.WarmedH t.vm ∧ st.sameButNew ({ t with vm := st.vm } : State) L mc ms) ∧ ∀ z ∈ L, vL lo z.base
def xQ (below : List Frame) (Qx : Array Value → State → Outcome → State → Prop) (a : Array Value) (s : State) : State → Prop := fun t => ∃ o, t.status = .running ∧ Ended t below o ∧ Qx a s o t
theorem x_ret {g : JFrame} (k : W p l e R s m args below meth c H locs cells slots (MQ below (vPost G lo post) args s mc ms (vL lo)) g) : W p l e R s m args below meth c H locs cells slots (xQ below (xEnd G lo post px mc ms) args s) g := by
  intro T hT X
  obtain ⟨t, a1, o, b1, b2, ⟨⟨r, V', h1, h2, h3⟩, h4⟩, L, h5, h6⟩ := k T hT X
  exact ⟨t, a1, o, b1, b2, Or.inl ⟨r, V', h1, h2, h3⟩, h4, L, ⟨h5.2.1, h5.2.2⟩, h6⟩
/-- a throwing method's contract from the walk of its body -/
theorem xMet_of {Rn : String} {sz : Nat} {av : List Value} (hy : plainName y.cls = true) (hR : y.cls = Rn) (hav : (lg_sl av).length ≤ maxL)
    (body : ∀ (p : Program) (e : Env) (s : State) (m : MethodId) (args : Array Value) (below : List Frame) (meth : Method) (c : Code), p.tables.exec = Jvm.exec → c.code = cc → meth.sig.returnType = ret → c.maxLocals = maxL → meth.locks = false → (∀ x ∈ c.exceptionTable.toList, False) → (∀ w ∈ lwT, w.before args s = true) → s.vm.findClass Rn = some m.cls → gK G lo s → s.heap.size = sz → vS G.1 cls lo s s.heap [] V → ∀ ls : Array Slot, lv_has ls maxL (lv_args 0 av) →
      W p l e rm s m args below meth c s.heap [] 0 0 (xQ below (xEnd G lo post px mc ms) args s) (F0 m 0 ls [])) :
    xMet l y (.code y cc maxL ret :: lwT) rm (vPre G lo av V sz) (xEnd G lo post px mc ms) := by
  refine MetFree.of_bodyS (code := cc) (maxLocals := maxL) (ret := ret) hy ?_ ?_
  · intro args s m h hn
    obtain ⟨meth, c, h1, h2, h3, h4, h5, h6, -, -⟩ := Cond.code_spec hn (atoms_spec (ws := Cond.code y cc maxL ret :: lwT) h _ List.mem_cons_self)
    exact ⟨meth, c, h1, h2, h3, h4, h5, h6⟩
  · intro p e s m args below meth c s₁ B hml hv _
    obtain ⟨rfl, hsz, hB, hK⟩ := hv
    have hts0 := atoms_spec (ws := Cond.code y cc maxL ret :: lwT) B.pre
    have hl := lv_entry av (n := maxL) hav
    have hh0 : s₁.heap = s.heap := by rw [B.state]; rfl
    have hno : ∀ x ∈ c.exceptionTable.toList, False := fun x hx => by
      have h7 := B.noHandlers (hts0 _ List.mem_cons_self)
      rw [Array.isEmpty_iff.mp h7] at hx
      cases hx
    obtain ⟨t, a1, o, b1, b2, b3⟩ := body p e s m _ below meth c B.exec B.bytes B.returns hml B.notSynchronized hno (fun w h => hts0 w (List.mem_cons_of_mem _ h)) (by rw [← hR]; exact findClass_of_methodNamed B.named) hK hsz (vS.entry hB) _ hl s₁ hh0 (Stand.of_body B)
    rw [lg_entry_eq]
    exact ⟨t, o, a1, b1, b2, b3⟩
/-- throw new E("text") -/
theorem x_throw (hexec : p.tables.exec = Jvm.exec) (hb : c.code = cc) (hl : l.stackTraces = false) {E text : String} {ik is ic : Nat} (hown : s.vm.findClass own = some m.cls) (hE : Bundle.fit E = true) (hts : ∀ w ∈ lwT, w.before args s = true) (hat : ∀ w ∈ xWs own ik ic E, w ∈ lwT ∨ w ∈ thrW) (htx : (own, is, text) ∈ msgW)
    (hK : gK G lo s) (hV : vS G.1 cls lo s H locs V) (hsize : ls.size = c.maxLocals) (d0 : decode cc pc = .ok (.new ik, 3)) (d3 : decode cc (pc + 3) = .ok (.dup, 1)) (d4 : decode cc (pc + 4) = .ok (.ldc is, 2)) (d6 : decode cc (pc + 6) = .ok (.invokespecial ic, 3)) (d9 : decode cc (pc + 9) = .ok (.athrow, 1))
    (hno : ∀ x ∈ c.exceptionTable.toList, False) (hF : 5 < R.frames) (hL : 90 ≤ R.locals) (hc : cells + 1 ≤ R.cells) (hs : slots + 6 ≤ R.slots) (hlocks : meth.locks = false) (hmc : cells + 1 ≤ mc) (hms : slots + 6 ≤ ms) (hp : px E V (H.size + 1)) :
    W p l e R s m args below meth c H locs cells slots (xQ below (xEnd G lo post px mc ms) args s) (F0 m pc ls []) := by
  intro T hT X
  have hkeep : ∀ a : Nat, a < s.heap.size → ¬ vL lo a → (xNow s m args below T).heap[a]? = s.heap[a]? := fun a h1 h2 => by rw [xNow_heap, hT]; exact hV.2.1.2.1 a h1 h2
  have hW0 : s.WarmedH (xNow s m args below T).vm := State.WarmedH.refl s
  have hat' : ∀ w ∈ xWs own ik ic E, w.before args (xNow s m args below T) = true := fun w hw => (hat w hw).elim (fun h => word_at hW0 (good_of_word (lwT_good w h)) (hts w h)) (fun h => hK.2.2.2.1 _ hW0 hkeep w h args)
  obtain ⟨sa, hsa⟩ := hK.2.2.2.2.1 _ htx
  have hsa' : vk_R own is text sa (xNow s m args below T) := vk_R.same rfl hsa
  obtain ⟨U, ce, st, hrun, hend, hW, hsame, hsz, hk, hce, hcv, hcl⟩ := x_core X hexec hl hown hE hat' (text := text) (is := is) (sa := sa) hsa'.1 hsa'.2 hsize (by rw [hb]; exact d0) (by rw [hb]; exact d3) (by rw [hb]; exact d4) (by rw [hb]; exact d6) (by rw [hb]; exact d9) hno hF hL hc hs hlocks
  rw [hT] at hsz hk
  refine ⟨U, st, .threw T.heap.size, hrun, hend, Or.inr ⟨T.heap.size, E, ce, V, rfl, by rw [hsz]; exact hp, ⟨by rw [hsz]; exact Nat.le_succ_of_le hV.1.1, fun a x hx => ?_⟩, hce, hcv, hcl⟩, ⟨by rw [hsz]; exact Nat.le_succ_of_le hV.2.1.1, fun q h1 h2 => (hk q (Nat.lt_of_lt_of_le h1 hV.2.1.1)).trans (hV.2.1.2.1 q h1 h2)⟩, locs, ⟨hW, hsame.mono hmc hms⟩, fun z hz => hV.2.1.2.2 z hz⟩
  obtain ⟨g1, g2⟩ := hV.1.2 a x hx
  exact ⟨g1, g2.kept (hk a g2.lt)⟩
theorem x_callV (S : CallFix p m c cc nL s args Ts own) (hM : xMet l y ws rm Pc (xEnd G lo post px mc ms)) (cw : CallW R s args own C index y bytes maxL ret ws rm mc ms n) (hp : PreV s H C b Pc As)
    (hn : As.length = n) (hsize : ls.size = nL) (hstack : st0 = As.reverse ++ .ref b :: rest) (hW : (rest.map fun v => v.category).sum ≤ 8) (hdg : decode cc pc = .ok (.invokevirtual index, 3)) (hf : cells + mc ≤ R.cells ∧ slots + ms ≤ R.slots) (hV : vS G.1 cls lo s H locs V)
    (kk : ∀ (r : Option Value) (V' : Vw) (H1 : Heap) (locs1 : List Loc), post r V' H1.size → vS G.1 cls lo s H1 locs1 V' → H.size ≤ H1.size → W p l e R s m args below meth c H1 locs1 (cells + mc) (slots + ms) Q (F0 m (pc + 3) ls (r.toList ++ rest)))
    (kx : ∀ (q : Addr) (E : String) (ce : Cell) (V' : Vw) (H1 : Heap) (locs1 : List Loc), px E V' H1.size → vS G.1 cls lo s H1 locs1 V' → H.size ≤ H1.size → H1[q]? = some ce → ce.vm = .none → s.vm.findClass E = some ce.cls → xW p l e R s m args below meth c H1 locs1 (cells + mc) (slots + ms) Q (F0 m pc ls rest) q) :
    W p l e R s m args below meth c H locs cells slots Q (F0 m pc ls st0) := by
  intro T hT X
  obtain ⟨T1, g9, mk, o, t, hT1, X1, rfl, st, he, hr, hF, L, ⟨hWm, hsame⟩, hL⟩ := x_goV S hM cw hp hn hsize hstack hW hdg hf hT X
  have hF1 : H.size ≤ t.heap.size := by rw [← hT1]; exact hF.1
  have hF2 : ∀ q : Nat, q < H.size → ¬ vL lo q → t.heap[q]? = H[q]? := by rw [← hT1]; exact hF.2
  obtain ⟨hB, hS, hlo⟩ := hV
  have hV1 : ∀ V', vB G.1 cls lo t.heap V' → vS G.1 cls lo s t.heap (locs ++ L) V' := fun V' hb => ⟨hb, ⟨Nat.le_trans hS.1 hF1, fun q h1 h2 => (hF2 q (Nat.lt_of_lt_of_le h1 hS.1) h2).trans (hS.2.1 q h1 h2), fun q hq => (List.mem_append.mp hq).elim (hS.2.2 q) (hL q)⟩, hlo⟩
  rcases hr with ⟨r, V', rfl, hp1, hb⟩ | ⟨q, E, ce, V', rfl, hp1, hb, hce, hcv, hcl⟩
  · obtain ⟨T', X', -, -, ht⟩ := X1.outOf rfl (by rw [S.2.1]; exact hdg) he hWm hsame
    have hh : T'.heap = t.heap := by rw [ht]; rfl
    obtain ⟨t2, a1, b1⟩ := kk r V' t.heap (locs ++ L) hp1 (hV1 V' hb) hF1 T' hh X'
    exact ⟨t2, st.trans (by rw [ht]; exact a1), b1⟩
  · obtain ⟨T', X', -, -, ht⟩ := X1.outOfThrown rfl he hWm hsame
    have hh : T'.heap = t.heap := by rw [ht]; rfl
    obtain ⟨t2, a1, b1⟩ := kx q E ce V' t.heap (locs ++ L) hp1 (hV1 V' hb) hF1 hce hcv (by rw [← X1.warmed.alike.findClass]; exact hcl) T' hh X'
    exact ⟨t2, st.trans (by rw [ht]; exact a1), b1⟩
end XD
section XE
variable {p : Program} {l : Launch} {e : Env} {R : Room} {s : State} {m : MethodId} {args : Array Value} {below : List Frame} {meth : Method} {c : Code} {H : Heap} {locs : List Loc} {cells slots : Nat} {Q : State → Prop}
variable {y : MethodName} {bytes cc : ByteArray} {maxL nL mc ms n index : Nat} {ret : Option FieldType} {ws : List Cond} {rm : Room} {Pc : Array Value → State → Prop} {own : String} {As rest st0 : List Value} {hh : List (Nat × Nat × Nat × Nat)}
variable {pc lo : Nat} {ls : Array Slot} {G : Gx} {V : Vw} {post : Option Value → Vw → Nat → Prop}
/-- the contract of a method with handlers that lets nothing out -/
theorem vMetW {Rn : String} {sz : Nat} {av : List Value} (hy : plainName y.cls = true) (hR : y.cls = Rn) (hav : (lg_sl av).length ≤ maxL)
    (body : ∀ (p : Program) (e : Env) (s : State) (m : MethodId) (args : Array Value) (below : List Frame) (meth : Method) (c : Code), p.tables.exec = Jvm.exec → c.code = cc → meth.sig.returnType = ret → c.maxLocals = maxL → meth.locks = false → c.exceptionTable.toList = tableOf hh → (∀ w ∈ lwT, w.before args s = true) → s.vm.findClass Rn = some m.cls → gK G lo s → s.heap.size = sz → vS G.1 cls lo s s.heap [] V → ∀ ls : Array Slot, lv_has ls maxL (lv_args 0 av) →
      W p l e rm s m args below meth c s.heap [] 0 0 (MQ below (vPost G lo post) args s mc ms (vL lo)) (F0 m 0 ls [])) :
    Met l y (.codeWith y cc maxL ret hh :: lwT) rm (vPre G lo av V sz) (vPost G lo post) mc ms (vL lo) := by
  refine va_MetW (cc := cc) (maxL := maxL) (ret := ret) (hh := hh) hy rfl ?_
  intro p e s m args below meth c s₁ B hml hv
  obtain ⟨rfl, hsz, hB, hK⟩ := hv
  have hts0 := atoms_spec (ws := Cond.codeWith y cc maxL ret hh :: lwT) B.pre
  have hl := lv_entry av (n := maxL) hav
  have htab : c.exceptionTable.toList = tableOf hh := by
    obtain ⟨m9, meth9, c9, hn9, h1, h2, -, -, h6, -⟩ := Cond.codeWith_spec (hts0 _ List.mem_cons_self)
    cases Option.some.inj (hn9.symm.trans B.named)
    cases Option.some.inj (h1.symm.trans B.method)
    cases Option.some.inj (h2.symm.trans (Stand.of_body B).code)
    rw [← h6, table_eq]
  rw [lg_entry_eq]
  exact body p e s m _ below meth c B.exec B.bytes B.returns hml B.notSynchronized htab (fun w h => hts0 w (List.mem_cons_of_mem _ h)) (by rw [← hR]; exact findClass_of_methodNamed B.named) hK hsz (vS.entry hB) _ hl
/-- its call -/
theorem x_callSW (hx : p.tables.exec = Jvm.exec) (hb : c.code = cc) (hml : c.maxLocals = nL) (hown : s.vm.findClass own = some m.cls) (hts : ∀ w ∈ lwT, w.before args s = true) (hM : Met l y (.codeWith y bytes maxL ret hh :: lwT) rm Pc (vPost G lo post) mc ms (vL lo))
    (hco : Cond.codeWith y bytes maxL ret hh ∈ lwT) (hini : Cond.initialized y.cls ∈ lwT) (hli : Cond.methodLink own index y ∈ lwT) (hst : Cond.static y ∈ lwT)
    (hd : y.cls ≠ "java/lang/invoke/MethodHandle" ∧ y.cls ≠ "java/lang/invoke/VarHandle" ∧ (parseMethodDescriptor y.desc).map (fun d => d.parameters.length) = some n) (hrc : rm.cells = mc) (hrs : rm.slots = ms) (hR : rm.frames + 1 ≤ R.frames ∧ 8 + (maxL + 11) + rm.locals ≤ R.locals)
    (hp : PreS s H Pc As) (hn : As.length = n) (hsize : ls.size = nL) (hstack : st0 = As.reverse ++ rest) (hW : (rest.map fun v => v.category).sum ≤ 8) (hdg : decode cc pc = .ok (.invokestatic index, 3)) (hf : cells + mc ≤ R.cells ∧ slots + ms ≤ R.slots) (hV : vS G.1 cls lo s H locs V)
    (kk : ∀ (r : Option Value) (V' : Vw) (H1 : Heap) (locs1 : List Loc), post r V' H1.size → vS G.1 cls lo s H1 locs1 V' → H.size ≤ H1.size → W p l e R s m args below meth c H1 locs1 (cells + mc) (slots + ms) Q (F0 m (pc + 3) ls (r.toList ++ rest))) :
    W p l e R s m args below meth c H locs cells slots Q (F0 m pc ls st0) := by
  intro T hT X
  obtain ⟨mk, methM, cM, hnamed, hmethM, hcM, -, hlM, -, -, -, hsigM⟩ := Cond.codeWith_spec (hts _ hco)
  have hstatic : methM.isStatic = true := Cond.static_spec hnamed hmethM (hts _ hst)
  obtain ⟨kP, hkP, -⟩ := className_of_methodNamed hnamed
  have hinitP : kP.init = .initialized := Cond.initialized_spec (findClass_of_methodNamed hnamed) hkP (hts _ hini)
  have hln : As.length = methM.sig.parameters.length := by
    have h2 := hd.2.2
    rw [hsigM] at h2
    exact hn.trans (Option.some.inj h2).symm
  obtain ⟨vm1, X1, st1⟩ := X.invokestatic hx hown (hts _ hli) hnamed hmethM hstatic hkP hinitP ⟨hd.1, hd.2.1⟩ (g := F0 m pc ls st0) rfl (argsL := As) (rest := rest) hln hstack (by rw [hb]; exact hdg)
  have hcode1 : (T.setVm vm1).vm.method? mk = some methM := by rw [show (T.setVm vm1).vm.method? mk = s.vm.method? mk from X1.warmed.alike.method? mk]; exact hmethM
  have hok : ∀ w ∈ Cond.codeWith y bytes maxL ret hh :: lwT, w.before As.toArray (T.setVm vm1) = true := fun w hw => by
    have hm : w ∈ lwT := by
      rcases List.mem_cons.mp hw with rfl | h1
      · exact hco
      · exact h1
    exact word_at X1.warmed (good_of_word (lwT_good w hm)) (hts w hm)
  obtain ⟨o, t, st2, he, ⟨⟨r, V', rfl, hp1, hb9⟩, hF⟩, L, ⟨-, hWm, hsame⟩, hL⟩ := x_into X1 (g := F0 m pc ls rest) rfl (hsize.trans hml.symm) (by rw [hb]; exact hdg) hM (a := As.toArray) (X1.named hnamed) hcode1 hcM hlM
    (hok _ (List.mem_cons_of_mem _ hini)) hok hR.1 (by show 2 * 0 + (rest.map fun v => v.category).sum + (maxL + 11) + rm.locals ≤ R.locals; have := hR.2; omega) (by rw [hrc]; exact hf.1) (by rw [hrs]; exact hf.2) (hp.1 _ _ _ _ (hp.2 (T.setVm vm1) hT X1.warmed))
  have hF1 : H.size ≤ t.heap.size := by rw [← hT]; exact hF.1
  have hF2 : ∀ q : Nat, q < H.size → ¬ vL lo q → t.heap[q]? = H[q]? := by rw [← hT]; exact hF.2
  obtain ⟨hB, hS, hlo⟩ := hV
  obtain ⟨T', X', -, -, ht⟩ := X1.outOf rfl (by rw [hb]; exact hdg) he hWm hsame
  have hh9 : T'.heap = t.heap := by rw [ht]; rfl
  obtain ⟨t2, a1, b1⟩ := kk r V' t.heap (locs ++ L) hp1 ⟨hb9, ⟨Nat.le_trans hS.1 hF1, fun q h1 h2 => (hF2 q (Nat.lt_of_lt_of_le h1 hS.1) h2).trans (hS.2.1 q h1 h2), fun q hq => (List.mem_append.mp hq).elim (hS.2.2 q) (hL q)⟩, hlo⟩ hF1 T' hh9 X'
  exact ⟨t2, st1 _ (fun acts => by rw [doInvoke_state]; exact st2.trans (by rw [ht]; exact a1)), b1⟩
end XE
