/-! THE CLAIM OUT OF ONE WALK OF THE LAW'S BODY. Your part is whole_start (and what it stands on); all else here is the same for every law, but numbers. -/
def R_law : String := "StreetGraphLaw"
def lw_P (b : Addr) (xs : List Int32) (args : Array Value) (s : State) : Prop := args = #[.ref b] ∧ s.IntsAt b xs ∧ xs.length ≤ 2048 ∧ (Jvm.Cond.and given_1 narrow_1).before args s = true
def lw_Q (_ : Array Value) (s : State) (o : Outcome) (t : State) : Prop := o = .returned (some (.int 1)) ∧ Framed s o t [] 601024 7293034
def lw_Z (below : List Frame) (a : Array Value) (s : State) : State → Prop := fun t => ∃ o, t.status = .running ∧ Ended t below o ∧ lw_Q a s o t
/-- the law's own end, with 1 on the stack, nothing written that was there before, its room as the claim has it -/
theorem lw_ret {p : Program} {l : Launch} {e : Env} {s : State} {m : MethodId} {below : List Frame} {meth : Method} {c : Code} {b : Nat} (hx : p.tables.exec = Jvm.exec) (hb : c.code = code) (hr : meth.sig.returnType = ret) (hlocks : meth.locks = false) {pc : Nat} {H : Heap} {ls : Array Slot} (hdg : decode code pc = .ok (.ireturn, 1)) : W p l e room_1 s m #[Value.ref b] below meth c H [] 601024 7293034 (lw_Z below #[Value.ref b] s) (F0 m pc ls [.int 1]) := by
  intro T hT X
  obtain ⟨fs, hret, hrun, hended, hW, hframe⟩ := X.leave (v := some (.int 1)) (hlocks := hlocks) (fun h => by rw [hr] at h; cases h)
  have hmeth' : T.vm.method? m = some meth := X.method'
  refine ⟨T.setFrames fs, ?_, .returned (some (.int 1)), hrun, hended, rfl, ⟨_, rfl⟩, hW, hframe⟩
  jvm_step X.here [X.here.top, hx, hb, hdg, hmeth', hr, ret, narrow_b1]
  (try refine ⟨rfl, ?_⟩); (try refine ⟨rfl, ?_⟩)
  first | (intro acts; rw [hret _ acts rfl rfl rfl]) | rw [hret _ _ rfl rfl rfl]
  exact Steps.refl _
/-- what holds at the law's entry: the machine, the code, the tables' words (any of lw_tbl by 'hts w (by decide +kernel)'), the script of L ints xs at the cell b, what the Statement gives of the start (any of its parts by flat_of_before) -/
def lw_At (p : Program) (s : State) (m : MethodId) (meth : Method) (c : Code) (b L : Nat) (xs : Nat → Int32) : Prop :=
  p.tables.exec = Jvm.exec ∧ c.code = code ∧ meth.sig.returnType = ret ∧ c.maxLocals = 7 ∧ s.vm.findClass R_law = some m.cls ∧ (∀ w ∈ lw_tbl, w.before #[Value.ref b] s = true) ∧ va_X b L xs s s.heap ∧ b < s.heap.size ∧ meth.locks = false ∧ (Jvm.Cond.and given_1 narrow_1).before #[Value.ref b] s = true
/-! WHAT HOLDS AT THE LAW'S ENTRY -/
theorem str_of {A : Array Value} {s : State} {own tx : String} {k : Nat} (h : (Cond.stringRef own k tx).before A s = true) : ∃ a, vk_R own k tx a s := by
  have hcur : ∃ cur, s.vm.findClass own = some cur := by
    have h1 := h
    simp only [Cond.before, Cond.holds, Cond.value] at h1
    cases hc : s.vm.findClass own with
    | none => simp [hc] at h1
    | some cur => exact ⟨cur, rfl⟩
  obtain ⟨cur, hcur⟩ := hcur
  obtain ⟨k9, cf, i, a, -, -, -, -, -, hev⟩ := Cond.stringRef_spec hcur h
  exact ⟨a, vk_R.of h hev⟩
theorem arr_of {A : Array Value} {s : State} {ty : FieldType} (h : (Cond.arrayClass ty).before A s = true) : ∃ cA : ClassId, ArrOfT s cA ty ∧ s.vm.findClass ("[" ++ ty.toString) = some cA := by
  obtain ⟨c, k, comp, h1, h2, h3⟩ := Cond.arrayClass_spec h
  exact ⟨c, fun n z => ⟨fun k h => (by cases h), k, h2, comp, h3⟩, h1⟩
theorem arr_obj {s : State} {C : String} (h : va_AO C s) : ∃ cA : ClassId, ArrOfT s cA (.object C) ∧ va_RA s cA (.object C) := by
  obtain ⟨comp, c, k, h1, h2, h3, h4, h5⟩ := Cond.arrayOver_spec h
  exact ⟨c, fun n z => ⟨fun k h => (by cases h), k, h3, comp, h4⟩, k, comp, h3, h4, h1, h5⟩
theorem zq_ref {C n d : String} {A : Nat → Prop} {U : State} {av : Array Value} (h : va_Zq C n d A U U.heap) : (Cond.isRef (.static C n d)).before av U = true := by
  rcases h with ⟨cf, kf, fi, f, a, cell, h1, h2, h3, h4, h5, h6, h7, h8⟩ | ⟨t, cf, kf, fi, f, a, cell, h1, h2, h3, h4, h5, h6, h7, h8⟩
  · have e := Term.static_eval (args := av) (first := U) (o := none) (idx := []) h1 h2 h4 h5 h6 h7
    simp [Cond.before, Cond.holds, Cond.value, e]
  · have e := Term.static_eval (args := av) (first := U) (o := none) (idx := []) h1 h2 h4 h5 h6 h7
    simp [Cond.before, Cond.holds, Cond.value, e]
theorem lay_at {s U : State} {A av : Array Value} {C n d : String} (hl : (Cond.laysStatic C n d).before A s = true) (hW : s.WarmedH U.vm) (hq : ∀ a : Nat, a < s.heap.size → ¬ vL s.heap.size a → U.heap[a]? = s.heap[a]?) : (Cond.laysStatic C n d).before av U = true := by
  have hal := hW.alike
  obtain ⟨c, k, i, f, a, cell, hc, hi, hst, ha, hcell, hs, hcls, hlt, hty⟩ := Cond.laysStatic_spec hl
  obtain ⟨k', hi', hek⟩ := State.fieldFound?_setVm hal hi
  have hlt9 : a < s.heap.size := (Array.getElem?_eq_some_iff.mp hcell).1
  exact Cond.laysStatic_of (s := U) (by rw [hal.findClass]; exact hc) hi' hst (by rw [hek]; exact ha) (by rw [hq a hlt9 (Nat.not_le.mpr hlt9)]; exact hcell) hs hcls hlt (by rw [hek]; exact hty)
theorem zq_at {s U : State} {A av : Array Value} {C n d : String} (hl : (Cond.laysStatic C n d).before A s = true) (hini : (Cond.initialized C).before A s = true) (h : (Cond.isRef (.static C n d)).before A s = true) (hW : s.WarmedH U.vm) (hq : ∀ a : Nat, a < s.heap.size → ¬ vL s.heap.size a → U.heap[a]? = s.heap[a]?) : (Cond.isRef (.static C n d)).before av U = true :=
  zq_ref (((va_Zqof (A := vL s.heap.size) hl hini h (fun a h => Nat.not_le.mpr h)).moved hW.alike).kept hq)
theorem dec_at {s U : State} {A av : Array Value} {x : MethodName} (h : (Cond.declares x).before A s = true) (hW : s.WarmedH U.vm) : (Cond.declares x).before av U = true :=
  va_tabs rfl (rfl : (s.setVm U.vm).vm = U.vm) (by rw [Cond.declares_setVm hW.alike]; exact h : (Cond.declares x).before A (s.setVm U.vm) = true)
theorem cast_at {s U : State} {A av : Array Value} {C T : String} (h : (Cond.castable C T).before A s = true) (hW : s.WarmedH U.vm) : (Cond.castable C T).before av U = true :=
  va_tabs rfl (rfl : (s.setVm U.vm).vm = U.vm) (by rw [Cond.castable_setVm hW.alike]; exact h : (Cond.castable C T).before A (s.setVm U.vm) = true)
theorem ncast_at {s U : State} {A av : Array Value} {C T : String} (h : (Cond.not (.castable C T)).before A s = true) (hW : s.WarmedH U.vm) : (Cond.not (.castable C T)).before av U = true := by
  have hal := hW.alike
  have h1 := Cond.holds_not_iff.mp h
  refine Cond.holds_not_iff.mpr ?_
  simp only [Cond.value, hal.findClass, hal.assignable] at h1 ⊢
  exact h1
theorem gT_start {s : State} {A : Array Value} (h : ∀ w ∈ thrW, w.before A s = true) (hini : (Cond.initialized Bundle.tN).before A s = true) : gT s.heap.size s := by
  intro U hW hq w hw av
  have g : ∀ (i : Nat) (w : Cond), thrW[i]? = some w → w.before A s = true := fun i w hi => h w (List.mem_of_getElem? hi)
  obtain ⟨i, hi⟩ := List.getElem?_of_mem hw
  have hlt : i < 14 := (List.getElem?_eq_some_iff.mp hi).1
  rcases (show i = 0 ∨ i = 1 ∨ i = 2 ∨ i = 3 ∨ i = 4 ∨ i = 5 ∨ i = 6 ∨ i = 7 ∨ i = 8 ∨ i = 9 ∨ i = 10 ∨ i = 11 ∨ i = 12 ∨ i = 13 by omega) with rfl | rfl | rfl | rfl | rfl | rfl | rfl | rfl | rfl | rfl | rfl | rfl | rfl | rfl <;> cases hi
  · exact zq_at (g 2 _ rfl) hini (g 0 _ rfl) hW hq
  · exact zq_at (g 3 _ rfl) hini (g 1 _ rfl) hW hq
  · exact lay_at (g 2 _ rfl) hW hq
  · exact lay_at (g 3 _ rfl) hW hq
  · exact dec_at (g 4 _ rfl) hW
  · exact dec_at (g 5 _ rfl) hW
  · exact dec_at (g 6 _ rfl) hW
  · exact cast_at (g 7 _ rfl) hW
  · exact cast_at (g 8 _ rfl) hW
  · exact cast_at (g 9 _ rfl) hW
  · exact cast_at (g 10 _ rfl) hW
  · exact ncast_at (g 11 _ rfl) hW
  · exact ncast_at (g 12 _ rfl) hW
  · exact ncast_at (g 13 _ rfl) hW
set_option maxHeartbeats 4000000 in
set_option maxRecDepth 100000 in
theorem gK_start {s : State} {b : Nat} (hts : ∀ w ∈ lw_tbl, w.before #[Value.ref b] s = true) (hgv : (Jvm.Cond.and given_1 narrow_1).before #[Value.ref b] s = true) : ∃ G : Gx, gK G s.heap.size s := by
  have hT : ∀ w ∈ lwT, w.before #[Value.ref b] s = true := fun w h => hts w (lwT_tbl w h)
  have hs := flat_of_before _ hgv
  have tb : ∀ (i : Nat) (w : Cond), lw_tbl[i]? = some w → w.before #[Value.ref b] s = true := fun i w h => hts w (List.mem_of_getElem? h)
  have hA : ∀ a : Nat, a < s.heap.size → ¬ vL s.heap.size a := fun a h => Nat.not_le.mpr h
  obtain ⟨c0, i0, k0⟩ := u_known hT inCk (hT _ w_in_Ck)
  obtain ⟨c1, i1, k1⟩ := u_known hT inPc (hT _ w_in_Pc)
  obtain ⟨c2, i2, k2⟩ := u_known hT inPr (hT _ w_in_Pr)
  obtain ⟨c3, i3, k3⟩ := u_known hT inRd (hT _ w_in_Rd)
  obtain ⟨c4, i4, k4⟩ := u_known hT inSp (hT _ w_in_Sp)
  obtain ⟨c5, i5, k5⟩ := u_known hT inTw (hT _ w_in_Tw)
  obtain ⟨c6, i6, k6⟩ := u_known hT inTn (hT _ w_in_Tn)
  obtain ⟨c7, i7, k7⟩ := u_known hT inSG (hT _ w_in_SG)
  obtain ⟨c8, i8, k8⟩ := u_known hT inMo (hT _ w_in_Mo)
  obtain ⟨gI9, aI9, nI9⟩ := arr_of (hT _ w_ac_int)
  obtain ⟨gB9, aB9, nB9⟩ := arr_of (hT _ w_ac_byte)
  obtain ⟨gL9, aL9, nL9⟩ := arr_of (hT _ w_ac_long)
  obtain ⟨gZ9, aZ9, nZ9⟩ := arr_of (hT _ w_ac_boolean)
  have hAO : va_AO RPc s := va_AO.of (tb 120 (.arrayOver (.object "StreetGraph$Piece")) (by decide +kernel))
  obtain ⟨gP9, aP9, nP9⟩ := arr_obj hAO
  have x0 : (Cond.exactly (.string "StreetGraph$Printer" 105) "java/lang/String").before #[Value.ref b] s = true := hs _ (by decide +kernel)
  have x1 : (Cond.eq (.field (.string "StreetGraph$Printer" 105) "java/lang/String" "coder" "B") (.int 0)).before #[Value.ref b] s = true := hs _ (by decide +kernel)
  have x2 : (Cond.arrayOf (.field (.string "StreetGraph$Printer" 105) "java/lang/String" "value" "[B") .byte).before #[Value.ref b] s = true := hs _ (by decide +kernel)
  have x3 : (Cond.eq (.length (.field (.string "StreetGraph$Printer" 105) "java/lang/String" "value" "[B")) (.int 5)).before #[Value.ref b] s = true := hs _ (by decide +kernel)
  have y0 : (Cond.eq (.elem (.field (.string "StreetGraph$Printer" 105) "java/lang/String" "value" "[B") (.int 0)) (.int 114)).before #[Value.ref b] s = true := hs _ (by decide +kernel)
  have y1 : (Cond.eq (.elem (.field (.string "StreetGraph$Printer" 105) "java/lang/String" "value" "[B") (.int 1)) (.int 98)).before #[Value.ref b] s = true := hs _ (by decide +kernel)
  have y2 : (Cond.eq (.elem (.field (.string "StreetGraph$Printer" 105) "java/lang/String" "value" "[B") (.int 2)) (.int 116)).before #[Value.ref b] s = true := hs _ (by decide +kernel)
  have y3 : (Cond.eq (.elem (.field (.string "StreetGraph$Printer" 105) "java/lang/String" "value" "[B") (.int 3)) (.int 102)).before #[Value.ref b] s = true := hs _ (by decide +kernel)
  have y4 : (Cond.eq (.elem (.field (.string "StreetGraph$Printer" 105) "java/lang/String" "value" "[B") (.int 4)) (.int 119)).before #[Value.ref b] s = true := hs _ (by decide +kernel)
  obtain ⟨adK, adV, hS, hE⟩ := vk_Sof (args := #[Value.ref b]) (s := s) (A := vL s.heap.size) (N := 1) (tm := fun _ => (.string "StreetGraph$Printer" 105)) (len := [5]) (byt := [[114, 98, 116, 102, 119]]) (fun i hi => by have e : i = 0 := (by omega); subst e; exact (by decide)) (fun _ _ => x0) (fun _ _ => x1) (fun _ _ => x2) (fun i hi => by have e : i = 0 := (by omega); subst e; exact x3)
    (fun i hi j hj => by
      have e : i = 0 := (by omega)
      subst e
      have hj5 : j < 5 := hj
      rcases (show j = 0 ∨ j = 1 ∨ j = 2 ∨ j = 3 ∨ j = 4 by omega) with rfl | rfl | rfl | rfl | rfl
      · exact y0
      · exact y1
      · exact y2
      · exact y3
      · exact y4) (fun i j hi hj h => absurd (show i = j by omega) h) hA
  have e1 := hE 0 (by omega)
  have h0 := hS.1 0 (by omega)
  have sP : vk_R RPr 105 "rbtfw" (adK 0) s := vk_R.of (A := #[Value.ref b]) (tb 338 (.stringRef "StreetGraph$Printer" 105 "rbtfw") (by decide +kernel)) e1
  obtain ⟨a2, s2⟩ := str_of (tb 650 (.stringRef "StreetGraph$Reader" 109 "rbtfw") (by decide +kernel))
  have hq : (Cond.eq (.string "StreetGraph$Printer" 105) (.string "StreetGraph$Reader" 109)).before #[Value.ref b] s = true := hs _ (by decide +kernel)
  have e3 : adK 0 = a2 := by
    have e2 : (Term.string "StreetGraph$Reader" 109).eval #[Value.ref b] s none [] s = some (.ref a2) := s2.2
    simp only [Cond.before, Cond.holds, Cond.value, e1, e2] at hq
    simpa using hq
  refine ⟨((fun c => [c0, c1, c2, c3, c4, c5, c6, c7, c8].getD c c0, fun c => [i0, i1, i2, i3, i4, i5, i6, i7, i8].getD c i0), (gI9, gB9, gL9, gZ9, gP9), adK 0, adV 0), ⟨?_, ?_⟩, ?_, hAO, ?_, ?_, ?_⟩
  · intro c q hq
    have hlt : c < 9 := (List.getElem?_eq_some_iff.mp hq).1
    rcases (show c = 0 ∨ c = 1 ∨ c = 2 ∨ c = 3 ∨ c = 4 ∨ c = 5 ∨ c = 6 ∨ c = 7 ∨ c = 8 by omega) with rfl | rfl | rfl | rfl | rfl | rfl | rfl | rfl | rfl <;> cases hq
    · exact k0
    · exact k1
    · exact k2
    · exact k3
    · exact k4
    · exact k5
    · exact k6
    · exact k7
    · exact k8
  · intro k q hq
    have hlt : k < 5 := (List.getElem?_eq_some_iff.mp hq).1
    rcases (show k = 0 ∨ k = 1 ∨ k = 2 ∨ k = 3 ∨ k = 4 by omega) with rfl | rfl | rfl | rfl | rfl <;> cases hq
    · exact ⟨aI9, nI9⟩
    · exact ⟨aB9, nB9⟩
    · exact ⟨aL9, nL9⟩
    · exact ⟨aZ9, nZ9⟩
    · exact ⟨aP9, nP9⟩
  · intro w hw
    obtain ⟨i, hi⟩ := List.getElem?_of_mem hw
    have hlt : i < 7 := (List.getElem?_eq_some_iff.mp hi).1
    rcases (show i = 0 ∨ i = 1 ∨ i = 2 ∨ i = 3 ∨ i = 4 ∨ i = 5 ∨ i = 6 by omega) with rfl | rfl | rfl | rfl | rfl | rfl | rfl <;> cases hi
    · exact va_Nw.of rfl (tb 62 (.methodLinkNest "StreetGraph" 9 ⟨"StreetGraph$Reader", "<init>", "()V"⟩ "StreetGraph") (by decide +kernel))
    · exact va_Nw.of rfl (tb 80 (.methodLinkNest "StreetGraph" 18 ⟨"StreetGraph$Checker", "<init>", "()V"⟩ "StreetGraph") (by decide +kernel))
    · exact va_Nw.of rfl (tb 100 (.methodLinkNest "StreetGraph" 25 ⟨"StreetGraph$Printer", "<init>", "()V"⟩ "StreetGraph") (by decide +kernel))
    · exact va_Nw.of rfl (tb 115 (.methodLinkNest "StreetGraph" 32 ⟨"StreetGraph$Town", "<init>", "()V"⟩ "StreetGraph") (by decide +kernel))
    · exact va_Nw.of rfl (tb 123 (.methodLinkNest "StreetGraph$Town" 19 ⟨"StreetGraph$Spots", "<init>", "()V"⟩ "StreetGraph") (by decide +kernel))
    · exact va_Nw.of rfl (tb 142 (.methodLinkNest "StreetGraph$Town" 29 ⟨"StreetGraph$Turns", "<init>", "()V"⟩ "StreetGraph") (by decide +kernel))
    · exact va_Nw.of rfl (tb 559 (.methodLinkNest "StreetGraph$Reader" 67 ⟨"StreetGraph$Piece", "<init>", "()V"⟩ "StreetGraph") (by decide +kernel))
  · refine gT_start (A := #[Value.ref b]) ?_ (hT _ w_it_Th)
    · intro w hw
      obtain ⟨i, hi⟩ := List.getElem?_of_mem hw
      have hlt : i < 14 := (List.getElem?_eq_some_iff.mp hi).1
      rcases (show i = 0 ∨ i = 1 ∨ i = 2 ∨ i = 3 ∨ i = 4 ∨ i = 5 ∨ i = 6 ∨ i = 7 ∨ i = 8 ∨ i = 9 ∨ i = 10 ∨ i = 11 ∨ i = 12 ∨ i = 13 by omega) with rfl | rfl | rfl | rfl | rfl | rfl | rfl | rfl | rfl | rfl | rfl | rfl | rfl | rfl <;> cases hi
      · exact hs _ (by decide +kernel)
      · exact hs _ (by decide +kernel)
      · exact tb 440 (.laysStatic "java/lang/Throwable" "UNASSIGNED_STACK" "[Ljava/lang/StackTraceElement;") (by decide +kernel)
      · exact tb 442 (.laysStatic "java/lang/Throwable" "SUPPRESSED_SENTINEL" "Ljava/util/List;") (by decide +kernel)
      · exact tb 417 (.declares ⟨"java/lang/RuntimeException", "<init>", "(Ljava/lang/String;)V"⟩) (by decide +kernel)
      · exact tb 419 (.declares ⟨"java/lang/Exception", "<init>", "(Ljava/lang/String;)V"⟩) (by decide +kernel)
      · exact tb 421 (.declares ⟨"java/lang/Throwable", "<init>", "(Ljava/lang/String;)V"⟩) (by decide +kernel)
      · exact tb 415 (.castable "java/lang/IndexOutOfBoundsException" "java/lang/IndexOutOfBoundsException") (by decide +kernel)
      · exact tb 487 (.castable "java/lang/UnsupportedOperationException" "java/lang/UnsupportedOperationException") (by decide +kernel)
      · exact tb 704 (.castable "java/lang/IllegalStateException" "java/lang/IllegalStateException") (by decide +kernel)
      · exact tb 734 (.castable "java/lang/IllegalArgumentException" "java/lang/IllegalArgumentException") (by decide +kernel)
      · exact hs _ (by decide +kernel)
      · exact hs _ (by decide +kernel)
      · exact hs _ (by decide +kernel)
  · intro w hw
    obtain ⟨i, hi⟩ := List.getElem?_of_mem hw
    have hlt : i < 11 := (List.getElem?_eq_some_iff.mp hi).1
    rcases (show i = 0 ∨ i = 1 ∨ i = 2 ∨ i = 3 ∨ i = 4 ∨ i = 5 ∨ i = 6 ∨ i = 7 ∨ i = 8 ∨ i = 9 ∨ i = 10 by omega) with rfl | rfl | rfl | rfl | rfl | rfl | rfl | rfl | rfl | rfl | rfl <;> cases hi
    · exact str_of (tb 455 (.stringRef "StreetGraph" 46 "one to eight bytes") (by decide +kernel))
    · exact str_of (tb 494 (.stringRef "StreetGraph" 57 "the tape is full") (by decide +kernel))
    · exact str_of (tb 711 (.stringRef "StreetGraph" 77 "the text is wrong") (by decide +kernel))
    · exact str_of (tb 718 (.stringRef "StreetGraph" 90 "too many barred turns") (by decide +kernel))
    · exact str_of (tb 741 (.stringRef "StreetGraph" 101 "no such piece") (by decide +kernel))
    · exact str_of (tb 748 (.stringRef "StreetGraph" 128 "no such what") (by decide +kernel))
    · exact str_of (tb 756 (.stringRef "StreetGraph" 130 "no such hour") (by decide +kernel))
    · exact str_of (tb 768 (.stringRef "StreetGraph" 136 "below 0") (by decide +kernel))
    · exact str_of (tb 780 (.stringRef "StreetGraph" 145 "no such node") (by decide +kernel))
    · exact str_of (tb 790 (.stringRef "StreetGraph" 165 "no such spot") (by decide +kernel))
    · exact str_of (tb 805 (.stringRef "StreetGraph" 178 "no such fault") (by decide +kernel))
  · refine ⟨by rw [show gK1 (((fun c => [c0, c1, c2, c3, c4, c5, c6, c7, c8].getD c c0, fun c => [i0, i1, i2, i3, i4, i5, i6, i7, i8].getD c i0), (gI9, gB9, gL9, gZ9, gP9), adK 0, adV 0) : Gx) = a2 from e3]; exact s2, sP, h0.1, h0.2.1, h0.2.2.1, h0.2.2.2, ?_, ?_⟩
    · exact va_Zof (tb 348 (.laysStatic "java/lang/String" "COMPACT_STRINGS" "Z") (by decide +kernel)) (hT _ w_it_St) (va_eqi (hs _ (by decide +kernel))) hA
    · exact va_Zqof (tb 364 (.laysStatic "jdk/internal/util/Preconditions" "SIOOBE_FORMATTER" "Ljava/util/function/BiFunction;") (by decide +kernel)) (hT _ w_it_Pk) (hs _ (by decide +kernel)) hA
