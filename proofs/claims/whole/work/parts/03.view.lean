/-! VIEWS: the heap as a map from addresses to what lies there; a write changes the map at one address, all else stays. -/
abbrev Vw : Type := Nat → Option va_E
/-- what an object, an array of numbers, of longs, of references is in a view -/
abbrev eO (ci : Nat) (fs : List Value) : va_E := .inr (ci, fs)
abbrev eI (c : ClassId) (n : Nat) (f : Nat → Int32) : va_E := .inl (c, n, .inl f)
abbrev eL (c : ClassId) (n : Nat) (f : Nat → Int64) : va_E := .inl (c, n, .inr (.inl f))
abbrev eQ (c : ClassId) (n : Nat) (f : Nat → Option Nat) : va_E := .inl (c, n, .inr (.inr (.inr (.inr f))))
def vL (lo : Nat) : Nat → Prop := fun q => lo ≤ q
def vB (D : va_G) (cl : List vw_C) (lo : Nat) (H : Heap) (V : Vw) : Prop := lo ≤ H.size ∧ ∀ (a : Nat) (x : va_E), V a = some x → lo ≤ a ∧ va_at D cl (a, x) H
/-- the view now, beside the method's entry state s -/
def vS (D : va_G) (cl : List vw_C) (lo : Nat) (s : State) (H : Heap) (locs : List Loc) (V : Vw) : Prop := vB D cl lo H V ∧ va_S (vL lo) s.heap H locs ∧ lo ≤ s.heap.size
theorem vB.one {D : va_G} {cl : List vw_C} {lo : Nat} {H : Heap} {V : Vw} (h : vB D cl lo H V) {a : Nat} {x : va_E} (hx : V a = some x) : va_P D cl [(a, x)] H := by
  intro k q hq
  have hz : k < 1 := (List.getElem?_eq_some_iff.mp hq).1
  rw [show k = 0 by omega] at hq
  cases hq
  exact (h.2 a x hx).2
theorem vB.lt {D : va_G} {cl : List vw_C} {lo : Nat} {H : Heap} {V : Vw} (h : vB D cl lo H V) {a : Nat} {x : va_E} (hx : V a = some x) : a < H.size := (h.2 a x hx).2.lt
theorem vB.none {D : va_G} {cl : List vw_C} {lo : Nat} {H : Heap} {V : Vw} (h : vB D cl lo H V) {a : Nat} (ha : H.size ≤ a) : V a = none := by
  cases hv : V a with
  | none => rfl
  | some x => exact absurd (h.lt hv) (by omega)
theorem vB.ge {D : va_G} {cl : List vw_C} {lo : Nat} {H : Heap} {V : Vw} (h : vB D cl lo H V) {a : Nat} {x : va_E} (hx : V a = some x) : lo ≤ a := (h.2 a x hx).1
theorem vS.entry {D : va_G} {cl : List vw_C} {lo : Nat} {s : State} {V : Vw} (h : vB D cl lo s.heap V) : vS D cl lo s s.heap [] V := ⟨h, va_S.rf, h.1⟩
/-- a write at one address -/
theorem vS.set {D : va_G} {cl : List vw_C} {lo : Nat} {s : State} {H H1 : Heap} {locs : List Loc} {V : Vw} (h : vS D cl lo s H locs V) {a k : Nat} {x0 x : va_E} (h0 : V a = some x0) (hx : va_at D cl (a, x) H1) (z : H1.size = H.size) (oq : ∀ q : Nat, q ≠ a → H1[q]? = H[q]?) : vS D cl lo s H1 (locs ++ [⟨a, k⟩]) (va_up V a (some x)) := by
  refine ⟨⟨by rw [z]; exact h.1.1, fun b y hy => ?_⟩, h.2.1.put z oq (h.1.ge h0), h.2.2⟩
  unfold va_up at hy
  by_cases hb : b = a
  · subst hb
    rw [if_pos rfl] at hy
    cases hy
    exact ⟨h.1.ge h0, hx⟩
  · rw [if_neg hb] at hy
    obtain ⟨g1, g2⟩ := h.1.2 b y hy
    exact ⟨g1, g2.kept (oq b hb)⟩
/-- a new cell -/
theorem vS.push {D : va_G} {cl : List vw_C} {lo : Nat} {s : State} {H H1 : Heap} {locs : List Loc} {V : Vw} (h : vS D cl lo s H locs V) {x : va_E} (hx : va_at D cl (H.size, x) H1) (z : H1.size = H.size + 1) (oq : ∀ q : Nat, q < H.size → H1[q]? = H[q]?) : vS D cl lo s H1 locs (va_up V H.size (some x)) := by
  refine ⟨⟨by rw [z]; exact Nat.le_succ_of_le h.1.1, fun b y hy => ?_⟩, ⟨Nat.le_trans h.2.1.1 (by omega), fun q h1 h2 => (oq q (Nat.lt_of_lt_of_le h1 h.2.1.1)).trans (h.2.1.2.1 q h1 h2), h.2.1.2.2⟩, h.2.2⟩
  unfold va_up at hy
  by_cases hb : b = H.size
  · subst hb
    rw [if_pos rfl] at hy
    cases hy
    exact ⟨h.1.1, hx⟩
  · rw [if_neg hb] at hy
    obtain ⟨g1, g2⟩ := h.1.2 b y hy
    exact ⟨g1, g2.kept (oq b g2.lt)⟩
section VV
variable {p : Program} {l : Launch} {e : Env} {R : Room} {s : State} {m : MethodId} {args : Array Value} {below : List Frame} {meth : Method} {c : Code} {H : Heap} {locs : List Loc} {cells slots : Nat} {Q : State → Prop}
variable {cc : ByteArray} {pc : Nat} {ls : Array Slot} {rest : List Value} {D : va_G} {cl : List vw_C} {a lo : Nat} {tys : List (ClassId × FieldType)} {V : Vw}
theorem v_get (hexec : p.tables.exec = Jvm.exec) (hb : c.code = cc) {own ref C : String} {T : u_T} {N ci index : Nat} {Ts : List Cond} (hts : ∀ w ∈ Ts, w.before args s = true) (hin : ∀ w ∈ u_ws C T N, w ∈ Ts) (hown : s.vm.findClass own = some m.cls) (hK : va_K D cl tys s) (hV : vS D cl lo s H locs V) {fs : List Value} (he : V a = some (eO ci fs)) (hc : cl[ci]? = some (C, T, N)) (k : Nat) (hk : k < N) (hlink : (Cond.fieldLink own index ref (T k).2.1 (T k).2.2.1).before args s = true) (hsame : ∀ x, s.fieldFound? (T k).1 (T k).2.1 (T k).2.2.1 = some x → s.fieldFound? ref (T k).2.1 (T k).2.2.1 = some x) {v : Value} (hv : fs[k]? = some v) (hdg : decode cc pc = .ok (.getfield index, 3))
    (kk : W p l e R s m args below meth c H locs cells slots Q (F0 m (pc + 3) ls (v :: rest))) : W p l e R s m args below meth c H locs cells slots Q (F0 m pc ls (.ref a :: rest)) :=
  va_get hexec hb hts hin hown hK (hV.1.one he) 0 rfl hc k hk hlink hsame hv hdg kk
theorem v_put (hexec : p.tables.exec = Jvm.exec) (hb : c.code = cc) {own ref C : String} {T : u_T} {N ci index : Nat} {Ts : List Cond} (hts : ∀ w ∈ Ts, w.before args s = true) (hin : ∀ w ∈ u_ws C T N, w ∈ Ts) (ty0 : Nat → FieldType) (hty : ∀ k, k < N → parseFieldDescriptor (T k).2.2.1 = some (ty0 k)) (hnm : ∀ a, a < N → ∀ b, b < N → a ≠ b → (T a).2.1 ≠ (T b).2.1) (hown : s.vm.findClass own = some m.cls) (hK : va_K D cl tys s) (hV : vS D cl lo s H locs V) {fs : List Value} (he : V a = some (eO ci fs)) (hc : cl[ci]? = some (C, T, N)) (k : Nat) (hk : k < N) (hlink : (Cond.fieldLink own index ref (T k).2.1 (T k).2.2.1).before args s = true) (hsame : ∀ x, s.fieldFound? (T k).1 (T k).2.1 (T k).2.2.1 = some x → s.fieldFound? ref (T k).2.1 (T k).2.2.1 = some x) (hfin : (T k).2.2.2 = false) {ty : FieldType} {v : Value} (hd : parseFieldDescriptor (T k).2.2.1 = some ty) (hn : narrow ty v = v) (hfit : fits ty v = true) (hl : k < fs.length)
    (hdg : decode cc pc = .ok (.putfield index, 3)) (kk : ∀ (H1 : Heap) (locs1 : List Loc), vS D cl lo s H1 locs1 (va_up V a (some (eO ci (fs.set k v)))) → H1.size = H.size → W p l e R s m args below meth c H1 locs1 cells slots Q (F0 m (pc + 3) ls rest)) : W p l e R s m args below meth c H locs cells slots Q (F0 m pc ls (v :: .ref a :: rest)) := by
  have hap := va_apart (own := own) hts hin ty0 hty hnm hK hc
  obtain ⟨r, h1, cell, q1, q2, q3, q4⟩ := (hV.1.2 a _ he).2
  have hr : r = (C, T, N) := Option.some.inj (h1.symm.trans hc)
  subst hr
  obtain ⟨hS, hfc, kC, hkC, hkind⟩ := hK.1 ci _ hc
  obtain ⟨cf, kf, fi, f, hi, hsl⟩ := hS k hk
  have hlay := hts _ (hin _ (u_in_lay hk))
  unfold u_lay at hlay
  rw [if_neg (by rw [hfin]; decide)] at hlay
  have hst := (u_facts hfc hkC (u_lays hts hin hk) hi).1
  have h6 := u_store hfc hkC hkind hlay hi hd hn hfit
  refine W.putK hexec hb (f := f) ⟨hown, hlink, ⟨_, _, _, hsame _ hi⟩, hst⟩ (by rw [q2]; exact h6) q1 q3 (by rw [hsl]; exact k2_hasslot (q4 k hk)) rfl rfl hdg fun H' e1 e2 e3 => ?_
  rw [hsl] at e1 ⊢
  exact kk H' _ (hV.set he ⟨_, hc, t_OB.to (V := updV (vp_V fs) k v) ⟨_, e1, q2, q3, t_set q4 hap hk v⟩ (fun j _ => vp_updV_set hl v j)⟩ e2 e3) e2
theorem v_putF (hexec : p.tables.exec = Jvm.exec) (hb : c.code = cc) {own ref C : String} {T : u_T} {N ci index : Nat} {Ts : List Cond} (hts : ∀ w ∈ Ts, w.before args s = true) (hin : ∀ w ∈ u_ws C T N, w ∈ Ts) (ty0 : Nat → FieldType) (hty : ∀ k, k < N → parseFieldDescriptor (T k).2.2.1 = some (ty0 k)) (hnm : ∀ a, a < N → ∀ b, b < N → a ≠ b → (T a).2.1 ≠ (T b).2.1) (hown : s.vm.findClass own = some m.cls) (hK : va_K D cl tys s) (hV : vS D cl lo s H locs V) {fs : List Value} (he : V a = some (eO ci fs)) (hc : cl[ci]? = some (C, T, N)) (k : Nat) (hk : k < N) (hlink : (Cond.fieldLink own index ref (T k).2.1 (T k).2.2.1).before args s = true) (hsame : ∀ x, s.fieldFound? (T k).1 (T k).2.1 (T k).2.2.1 = some x → s.fieldFound? ref (T k).2.1 (T k).2.2.1 = some x) (hfin : (T k).2.2.2 = true) (hin2 : meth.name = "<init>") (hdecl : (T k).1 = own) {ty : FieldType} {v : Value} (hd : parseFieldDescriptor (T k).2.2.1 = some ty) (hn : narrow ty v = v) (hfit : fits ty v = true) (hl : k < fs.length)
    (hdg : decode cc pc = .ok (.putfield index, 3)) (kk : ∀ (H1 : Heap) (locs1 : List Loc), vS D cl lo s H1 locs1 (va_up V a (some (eO ci (fs.set k v)))) → H1.size = H.size → W p l e R s m args below meth c H1 locs1 cells slots Q (F0 m (pc + 3) ls rest)) : W p l e R s m args below meth c H locs cells slots Q (F0 m pc ls (v :: .ref a :: rest)) := by
  have hap := va_apart (own := own) hts hin ty0 hty hnm hK hc
  obtain ⟨r, h1, cell, q1, q2, q3, q4⟩ := (hV.1.2 a _ he).2
  have hr : r = (C, T, N) := Option.some.inj (h1.symm.trans hc)
  subst hr
  obtain ⟨hS, hfc, kC, hkC, hkind⟩ := hK.1 ci _ hc
  obtain ⟨cf, kf, fi, f, hi, hsl⟩ := hS k hk
  have hlay := hts _ (hin _ (u_in_lay hk))
  unfold u_lay at hlay
  rw [if_pos hfin] at hlay
  have hst := (u_facts hfc hkC (u_lays hts hin hk) hi).1
  have hcf : m.cls = cf := by
    obtain ⟨_, _, c', _, _, _, -, -, hf', -, -, -, hown2, -⟩ := Cond.laysFinal_spec hlay
    have e1 : c' = cf := by have := hi.symm.trans hf'; simp at this; exact this.1.symm
    rw [hdecl] at hown2
    rw [← e1]; exact Option.some.inj (hown.symm.trans hown2)
  have h6 := u_fits hfc hkC hkind (Or.inr hlay) hi hd hn hfit
  refine W.putFinK hexec hb hown hlink (hsame _ hi) hst hcf hin2 (by rw [q2]; exact h6) q1 q3 (by rw [hsl]; exact k2_hasslot (q4 k hk)) rfl rfl hdg fun H' e1 e2 e3 => ?_
  rw [hsl] at e1 ⊢
  exact kk H' _ (hV.set he ⟨_, hc, t_OB.to (V := updV (vp_V fs) k v) ⟨_, e1, q2, q3, t_set q4 hap hk v⟩ (fun j _ => vp_updV_set hl v j)⟩ e2 e3) e2
theorem v_iald (hexec : p.tables.exec = Jvm.exec) (hb : c.code = cc) (hK : va_K D cl tys s) (hV : vS D cl lo s H locs V) (t0 : Nat) {cA : ClassId} {n : Nat} {f : Nat → Int32} (ha : V a = some (eI cA n f)) (ht : tys[t0]? = some (cA, .int)) {i : Int32} (hin : vp_in i n) (hdg : decode cc pc = .ok (.iaload, 1))
    (kk : W p l e R s m args below meth c H locs cells slots Q (F0 m (pc + 1) ls (.int (f i.toNatClampNeg) :: rest))) : W p l e R s m args below meth c H locs cells slots Q (F0 m pc ls (.int i :: .ref a :: rest)) :=
  va_iald hexec hb hK (hV.1.one ha) 0 t0 rfl ht hin hdg kk
theorem v_bald (hexec : p.tables.exec = Jvm.exec) (hb : c.code = cc) (hK : va_K D cl tys s) (hV : vS D cl lo s H locs V) (t0 : Nat) {cA : ClassId} {n : Nat} {f : Nat → Int32} (ha : V a = some (eI cA n f)) (ht : tys[t0]? = some (cA, .byte)) {i : Int32} (hin : vp_in i n) (hdg : decode cc pc = .ok (.baload, 1))
    (kk : W p l e R s m args below meth c H locs cells slots Q (F0 m (pc + 1) ls (.int (f i.toNatClampNeg) :: rest))) : W p l e R s m args below meth c H locs cells slots Q (F0 m pc ls (.int i :: .ref a :: rest)) :=
  va_bald hexec hb hK (hV.1.one ha) 0 t0 rfl ht hin hdg kk
theorem v_lald (hexec : p.tables.exec = Jvm.exec) (hb : c.code = cc) (hK : va_K D cl tys s) (hV : vS D cl lo s H locs V) (t0 : Nat) {cA : ClassId} {n : Nat} {f : Nat → Int64} (ha : V a = some (eL cA n f)) (ht : tys[t0]? = some (cA, .long)) {i : Int32} (hin : vp_in i n) (hdg : decode cc pc = .ok (.laload, 1))
    (kk : W p l e R s m args below meth c H locs cells slots Q (F0 m (pc + 1) ls (.long (f i.toNatClampNeg) :: rest))) : W p l e R s m args below meth c H locs cells slots Q (F0 m pc ls (.int i :: .ref a :: rest)) :=
  va_lald hexec hb hK (hV.1.one ha) 0 t0 rfl ht hin hdg kk
theorem v_aald (hexec : p.tables.exec = Jvm.exec) (hb : c.code = cc) (hK : va_K D cl tys s) (hV : vS D cl lo s H locs V) (t0 : Nat) {cA : ClassId} {C : String} {n : Nat} {f : Nat → Option Nat} (ha : V a = some (eQ cA n f)) (ht : tys[t0]? = some (cA, .object C)) {i : Int32} (hin : vp_in i n) (hdg : decode cc pc = .ok (.aaload, 1))
    (kk : W p l e R s m args below meth c H locs cells slots Q (F0 m (pc + 1) ls (va_rf (f i.toNatClampNeg) :: rest))) : W p l e R s m args below meth c H locs cells slots Q (F0 m pc ls (.int i :: .ref a :: rest)) :=
  va_aldq hexec hb hK (hV.1.one ha) 0 t0 rfl ht hin hdg kk
theorem v_alen (hexec : p.tables.exec = Jvm.exec) (hb : c.code = cc) (hK : va_K D cl tys s) (hV : vS D cl lo s H locs V) (t0 : Nat) {cA : ClassId} {x : vp_A} (ha : V a = some (.inl (cA, x))) {ty : FieldType} (ht : tys[t0]? = some (cA, ty)) {v : Int32} (hv : Int32.ofNat x.1 = v) (hdg : decode cc pc = .ok (.arraylength, 1))
    (kk : W p l e R s m args below meth c H locs cells slots Q (F0 m (pc + 1) ls (.int v :: rest))) : W p l e R s m args below meth c H locs cells slots Q (F0 m pc ls (.ref a :: rest)) :=
  va_alen hexec hb hK (hV.1.one ha) 0 t0 rfl ht hv hdg kk
theorem v_iast (hexec : p.tables.exec = Jvm.exec) (hb : c.code = cc) (hK : va_K D cl tys s) (hV : vS D cl lo s H locs V) (t0 : Nat) {cA : ClassId} {n : Nat} {f : Nat → Int32} (ha : V a = some (eI cA n f)) (ht : tys[t0]? = some (cA, .int)) {i : Int32} {x : Int32} (hin : vp_in i n) (hdg : decode cc pc = .ok (.iastore, 1))
    (kk : ∀ (H1 : Heap) (locs1 : List Loc), vS D cl lo s H1 locs1 (va_up V a (some (eI cA n (upd f i.toNatClampNeg x)))) → H1.size = H.size → W p l e R s m args below meth c H1 locs1 cells slots Q (F0 m (pc + 1) ls rest)) : W p l e R s m args below meth c H locs cells slots Q (F0 m pc ls (.int x :: .int i :: .ref a :: rest)) := by
  have hP := hV.1.one ha
  refine W.iast hexec hb (hP 0 _ rfl) ((hK.2 t0 _ ht).1 n (fun j => .int (f j))) (fun q => by cases q) (by show ¬ (i < 0 ∨ (arrV _ _ _).slots.size ≤ _); rw [arrV_size]; exact hin) rfl rfl hdg fun H1 e z oq => ?_
  refine kk H1 _ (hV.set ha ?_ z oq) z
  show H1[a]? = some (vp_cell _ _)
  rw [e]
  rw [vp_cell_i, vp_cell_i, arrV_store]
  congr 2
  funext q
  by_cases hq : q = i.toNatClampNeg
  · subst hq
    simp [updV, upd]
  · simp [updV, upd, hq]
theorem v_bast (hexec : p.tables.exec = Jvm.exec) (hb : c.code = cc) (hK : va_K D cl tys s) (hV : vS D cl lo s H locs V) (t0 : Nat) {cA : ClassId} {n : Nat} {f : Nat → Int32} (ha : V a = some (eI cA n f)) (ht : tys[t0]? = some (cA, .byte)) {i : Int32} {x : Int32} (hin : vp_in i n) (hdg : decode cc pc = .ok (.bastore, 1))
    (kk : ∀ (H1 : Heap) (locs1 : List Loc), vS D cl lo s H1 locs1 (va_up V a (some (eI cA n (upd f i.toNatClampNeg (vp_nar .byte x))))) → H1.size = H.size → W p l e R s m args below meth c H1 locs1 cells slots Q (F0 m (pc + 1) ls rest)) : W p l e R s m args below meth c H locs cells slots Q (F0 m pc ls (.int x :: .int i :: .ref a :: rest)) := by
  have hP := hV.1.one ha
  refine W.bast hexec hb (hP 0 _ rfl) ((hK.2 t0 _ ht).1 n (fun j => .int (f j))) (fun q => by cases q) (by show ¬ (i < 0 ∨ (arrV _ _ _).slots.size ≤ _); rw [arrV_size]; exact hin) rfl rfl hdg fun H1 e z oq => ?_
  refine kk H1 _ (hV.set ha ?_ z oq) z
  show H1[a]? = some (vp_cell _ _)
  rw [e]
  rw [vp_cell_i, vp_cell_i, arrV_store]
  congr 2
  funext q
  by_cases hq : q = i.toNatClampNeg
  · subst hq
    simp [updV, upd, vp_nar]
    try rfl
  · simp [updV, upd, hq]
end VV
section VV2
variable {p : Program} {l : Launch} {e : Env} {R : Room} {s : State} {m : MethodId} {args : Array Value} {below : List Frame} {meth : Method} {c : Code} {H : Heap} {locs : List Loc} {cells slots : Nat} {Q : State → Prop}
variable {cc : ByteArray} {pc : Nat} {ls : Array Slot} {rest : List Value} {D : va_G} {cl : List vw_C} {a lo : Nat} {tys : List (ClassId × FieldType)} {V : Vw}
theorem v_last (hexec : p.tables.exec = Jvm.exec) (hb : c.code = cc) (hK : va_K D cl tys s) (hV : vS D cl lo s H locs V) (t0 : Nat) {cA : ClassId} {n : Nat} {f : Nat → Int64} (ha : V a = some (eL cA n f)) (ht : tys[t0]? = some (cA, .long)) {i : Int32} {x : Int64} (hin : vp_in i n) (hdg : decode cc pc = .ok (.lastore, 1))
    (kk : ∀ (H1 : Heap) (locs1 : List Loc), vS D cl lo s H1 locs1 (va_up V a (some (eL cA n (vp_updL f i.toNatClampNeg x)))) → H1.size = H.size → W p l e R s m args below meth c H1 locs1 cells slots Q (F0 m (pc + 1) ls rest)) : W p l e R s m args below meth c H locs cells slots Q (F0 m pc ls (.long x :: .int i :: .ref a :: rest)) := by
  have hP := hV.1.one ha
  refine W.last hexec hb (hP 0 _ rfl) ((hK.2 t0 _ ht).1 n (fun j => .long (f j))) (fun q => by cases q) (by show ¬ (i < 0 ∨ (arrV _ _ _).slots.size ≤ _); rw [arrV_size]; exact hin) rfl rfl hdg fun H1 e z oq => ?_
  refine kk H1 _ (hV.set ha ?_ z oq) z
  show H1[a]? = some (vp_cell _ _)
  rw [e]
  rw [vp_cell_l, vp_cell_l, arrV_store]
  congr 2
  funext q
  by_cases hq : q = i.toNatClampNeg
  · subst hq
    simp [updV, vp_updL]
  · simp [updV, vp_updL, hq]
theorem v_aast (hexec : p.tables.exec = Jvm.exec) (hb : c.code = cc) (hK : va_K D cl tys s) (hV : vS D cl lo s H locs V) (t0 ci : Nat) {cA : ClassId} {r : vw_C} {n v : Nat} {vs : List Value} {f : Nat → Option Nat} (ha : V a = some (eQ cA n f)) (ht : tys[t0]? = some (cA, .object r.1)) (hv : V v = some (eO ci vs)) (hc : cl[ci]? = some r) {i : Int32} (hin : vp_in i n) (hdg : decode cc pc = .ok (.aastore, 1))
    (kk : ∀ (H1 : Heap) (locs1 : List Loc), vS D cl lo s H1 locs1 (va_up V a (some (eQ cA n (va_up f i.toNatClampNeg (some v))))) → H1.size = H.size → W p l e R s m args below meth c H1 locs1 cells slots Q (F0 m (pc + 1) ls rest)) : W p l e R s m args below meth c H locs cells slots Q (F0 m pc ls (.ref v :: .int i :: .ref a :: rest)) := by
  have hP := hV.1.one ha
  have hlt : i.toNatClampNeg < n := Nat.not_le.mp fun q => hin (Or.inr q)
  have h0 : ¬ i < 0 := fun q => hin (Or.inl q)
  obtain ⟨r', hr', cellV, g1, g2, g3, -⟩ := (hV.1.2 v _ hv).2
  have hcls := (hK.1 ci r hc).2
  obtain ⟨kA, comp, k1, k2, k3, -⟩ := (hK.2 t0 _ ht).2
  have hcomp : comp = D.1 ci := Option.some.inj (k3.symm.trans hcls.1)
  subst hcomp
  obtain ⟨kC, hkC, -⟩ := id hcls.2
  refine W.aast hexec hb (hP 0 _ rfl) (fun q h => by cases h) (fun h => by cases h) k1 k2 rfl hkC ⟨h0, by show _ < (arrV _ _ _).slots.size; rw [arrV_size]; exact hlt⟩ g1 (fun q h => by rw [g3] at h; cases h) (by rw [g2]; exact hkC) (by rw [g2]; exact va_assign hcls) rfl rfl hdg fun H1 e z oq => ?_
  refine kk H1 _ (hV.set ha ?_ z oq) z
  show H1[a]? = some (vp_cell _ _)
  rw [e]
  rw [vp_cell_q, vp_cell_q, arrV_store]
  congr 2
  funext q
  by_cases hq : q = i.toNatClampNeg
  · subst hq
    simp [updV, va_up, va_rf]
  · simp [updV, va_up, hq]
theorem v_aastN (hexec : p.tables.exec = Jvm.exec) (hb : c.code = cc) (hK : va_K D cl tys s) (hV : vS D cl lo s H locs V) (t0 : Nat) {cA : ClassId} {C : String} {n : Nat} {f : Nat → Option Nat} (ha : V a = some (eQ cA n f)) (ht : tys[t0]? = some (cA, .object C)) {i : Int32} (hin : vp_in i n) (hdg : decode cc pc = .ok (.aastore, 1))
    (kk : ∀ (H1 : Heap) (locs1 : List Loc), vS D cl lo s H1 locs1 (va_up V a (some (eQ cA n (va_up f i.toNatClampNeg none)))) → H1.size = H.size → W p l e R s m args below meth c H1 locs1 cells slots Q (F0 m (pc + 1) ls rest)) : W p l e R s m args below meth c H locs cells slots Q (F0 m pc ls (.null :: .int i :: .ref a :: rest)) := by
  have hP := hV.1.one ha
  refine va_WaastN (C := C) hexec hb (hP 0 _ rfl) ((hK.2 t0 _ ht).1 n (fun j => va_rf (f j))) (fun h => by cases h) (by show ¬ (i < 0 ∨ (arrV _ _ _).slots.size ≤ _); rw [arrV_size]; exact hin) rfl rfl hdg fun H1 e z oq => ?_
  refine kk H1 _ (hV.set ha ?_ z oq) z
  show H1[a]? = some (vp_cell _ _)
  rw [e]
  rw [vp_cell_q, vp_cell_q, arrV_store]
  congr 2
  funext q
  by_cases hq : q = i.toNatClampNeg
  · subst hq
    simp [updV, va_up, va_rf]
  · simp [updV, va_up, hq]
theorem v_newa (hexec : p.tables.exec = Jvm.exec) (hb : c.code = cc) {atype : ArrayType} (harr : (Cond.arrayClass (newarray.typeOf atype)).before args s = true) {ty : FieldType} (hty : newarray.typeOf atype = ty) (hK : va_K D cl tys s) (hV : vS D cl lo s H locs V) (t0 : Nat) {cA : ClassId} (ht : tys[t0]? = some (cA, ty))
    {n : Int32} {N' : Nat} {a0 : vp_A} (ha : ∀ cA : ClassId, vp_cell cA a0 = arrV cA N' (fun _ => defaultValue ty)) (hn : ¬ n < 0) (hN : n.toNatClampNeg = N') (hbytes : N' * componentBytes ty ≤ 536870912) (hcells : cells + 1 ≤ R.cells) (hslots : slots + N' ≤ R.slots) (hdg : decode cc pc = .ok (.newarray atype, 2)) {h : Nat} (hh : H.size = h)
    (kk : ∀ (H1 : Heap), vS D cl lo s H1 locs (va_up V h (some (.inl (cA, a0)))) → H1.size = h + 1 →
      W p l e R s m args below meth c H1 locs (cells + 1) (slots + N') Q (F0 m (pc + 2) ls (.ref h :: rest))) : W p l e R s m args below meth c H locs cells slots Q (F0 m pc ls (.int n :: rest)) := by
  subst hty
  subst hh
  refine va_newaK hexec hb harr rfl hdg rfl hn hN hbytes hcells hslots rfl fun H1 cB e1 z1 o1 hAr hNm => ?_
  have hcA : cB = cA := by
    have h2 := (hK.2 t0 _ ht).2
    have h3 : s.vm.findClass ("[" ++ (newarray.typeOf atype).toString) = some cA := by cases atype <;> exact h2
    exact Option.some.inj (hNm.symm.trans h3)
  subst hcA
  refine kk H1 (hV.push ?_ z1 o1) z1
  show H1[H.size]? = some (vp_cell _ _)
  rw [ha]
  exact e1
theorem v_new {c0 : Code} (hexec : p.tables.exec = Jvm.exec) (hb : c0.code = cc) {own C : String} {T : u_T} {N ci index : Nat} {Ts : List Cond} (hts : ∀ w ∈ Ts, w.before args s = true) (hin : ∀ w ∈ u_ws C T N, w ∈ Ts) (ty : Nat → FieldType) (hty : ∀ k, k < N → parseFieldDescriptor (T k).2.2.1 = some (ty k)) (hown : s.vm.findClass own = some m.cls) (hcl : (Cond.classLink own index C).before args s = true) (hinst : (Cond.instantiable C N).before args s = true) (hini : (Cond.initialized C).before args s = true)
    (hK : va_K D cl tys s) (hV : vS D cl lo s H locs V) (hc : cl[ci]? = some (C, T, N)) {fs : List Value} (hfs : ∀ j, j < N → defaultValue (ty j) = vp_V fs j) (hcells : cells + 1 ≤ R.cells) (hslots : slots + N ≤ R.slots) (hdg : decode cc pc = .ok (.new index, 3)) {h : Nat} (hh : H.size = h)
    (kk : ∀ (H1 : Heap), vS D cl lo s H1 locs (va_up V h (some (eO ci fs))) → H1.size = h + 1 →
      W p l e R s m args below meth c0 H1 locs (cells + 1) (slots + N) Q (F0 m (pc + 3) ls (.ref h :: rest))) : W p l e R s m args below meth c0 H locs cells slots Q (F0 m pc ls rest) := by
  subst hh
  have hKn := hK.1 ci _ hc
  refine W.newcK hexec hb hown hcl hinst hini rfl hdg hcells hslots hKn.2.1 rfl fun H1 kC hkC e1 z1 o1 => ?_
  refine kk H1 (hV.push ?_ z1 o1) z1
  exact ⟨_, hc, (u_born ty hts hin hKn hkC e1 hty).to hfs⟩
theorem v_newq (hexec : p.tables.exec = Jvm.exec) (hb : c.code = cc) {own C : String} {index : Nat} (hown : s.vm.findClass own = some m.cls) (hclink : (Cond.classLink own index C).before args s = true) (hover : va_AO C s) (hK : va_K D cl tys s) (hV : vS D cl lo s H locs V) (t0 : Nat) {cA : ClassId} (ht : tys[t0]? = some (cA, .object C))
    {n : Int32} {N' : Nat} (hn : ¬ n < 0) (hN : n.toNatClampNeg = N') (hbytes : N' * 4 ≤ 536870912) (hcells : cells + 1 ≤ R.cells) (hslots : slots + N' ≤ R.slots) (hdg : decode cc pc = .ok (.anewarray index, 3)) {h : Nat} (hh : H.size = h)
    (kk : ∀ (H1 : Heap), vS D cl lo s H1 locs (va_up V h (some (eQ cA N' (fun _ => none)))) → H1.size = h + 1 →
      W p l e R s m args below meth c H1 locs (cells + 1) (slots + N') Q (F0 m (pc + 3) ls (.ref h :: rest))) : W p l e R s m args below meth c H locs cells slots Q (F0 m pc ls (.int n :: rest)) := by
  subst hN
  subst hh
  refine W.anew hexec hb hown hclink (va_AO.use hover) rfl hdg rfl hn hbytes hcells hslots fun cB kA comp f1 f2 f3 f4 => ?_
  have hcA : cB = cA := by
    obtain ⟨kA', comp', g1, g2, g3, g4⟩ := (hK.2 t0 _ ht).2
    exact Option.some.inj (f1.symm.trans g4)
  subst hcA
  generalize hH1 : H.push ({ cls := cB, slots := Array.replicate n.toNatClampNeg .null, vm := .none } : Cell) = H1
  have z1 : H1.size = H.size + 1 := by rw [← hH1, Array.size_push]
  have e1 : H1[H.size]? = some (arrV cB n.toNatClampNeg (fun _ => .null)) := by rw [← hH1, Array.getElem?_push_size, ← arrV_new]
  have o1 : ∀ q : Nat, q < H.size → H1[q]? = H[q]? := fun q hq => by rw [← hH1, Array.getElem?_push, if_neg (Nat.ne_of_lt hq)]
  refine kk H1 (hV.push ?_ z1 o1) z1
  show H1[H.size]? = some (vp_cell _ _)
  rw [vp_cell_q]
  exact e1
end VV2
/-- a view, with a list of cells laid over it (the first one wins) -/
def vU (V : Vw) : va_W → Vw
  | [] => V
  | x :: cs => va_up (vU V cs) x.1 (some x.2)
abbrev vN (cs : va_W) : Prop := (cs.map Prod.fst).Nodup
theorem vup_self {α : Type} (f : Nat → α) (a : Nat) (x : α) : va_up f a x a = x := by simp [va_up]
theorem vup_ne {α : Type} (f : Nat → α) {a b : Nat} (h : b ≠ a) (x : α) : va_up f a x b = f b := by simp [va_up, h]
theorem vup_up {α : Type} (f : Nat → α) (a : Nat) (x y : α) : va_up (va_up f a x) a y = va_up f a y := by
  funext q
  by_cases h : q = a <;> simp [va_up, h]
theorem vup_comm {α : Type} (f : Nat → α) {a b : Nat} (h : a ≠ b) (x y : α) : va_up (va_up f a x) b y = va_up (va_up f b y) a x := by
  funext q
  unfold va_up
  by_cases h1 : q = a
  · by_cases h2 : q = b
    · exact absurd (h1.symm.trans h2) h
    · simp [h1, h]
  · by_cases h2 : q = b
    · simp [h2, h.symm]
    · simp [h1, h2]
theorem vup_id {α : Type} (f : Nat → α) (a : Nat) {x : α} (h : f a = x) : va_up f a x = f := by
  funext q
  unfold va_up
  by_cases h1 : q = a
  · rw [if_pos h1, h1, h]
  · rw [if_neg h1]
theorem vU_out (V : Vw) : ∀ (cs : va_W) (a : Nat), a ∉ cs.map Prod.fst → vU V cs a = V a
  | [], _, _ => rfl
  | x :: cs, a, h => by
    have h1 : a ≠ x.1 := fun q => h (by rw [q]; exact List.mem_cons_self)
    show va_up (vU V cs) x.1 (some x.2) a = V a
    rw [vup_ne _ h1]
    exact vU_out V cs a (fun q => h (List.mem_cons_of_mem _ q))
theorem vU_at {V : Vw} : ∀ {cs : va_W}, vN cs → ∀ (i : Nat) {a : Nat} {e : va_E}, cs[i]? = some (a, e) → vU V cs a = some e
  | [], _, i, a, e, h => by simp at h
  | x :: cs, hn, i, a, e, h => by
    cases i with
    | zero =>
      simp at h
      subst h
      exact vup_self _ _ _
    | succ i =>
      have hn' : x.1 ∉ cs.map Prod.fst ∧ (cs.map Prod.fst).Nodup := List.nodup_cons.mp hn
      have h1 : cs[i]? = some (a, e) := by simpa using h
      have h2 : a ∈ cs.map Prod.fst := List.mem_map.mpr ⟨(a, e), List.mem_of_getElem? h1, rfl⟩
      have h3 : a ≠ x.1 := fun q => hn'.1 (by rw [← q]; exact h2)
      show va_up (vU V cs) x.1 (some x.2) a = some e
      rw [vup_ne _ h3]
      exact vU_at hn'.2 i h1
theorem vU_set {V : Vw} : ∀ {cs : va_W}, vN cs → ∀ (i : Nat) {a : Nat} {e0 e : va_E}, cs[i]? = some (a, e0) → va_up (vU V cs) a (some e) = vU V (cs.set i (a, e))
  | [], _, i, a, e0, e, h => by simp at h
  | x :: cs, hn, i, a, e0, e, h => by
    cases i with
    | zero =>
      simp at h
      subst h
      show va_up (va_up (vU V cs) a _) a (some e) = va_up (vU V cs) a (some e)
      rw [vup_up]
    | succ i =>
      have hn' : x.1 ∉ cs.map Prod.fst ∧ (cs.map Prod.fst).Nodup := List.nodup_cons.mp hn
      have h1 : cs[i]? = some (a, e0) := by simpa using h
      have h2 : a ∈ cs.map Prod.fst := List.mem_map.mpr ⟨(a, e0), List.mem_of_getElem? h1, rfl⟩
      have h3 : x.1 ≠ a := fun q => hn'.1 (by rw [q]; exact h2)
      show va_up (va_up (vU V cs) x.1 (some x.2)) a (some e) = va_up (vU V (cs.set i (a, e))) x.1 (some x.2)
      rw [vup_comm _ h3, vU_set hn'.2 i h1]
/-- cells that are there already change nothing -/
theorem vU_sub {V : Vw} {CS : va_W} (hn : vN CS) : ∀ {cs : va_W} (is : List Nat), is.map (fun i => CS[i]?) = cs.map some → vU (vU V CS) cs = vU V CS
  | [], _, _ => rfl
  | x :: cs, is, h => by
    cases is with
    | nil => simp at h
    | cons i is =>
      simp only [List.map_cons, List.cons.injEq] at h
      show va_up (vU (vU V CS) cs) x.1 (some x.2) = vU V CS
      rw [vU_sub hn is h.2]
      exact vup_id _ _ (vU_at hn i h.1)
/-- what a list becomes where the cells at some places are others -/
def vR : va_W → List Nat → va_W → va_W
  | CS, i :: is, x :: cs => (vR CS is cs).set i x
  | CS, _, _ => CS
theorem vR_fst : ∀ (CS : va_W) (is : List Nat) (cs : va_W), is.map (fun i => (CS.map Prod.fst)[i]?) = cs.map (fun x => some x.1) → (vR CS is cs).map Prod.fst = CS.map Prod.fst
  | CS, [], _, _ => by simp [vR]
  | CS, i :: is, [], h => by simp at h
  | CS, i :: is, x :: cs, h => by
    simp only [List.map_cons, List.cons.injEq] at h
    have ih := vR_fst CS is cs h.2
    show ((vR CS is cs).set i x).map Prod.fst = _
    rw [List.map_set, ih]
    obtain ⟨hlt, he⟩ := List.getElem?_eq_some_iff.mp h.1
    rw [← he]
    exact List.set_getElem_self hlt
theorem vU_back {V : Vw} {CS : va_W} (hn : vN CS) : ∀ {cs : va_W} (is : List Nat), is.map (fun i => (CS.map Prod.fst)[i]?) = cs.map (fun x => some x.1) → vU (vU V CS) cs = vU V (vR CS is cs)
  | [], is, _ => by cases is <;> rfl
  | x :: cs, is, h => by
    cases is with
    | nil => simp at h
    | cons i is =>
      simp only [List.map_cons, List.cons.injEq] at h
      have ih := vU_back (V := V) hn is h.2
      have hf := vR_fst CS is cs h.2
      have hn' : vN (vR CS is cs) := by unfold vN; rw [hf]; exact hn
      have h1 : ((vR CS is cs).map Prod.fst)[i]? = some x.1 := by rw [hf]; exact h.1
      rw [List.getElem?_map] at h1
      obtain ⟨y, hy, hyx⟩ := Option.map_eq_some_iff.mp h1
      show va_up (vU (vU V CS) cs) x.1 (some x.2) = vU V ((vR CS is cs).set i x)
      rw [ih]
      exact vU_set hn' i (e0 := y.2) (by rw [hy, ← hyx])
section VVz
variable {p : Program} {l : Launch} {e : Env} {R : Room} {s : State} {m : MethodId} {args : Array Value} {below : List Frame} {meth : Method} {c : Code} {H : Heap} {locs : List Loc} {cells slots : Nat} {Q : State → Prop}
variable {cc : ByteArray} {pc : Nat} {ls : Array Slot} {rest : List Value} {D : va_G} {cl : List vw_C} {a lo : Nat} {tys : List (ClassId × FieldType)} {V : Vw}
theorem v_zald (hexec : p.tables.exec = Jvm.exec) (hb : c.code = cc) (hK : va_K D cl tys s) (hV : vS D cl lo s H locs V) (t0 : Nat) {cA : ClassId} {n : Nat} {f : Nat → Int32} (ha : V a = some (eI cA n f)) (ht : tys[t0]? = some (cA, .boolean)) {i : Int32} (hin : vp_in i n) (hdg : decode cc pc = .ok (.baload, 1))
    (kk : W p l e R s m args below meth c H locs cells slots Q (F0 m (pc + 1) ls (.int (f i.toNatClampNeg) :: rest))) : W p l e R s m args below meth c H locs cells slots Q (F0 m pc ls (.int i :: .ref a :: rest)) :=
  va_zald hexec hb hK (hV.1.one ha) 0 t0 rfl ht hin hdg kk
theorem v_zast (hexec : p.tables.exec = Jvm.exec) (hb : c.code = cc) (hK : va_K D cl tys s) (hV : vS D cl lo s H locs V) (t0 : Nat) {cA : ClassId} {n : Nat} {f : Nat → Int32} (ha : V a = some (eI cA n f)) (ht : tys[t0]? = some (cA, .boolean)) {i : Int32} {x : Int32} (hin : vp_in i n) (hdg : decode cc pc = .ok (.bastore, 1))
    (kk : ∀ (H1 : Heap) (locs1 : List Loc), vS D cl lo s H1 locs1 (va_up V a (some (eI cA n (upd f i.toNatClampNeg (vp_nar .boolean x))))) → H1.size = H.size → W p l e R s m args below meth c H1 locs1 cells slots Q (F0 m (pc + 1) ls rest)) : W p l e R s m args below meth c H locs cells slots Q (F0 m pc ls (.int x :: .int i :: .ref a :: rest)) := by
  have hP := hV.1.one ha
  refine W.zast hexec hb (hP 0 _ rfl) ((hK.2 t0 _ ht).1 n (fun j => .int (f j))) (fun q => by cases q) (by show ¬ (i < 0 ∨ (arrV _ _ _).slots.size ≤ _); rw [arrV_size]; exact hin) rfl rfl hdg fun H1 e z oq => ?_
  refine kk H1 _ (hV.set ha ?_ z oq) z
  show H1[a]? = some (vp_cell _ _)
  rw [e]
  rw [vp_cell_i, vp_cell_i, arrV_store]
  congr 2
  funext q
  by_cases hq : q = i.toNatClampNeg
  · subst hq
    simp [updV, upd, vp_nar]
    try rfl
  · simp [updV, upd, hq]
end VVz
