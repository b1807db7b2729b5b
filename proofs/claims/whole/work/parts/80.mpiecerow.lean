/-! a piece's row in the reference: 29 numbers -/
def rowU (F : Nat → Int32) (j : Nat) (f : Nat → Int32) : Nat → Int32 := fun i => if 29 * j ≤ i ∧ i < 29 * j + 29 then f (i - 29 * j) else F i
def rowZ (F : Nat → Int32) (j k : Nat) : Nat → Int32 := fun i => if 29 * j ≤ i ∧ i < 29 * j + k then 0 else F i
theorem rowZ_0 (F : Nat → Int32) (j : Nat) : rowZ F j 0 = F := by
  funext i
  exact if_neg (by omega)
theorem rowZ_up (F : Nat → Int32) (j k : Nat) : upd (rowZ F j k) (29 * j + k) 0 = rowZ F j (k + 1) := by
  funext i
  by_cases h : i = 29 * j + k
  · subst h
    rw [upd_same]
    exact (if_pos (by omega)).symm
  · rw [upd_ne _ _ h]
    unfold rowZ
    by_cases h2 : 29 * j ≤ i ∧ i < 29 * j + k
    · rw [if_pos h2, if_pos (by omega)]
    · rw [if_neg h2, if_neg (by omega)]
theorem rowU_at {F f : Nat → Int32} {j k i : Nat} (hi : i = 29 * j + k) (h : k < 29) : rowU F j f i = f k := by
  unfold rowU
  rw [if_pos (by omega), show i - 29 * j = k by omega]
theorem rowU_out {F f : Nat → Int32} {j i : Nat} (h : ¬ (29 * j ≤ i ∧ i < 29 * j + 29)) : rowU F j f i = F i := if_neg h
theorem rowU_up {F f : Nat → Int32} {j k i : Nat} {v : Int32} (hi : i = 29 * j + k) (h : k < 29) : upd (rowU F j f) i v = rowU F j (upd f k v) := by
  subst hi
  funext i
  by_cases h2 : i = 29 * j + k
  · subst h2
    rw [upd_same, rowU_at rfl h, upd_same]
  · rw [upd_ne _ _ h2]
    by_cases h3 : 29 * j ≤ i ∧ i < 29 * j + 29
    · rw [rowU_at (k := i - 29 * j) (by omega) (by omega), rowU_at (k := i - 29 * j) (by omega) (by omega), upd_ne _ _ (by omega)]
    · rw [rowU_out h3, rowU_out h3]
theorem rowU_let {F f : Nat → Int32} {j : Nat} {wd : List Nat} (h : wd.length ≤ 8) : letW (rowU F j f) (29 * j) wd = rowU F j (letW f 0 wd) := by
  funext i
  by_cases h3 : 29 * j ≤ i ∧ i < 29 * j + 29
  · rw [rowU_at (k := i - 29 * j) (by omega) (by omega)]
    unfold letW
    by_cases h2 : 29 * j + 21 ≤ i ∧ i < 29 * j + 21 + wd.length
    · rw [if_pos h2, if_pos (by omega), show i - 29 * j - (0 + 21) = i - (29 * j + 21) by omega]
    · rw [if_neg h2, if_neg (by omega), rowU_at (k := i - 29 * j) (by omega) (by omega)]
  · rw [rowU_out h3]
    unfold letW
    rw [if_neg (by omega), rowU_out h3]
/-- the row says the record -/
def pR (f : Nat → Int32) (R : PcR) : Prop := f 0 = 1 ∧ f 1 = nI R.1.1 ∧ f 2 = nI R.1.2.2 ∧ f 3 = b2i R.1.2.1 ∧ f 4 = nI R.2.1.1 ∧ f 5 = nI R.2.1.2.1 ∧ f 6 = nI R.2.1.2.2 ∧ f 7 = nI R.2.2.1.length ∧
  (∀ i, i < R.2.2.1.length → f (8 + 3 * i) = nI (R.2.2.1.getD i z3).1 ∧ f (8 + 3 * i + 1) = nI (R.2.2.1.getD i z3).2.1 ∧ f (8 + 3 * i + 2) = nI (R.2.2.1.getD i z3).2.2) ∧
  f 17 = nI R.2.2.2.1.1 ∧ f 18 = nI R.2.2.2.1.2 ∧ f 19 = nmA R.2.2.2.2 ∧ f 20 = nI (nmL R.2.2.2.2).length ∧ ∀ i, i < (nmL R.2.2.2.2).length → f (21 + i) = nI ((nmL R.2.2.2.2).getD i 0)
theorem pR_mp {F f : Nat → Int32} {j : Nat} {R : PcR} (h : pR f R) (hv : pcV R) : mpR (rowU F j f) (29 * j) R := by
  obtain ⟨r0, r1, r2, r3, r4, r5, r6, r7, rh, r17, r18, r19, r20, rl⟩ := h
  have h3 := hv.2.2.1.1
  have h8 := nm_len hv.2.2.2.2
  refine ⟨?_, ?_, ?_, ?_, ?_, ?_, ?_, ?_, fun i hi => ?_, ?_, ?_, ?_, ?_, fun i hi => ?_⟩
  · exact (rowU_at (k := 0) rfl (by decide)).trans r0
  · rw [rowU_at rfl (by decide)]; exact r1
  · rw [rowU_at rfl (by decide)]; exact r2
  · rw [rowU_at rfl (by decide)]; exact r3
  · rw [rowU_at rfl (by decide)]; exact r4
  · rw [rowU_at rfl (by decide)]; exact r5
  · rw [rowU_at rfl (by decide)]; exact r6
  · rw [rowU_at rfl (by decide)]; exact r7
  · obtain ⟨a, b, c⟩ := rh i hi
    rw [rowU_at (k := 8 + 3 * i) (by omega) (by omega), rowU_at (k := 8 + 3 * i + 1) (by omega) (by omega), rowU_at (k := 8 + 3 * i + 2) (by omega) (by omega)]
    exact ⟨a, b, c⟩
  · rw [rowU_at rfl (by decide)]; exact r17
  · rw [rowU_at rfl (by decide)]; exact r18
  · rw [rowU_at rfl (by decide)]; exact r19
  · rw [rowU_at rfl (by decide)]; exact r20
  · rw [rowU_at (k := 21 + i) (by omega) (by omega)]; exact rl i hi
theorem mpR_out {F f : Nat → Int32} {j i : Nat} {R : PcR} (hij : ¬ i = j) (h : mpR F (29 * i) R) (hv : pcV R) : mpR (rowU F j f) (29 * i) R := by
  obtain ⟨r0, r1, r2, r3, r4, r5, r6, r7, rh, r17, r18, r19, r20, rl⟩ := h
  have h3 := hv.2.2.1.1
  have h8 := nm_len hv.2.2.2.2
  have o : ∀ k, k < 29 → rowU F j f (29 * i + k) = F (29 * i + k) := fun k hk => rowU_out (by omega)
  refine ⟨?_, ?_, ?_, ?_, ?_, ?_, ?_, ?_, fun i hi => ?_, ?_, ?_, ?_, ?_, fun i hi => ?_⟩
  · exact (o 0 (by decide)).trans r0
  · exact (o _ (by decide)).trans r1
  · exact (o _ (by decide)).trans r2
  · exact (o _ (by decide)).trans r3
  · exact (o _ (by decide)).trans r4
  · exact (o _ (by decide)).trans r5
  · exact (o _ (by decide)).trans r6
  · exact (o _ (by decide)).trans r7
  · obtain ⟨a, b, c⟩ := rh i hi
    refine ⟨(rowU_out (by omega)).trans a, (rowU_out (by omega)).trans b, (rowU_out (by omega)).trans c⟩
  · exact (o _ (by decide)).trans r17
  · exact (o _ (by decide)).trans r18
  · exact (o _ (by decide)).trans r19
  · exact (o _ (by decide)).trans r20
  · exact (rowU_out (by omega)).trans (rl i hi)
theorem mpA_put {F f : Nat → Int32} {Q : Nat → Option PcR} {j : Nat} {R : PcR} (hM : mpA F Q) (h : pR f R) (hv : pcV R) : mpA (rowU F j f) (va_up Q j (some R)) := by
  intro i h1 h2
  by_cases he : i = j
  · subst he
    exact Or.inr ⟨R, by simp [va_up], pR_mp h hv, hv⟩
  · rcases hM i h1 h2 with ⟨g1, g2⟩ | ⟨R2, g1, g2, g3⟩
    · exact Or.inl ⟨(rowU_out (by omega)).trans g1, by simpa [va_up, he] using g2⟩
    · exact Or.inr ⟨R2, by simpa [va_up, he] using g1, mpR_out he g2 g3, g3⟩
/-! what is still to be read -/
def tl4 (t : Nat → Nat) (n j : Nat) (nd : Nat × Bool × Nat) (lk : Tri) (hs : List Tri) (h w r : Nat) : Sum Nat ((Nat × PcR) × Nat) := sbd (namR t n r) fun e => .inr ((j, nd, lk, hs, (h, w), e.1), e.2)
def tl3 (t : Nat → Nat) (n j : Nat) (nd : Nat × Bool × Nat) (lk : Tri) (hs : List Tri) (h r : Nat) : Sum Nat ((Nat × PcR) × Nat) := sbd (lim1 t n 33 r) fun w => tl4 t n j nd lk hs h w.1 w.2
def tl2 (t : Nat → Nat) (n j : Nat) (nd : Nat × Bool × Nat) (lk : Tri) (hs : List Tri) (r : Nat) : Sum Nat ((Nat × PcR) × Nat) := sbd (lim1 t n 94 r) fun h => tl3 t n j nd lk hs h.1 h.2
def tl1 (t : Nat → Nat) (n j : Nat) (nd : Nat × Bool × Nat) (lk : Tri) (hs : List Tri) (r : Nat) : Sum Nat ((Nat × PcR) × Nat) := sbd (hrsR t n (3 - hs.length) hs r) fun c => tl2 t n j nd lk c.1 c.2
def tlN (t : Nat → Nat) (n j a1 : Nat) (bb : Bool) (r : Nat) : Sum Nat ((Nat × PcR) × Nat) := sbd (num t n 1 40 r) fun b => if b.1 = a1 then .inl (b.2 - 1) else sbd (lksR t n b.2) fun c => tl1 t n j (a1, bb, b.1) c.1 [] c.2
theorem pieceR_tl {t : Nat → Nat} {n q j p1 p2 a1 p3 : Nat} {bb : Bool} {r : Nat} (h1 : num t n 1 60 q = .inr (j, p1)) (h2 : tk t n 61 p1 = .inr p2) (h3 : num t n 1 40 p2 = .inr (a1, p3)) (h4 : tk t n (if sk t n p3 < n ∧ t (sk t n p3) = 62 then 62 else 45) (sk t n p3) = .inr r) (h5 : decide (sk t n p3 < n ∧ t (sk t n p3) = 62) = bb) : pieceR t n q = tlN t n j a1 bb r := by
  simp only [pieceR, nodesR, h1, h2, h3, h4, h5, sbd_r, tlN]
  rcases num t n 1 40 r with e | ⟨b, p5⟩
  · rfl
  simp only [sbd_r]
  split
  · rfl
  simp only [sbd_r]
  rcases lksR t n p5 with e | ⟨c, p6⟩
  · rfl
  simp only [sbd_r, tl1, List.length_nil, Nat.sub_zero]
  rcases hrsR t n 3 [] p6 with e | ⟨hs, p7⟩
  · rfl
  simp only [sbd_r, tl2, limR]
  rcases lim1 t n 94 p7 with e | ⟨h, p8⟩
  · rfl
  simp only [sbd_r, tl3]
  rcases lim1 t n 33 p8 with e | ⟨w, p9⟩
  · rfl
  rfl
theorem sgn1 {t : Nat → Nat} {n p q : Nat} (h : sk t n p = q) (h1 : q < n) (h2 : t q = 62) : tk t n (if sk t n p < n ∧ t (sk t n p) = 62 then 62 else 45) (sk t n p) = .inr (q + 1) := by
  have e : sk t n q = q := by rw [← h]; exact sk_sk t n p
  rw [h, if_pos ⟨h1, h2⟩]
  unfold tk
  rw [e, if_pos ⟨h1, h2⟩]
theorem sgn2 {t : Nat → Nat} {n p q : Nat} (h : sk t n p = q) (h1 : q < n) (h2 : t q = 45) : tk t n (if sk t n p < n ∧ t (sk t n p) = 62 then 62 else 45) (sk t n p) = .inr (q + 1) := by
  have e : sk t n q = q := by rw [← h]; exact sk_sk t n p
  rw [h, if_neg (by omega)]
  unfold tk
  rw [e, if_pos ⟨h1, h2⟩]
theorem sgn3 {t : Nat → Nat} {n p q : Nat} (h : sk t n p = q) (h1 : ¬ (q < n ∧ (t q = 62 ∨ t q = 45))) : tk t n (if sk t n p < n ∧ t (sk t n p) = 62 then 62 else 45) (sk t n p) = .inl q := by
  have e : sk t n q = q := by rw [← h]; exact sk_sk t n p
  rw [h, if_neg (by omega)]
  unfold tk
  rw [e, if_neg (by omega)]
theorem kind_no {t : Nat → Nat} {n q : Nat} (h : ¬ q < n) : kindAt t n q = none := if_neg h
theorem kind_in {t : Nat → Nat} {n q : Nat} (h : q < n) : kindAt t n q = kindC (t q) := if_pos h
theorem kindI_C : ∀ c, c < 256 → kindI (nI c) = (match kindC c with | none => (-1 : Int32) | some k => nI k) := by decide +kernel
theorem kindI_n {c : Nat} (hc : c < 256) (h : kindC c = none) : kindI (nI c) = -1 := by rw [kindI_C c hc, h]
theorem kindI_s {c k : Nat} (hc : c < 256) (h : kindC c = some k) : kindI (nI c) = nI k := by rw [kindI_C c hc, h]
theorem mhrs_end {t : Nat → Nat} {n r : Nat} {hs : List Tri} {k : Nat} (h : k = 0) : hrsR t n k hs r = .inr (hs, r) := by subst h; rfl
theorem mhrs_no {t : Nat → Nat} {n r q k : Nat} {hs : List Tri} (h : sk t n r = q) (hk : 1 ≤ k) (h2 : ¬ (sk t n r < n ∧ t (sk t n r) = 91)) : hrsR t n k hs r = .inr (hs, q) := by
  obtain ⟨i, rfl⟩ : ∃ i, k = i + 1 := ⟨k - 1, by omega⟩
  unfold hrsR
  rw [if_neg h2, h]
theorem mhrs_bad {t : Nat → Nat} {n r q k e : Nat} {hs : List Tri} (h : sk t n r = q) (hk : 1 ≤ k) (h2 : sk t n r < n ∧ t (sk t n r) = 91) (h3 : hourR t n (q + 1) = .inl e) : hrsR t n k hs r = .inl e := by
  obtain ⟨i, rfl⟩ : ∃ i, k = i + 1 := ⟨k - 1, by omega⟩
  unfold hrsR
  rw [if_pos h2, h, h3]
  rfl
theorem mhrs_go {t : Nat → Nat} {n r q k : Nat} {hs : List Tri} {z : Tri × Nat} (h : sk t n r = q) (hk : 1 ≤ k) (h2 : sk t n r < n ∧ t (sk t n r) = 91) (h3 : hourR t n (q + 1) = .inr z) : hrsR t n k hs r = hrsR t n (k - 1) (hs ++ [z.1]) z.2 := by
  obtain ⟨i, rfl⟩ : ∃ i, k = i + 1 := ⟨k - 1, by omega⟩
  conv => lhs; unfold hrsR
  rw [if_pos h2, h, h3]
  rfl
theorem hour_er {t : Nat → Nat} {n p e : Nat} (hp : p ≤ n) (h : hourR t n p = .inl e) : e ≤ n := by
  have := hourR_ok (t := t) hp
  rw [h] at this
  exact this
theorem hour_in {t : Nat → Nat} {n p : Nat} {z : Tri × Nat} (hp : p ≤ n) (h : hourR t n p = .inr z) : z.2 ≤ n := by
  have := hourR_ok (t := t) hp
  rw [h] at this
  exact this.2.1
theorem lim_y {t : Nat → Nat} {n c r q : Nat} (h : sk t n r = q) (h2 : sk t n r < n ∧ t (sk t n r) = c) : lim1 t n c r = num t n 1 99 (q + 1) := by
  unfold lim1
  rw [if_pos h2, h]
theorem lim_n {t : Nat → Nat} {n c r q : Nat} (h : sk t n r = q) (h2 : ¬ (sk t n r < n ∧ t (sk t n r) = c)) : lim1 t n c r = .inr (0, q) := by
  unfold lim1
  rw [if_neg h2, h]
theorem nam_y {t : Nat → Nat} {n r q : Nat} (h : sk t n r = q) (h2 : sk t n r < n ∧ t (sk t n r) = 34) : namR t n r = namX t n (letR t n 8 [] (q + 1)) := by
  unfold namR
  rw [if_pos h2, h]
theorem nam_n {t : Nat → Nat} {n r q : Nat} (h : sk t n r = q) (h2 : ¬ (sk t n r < n ∧ t (sk t n r) = 34)) : namR t n r = .inr (none, q) := by
  unfold namR
  rw [if_neg h2, h]
theorem namX_some {t : Nat → Nat} {n : Nat} {x : List Nat × Nat} {o : Option (List Nat × Nat)} {r : Nat} (h : namX t n x = .inr (o, r)) : ∃ a, o = some (x.1, a) := by
  unfold namX at h
  split at h
  · cases h
  · rcases h2 : tk t n 35 (x.2 + 1) with e | p2
    · rw [h2, sbd_l] at h; cases h
    · rw [h2, sbd_r] at h
      rcases h3 : num t n 0 9 p2 with e | ⟨a, p3⟩
      · rw [h3, sbd_l] at h; cases h
      · rw [h3, sbd_r] at h; cases h; exact ⟨a, rfl⟩
theorem namX_len {t : Nat → Nat} {n p : Nat} (h : p ≤ n) : (letR t n 8 [] p).1.length ≤ 8 := (letR_ok 8 [] p h (by decide) (by simp)).2.2.1
theorem nam_er {t : Nat → Nat} {n r q e : Nat} (hp : r ≤ n) (h : sk t n r = q) (h2 : sk t n r < n ∧ t (sk t n r) = 34) (h3 : namX t n (letR t n 8 [] (q + 1)) = .inl e) : e ≤ n := by
  have := namR_ok (t := t) hp
  rw [nam_y h h2, h3] at this
  exact this
theorem nam_in {t : Nat → Nat} {n r q : Nat} {z : Option (List Nat × Nat) × Nat} (hp : r ≤ n) (h : sk t n r = q) (h2 : sk t n r < n ∧ t (sk t n r) = 34) (h3 : namX t n (letR t n 8 [] (q + 1)) = .inr z) : z.2 ≤ n := by
  have := namR_ok (t := t) hp
  rw [nam_y h h2, h3] at this
  exact this.2.1
theorem pR_hour {f : Nat → Int32} {nd : Nat × Bool × Nat} {lk : Tri} {hs : List Tri} {z : Tri} (h : pR f (nd, lk, hs, (0, 0), none)) (hl : hs.length < 3) : pR (upd (upd (upd (upd f (8 + 3 * hs.length) (nI z.1)) (8 + 3 * hs.length + 1) (nI z.2.1)) (8 + 3 * hs.length + 2) (nI z.2.2)) 7 (nI (hs.length + 1))) (nd, lk, hs ++ [z], (0, 0), none) := by
  obtain ⟨r0, r1, r2, r3, r4, r5, r6, r7, rh, r17, r18, r19, r20, rl⟩ := h
  simp only [] at r0 r1 r2 r3 r4 r5 r6 r7 rh r17 r18 r19 r20 rl
  have o : ∀ k, ¬ k = 7 → (k < 8 ∨ 17 ≤ k) → upd (upd (upd (upd f (8 + 3 * hs.length) (nI z.1)) (8 + 3 * hs.length + 1) (nI z.2.1)) (8 + 3 * hs.length + 2) (nI z.2.2)) 7 (nI (hs.length + 1)) k = f k := fun k h1 h2 => by
    rw [upd_ne _ _ h1, upd_ne _ _ (by omega), upd_ne _ _ (by omega), upd_ne _ _ (by omega)]
  refine ⟨(o _ (by decide) (by decide)).trans r0, (o _ (by decide) (by decide)).trans r1, (o _ (by decide) (by decide)).trans r2, (o _ (by decide) (by decide)).trans r3, (o _ (by decide) (by decide)).trans r4, (o _ (by decide) (by decide)).trans r5, (o _ (by decide) (by decide)).trans r6, ?_, fun i hi => ?_, (o _ (by decide) (by decide)).trans r17, (o _ (by decide) (by decide)).trans r18, (o _ (by decide) (by decide)).trans r19, (o _ (by decide) (by decide)).trans r20, fun i hi => absurd hi (by simp [nmL])⟩
  · rw [upd_same]
    simp
  · simp only [List.length_append, List.length_singleton] at hi
    by_cases he : i = hs.length
    · subst he
      simp only [getD_app_r]
      refine ⟨?_, ?_, ?_⟩
      · rw [upd_ne _ _ (by omega), upd_ne _ _ (by omega), upd_ne _ _ (by omega), upd_same]
      · rw [upd_ne _ _ (by omega), upd_ne _ _ (by omega), upd_same]
      · rw [upd_ne _ _ (by omega), upd_same]
    · have := rh i (by omega)
      simp only [getD_app_l (show i < hs.length by omega)]
      refine ⟨?_, ?_, ?_⟩
      · rw [upd_ne _ _ (by omega), upd_ne _ _ (by omega), upd_ne _ _ (by omega), upd_ne _ _ (by omega)]; exact this.1
      · rw [upd_ne _ _ (by omega), upd_ne _ _ (by omega), upd_ne _ _ (by omega), upd_ne _ _ (by omega)]; exact this.2.1
      · rw [upd_ne _ _ (by omega), upd_ne _ _ (by omega), upd_ne _ _ (by omega), upd_ne _ _ (by omega)]; exact this.2.2
theorem pR_h {f : Nat → Int32} {nd : Nat × Bool × Nat} {lk : Tri} {hs : List Tri} (hh : hs.length ≤ 3) (v : Nat) (h : pR f (nd, lk, hs, (0, 0), none)) : pR (upd f 17 (nI v)) (nd, lk, hs, (v, 0), none) := by
  obtain ⟨r0, r1, r2, r3, r4, r5, r6, r7, rh, r17, r18, r19, r20, rl⟩ := h
  refine ⟨r0, r1, r2, r3, r4, r5, r6, r7, fun i hi => ?_, upd_same _ _ _, r18, r19, r20, fun i hi => absurd hi (by simp [nmL])⟩
  simp only [] at hi rh
  rw [upd_ne _ _ (by omega), upd_ne _ _ (by omega), upd_ne _ _ (by omega)]
  exact rh i hi
theorem pR_w {f : Nat → Int32} {nd : Nat × Bool × Nat} {lk : Tri} {hs : List Tri} {u : Nat} (hh : hs.length ≤ 3) (v : Nat) (h : pR f (nd, lk, hs, (u, 0), none)) : pR (upd f 18 (nI v)) (nd, lk, hs, (u, v), none) := by
  obtain ⟨r0, r1, r2, r3, r4, r5, r6, r7, rh, r17, r18, r19, r20, rl⟩ := h
  refine ⟨r0, r1, r2, r3, r4, r5, r6, r7, fun i hi => ?_, r17, upd_same _ _ _, r19, r20, fun i hi => absurd hi (by simp [nmL])⟩
  simp only [] at hi rh
  rw [upd_ne _ _ (by omega), upd_ne _ _ (by omega), upd_ne _ _ (by omega)]
  exact rh i hi
theorem pR_nm {f : Nat → Int32} {nd : Nat × Bool × Nat} {lk : Tri} {hs : List Tri} {u : Nat × Nat} (hh : hs.length ≤ 3) (wd : List Nat) (a : Nat) (h : pR f (nd, lk, hs, u, none)) : pR (upd (upd (letW f 0 wd) 20 (nI wd.length)) 19 (nI a)) (nd, lk, hs, u, some (wd, a)) := by
  obtain ⟨r0, r1, r2, r3, r4, r5, r6, r7, rh, r17, r18, r19, r20, rl⟩ := h
  have o : ∀ k, k < 19 → upd (upd (letW f 0 wd) 20 (nI wd.length)) 19 (nI a) k = f k := fun k hk => by
    rw [upd_ne _ _ (by omega), upd_ne _ _ (by omega)]
    exact if_neg (by omega)
  refine ⟨(o _ (by decide)).trans r0, (o _ (by decide)).trans r1, (o _ (by decide)).trans r2, (o _ (by decide)).trans r3, (o _ (by decide)).trans r4, (o _ (by decide)).trans r5, (o _ (by decide)).trans r6, (o _ (by decide)).trans r7, fun i hi => ?_, (o _ (by decide)).trans r17, (o _ (by decide)).trans r18, upd_same _ _ _, ?_, fun i hi => ?_⟩
  · simp only [] at hi rh
    rw [o _ (by omega), o _ (by omega), o _ (by omega)]
    exact rh i hi
  · rw [upd_ne _ _ (by decide), upd_same]
    rfl
  · have hi : i < wd.length := hi
    rw [upd_ne _ _ (by omega), upd_ne _ _ (by omega)]
    show letW f 0 wd (21 + i) = nI (wd.getD i 0)
    unfold letW
    rw [if_pos (by omega), show 21 + i - (0 + 21) = i by omega]
theorem pR_new {f : Nat → Int32} {nd : Nat × Bool × Nat} {lk : Tri} (h : f 0 = 1 ∧ f 1 = nI nd.1 ∧ f 2 = nI nd.2.2 ∧ f 3 = b2i nd.2.1 ∧ f 4 = nI lk.1 ∧ f 5 = nI lk.2.1 ∧ f 6 = nI lk.2.2 ∧ f 7 = 0 ∧ f 17 = 0 ∧ f 18 = 0 ∧ f 19 = -1 ∧ f 20 = 0) : pR f (nd, lk, [], (0, 0), none) := by
  obtain ⟨r0, r1, r2, r3, r4, r5, r6, r7, r17, r18, r19, r20⟩ := h
  exact ⟨r0, r1, r2, r3, r4, r5, r6, r7, fun i hi => absurd hi (by simp), r17, r18, r19, r20, fun i hi => absurd hi (by simp [nmL])⟩

set_option maxHeartbeats 4000000 in
set_option maxRecDepth 100000 in
/-- pieceRow -/
theorem c_Mo_pieceRow (l : Launch) (G : Gx) (lo : Nat) (V : Vw) (sz : Nat) (m mt np : Nat) (u0 u3 u4 u5 u6 u7 u8 u10 u11 u12 u15 u16 u17 u18 u19 u20 : Value) (g F : Nat → Int32) (t : Nat → Nat) (n q : Nat) (hn : [m, mt, np].Nodup) (hT : mtOk g t n) (h4 : n ≤ 400) (hq4 : q ≤ n) : Met l y_Mo_pieceRow ws_Mo_pieceRow ({ frames := 4, cells := 0, slots := 0, locals := 120 } : Room) (vPre G lo [.ref m] (vU V [(m, eO 8 [u0, .int (nI n), .ref mt, u3, u4, u5, u6, u7, u8, .ref np, u10, u11, u12, .int (nI q), .int ((-1)), u15, u16, u17, u18, u19, u20]), (mt, eI (gI G) 400 g), (np, eI (gI G) 1769 F)]) sz) (vPost G lo (fun r V' k => r = none ∧ (∃ (a9 : Nat) (F2 : Nat → Int32), V' = vU V [(m, eO 8 [u0, .int (nI n), .ref mt, u3, u4, u5, u6, u7, u8, .ref np, u10, u11, u12, .int (nI a9), .int (wI (semi t n (pieceR t n q))), u15, u16, u17, u18, u19, u20]), (mt, eI (gI G) 400 g), (np, eI (gI G) 1769 F2)] ∧ ∀ z, semi t n (pieceR t n q) = .inr z → a9 = z.2 ∧ ∃ f, F2 = rowU F z.1.1 f ∧ pR f z.1.2) ∧ k = sz)) 0 0 (vL lo) := by
  refine vMet (R := RMo) (by decide) rfl (Nat.le_of_ble_eq_true rfl) ?_
  intro pg ev s mi args below meth cd hx hb hr hml hlk hnm hts hown hK hz hV ls hl
  have hl : lv_has ls 4 [(0, .ref m)] := hl
  have hV0 := hV
  obtain ⟨H, hH⟩ : ∃ H, H = s.heap := ⟨_, rfl⟩
  obtain ⟨locs, hlocs⟩ : ∃ locs : List Loc, locs = [] := ⟨_, rfl⟩
  rw [← hH, ← hlocs]
  rw [← hH] at hz
  replace hV : vS G.1 cls lo s H locs (vU V [(m, eO 8 [u0, .int (nI n), .ref mt, u3, u4, u5, u6, u7, u8, .ref np, u10, u11, u12, .int (nI q), .int ((-1)), u15, u16, u17, u18, u19, u20]), (mt, eI (gI G) 400 g), (np, eI (gI G) 1769 F)]) := by rw [hH, hlocs]; exact hV
  clear hH hlocs hV0
  have b365 : ∀ (j e a : Nat) (F2 : Nat → Int32), (j ≤ 60) → (e ≤ 1000) → (semi t n (pieceR t n q) = .inl e) → ∀ (H : Heap) (locs : List Loc) (ls : Array Slot), H.size = sz → vS G.1 cls lo s H locs (vU V [(m, eO 8 [u0, .int (nI n), .ref mt, u3, u4, u5, u6, u7, u8, .ref np, u10, u11, u12, .int (nI a), .int (nI e), u15, u16, u17, u18, u19, u20]), (mt, eI (gI G) 400 g), (np, eI (gI G) 1769 F2)]) → lv_has ls 4 [(0, .ref m), (2, .int (nI (29 * j)))] → W pg l ev ({ frames := 4, cells := 0, slots := 0, locals := 120 } : Room) s mi args below meth cd H locs 0 0 (MQ below (vPost G lo (fun r V' k => r = none ∧ (∃ (a9 : Nat) (F2 : Nat → Int32), V' = vU V [(m, eO 8 [u0, .int (nI n), .ref mt, u3, u4, u5, u6, u7, u8, .ref np, u10, u11, u12, .int (nI a9), .int (wI (semi t n (pieceR t n q))), u15, u16, u17, u18, u19, u20]), (mt, eI (gI G) 400 g), (np, eI (gI G) 1769 F2)] ∧ ∀ z, semi t n (pieceR t n q) = .inr z → a9 = z.2 ∧ ∃ f, F2 = rowU F z.1.1 f ∧ pR f z.1.2) ∧ k = sz)) args s 0 0 (vL lo)) (F0 mi 365 ls []) := by
    intro j e a F2  hj6 he9 hX H locs ls hz hV hl
    refine lv_aload_n hx hb d_Mo_pieceRow_365 rfl (lv_at hl 0 rfl) ?_
    refine lv_bipush (v := 33) hx hb d_Mo_pieceRow_366 (by decide) ?_
    refine v_call (va_runV (As := [.int 33]) (rest := []) ⟨hx, hb, hml, hown, hts⟩ (c_Mo_isNextB l G lo _ _ m u0 (.int (nI n)) (.ref mt) u3 u4 u5 u6 u7 u8 (.ref np) u10 u11 u12 (.int (nI a)) u15 u16 u17 u18 u19 u20 (by simp) e (by omega) 33) (kwV 1 hts w_co_Mo_isNext rfl rfl w_it_Mo w_ml_Mo_93 w_im_Mo_isNext w_se_Mo__Mo_isNext (by decide +kernel) ⟨(Nat.le_of_ble_eq_true rfl), (Nat.le_of_ble_eq_true rfl)⟩) (u_preV hK hV hn [0] rfl hz 0 rfl rfl) rfl rfl hl.1 rfl (lv_room (Nat.le_of_ble_eq_true rfl)) d_Mo_pieceRow_368 ⟨(Nat.le_of_ble_eq_true rfl), (Nat.le_of_ble_eq_true rfl)⟩) hV (fun r9 V9 H locs hp hV hle => ?_)
    obtain ⟨rfl, rfl, hz⟩ := hp
    replace hV := uu_same hV hn [0] rfl
    have hV : vS G.1 cls lo s H locs (vU V [(m, eO 8 [u0, .int (nI n), .ref mt, u3, u4, u5, u6, u7, u8, .ref np, u10, u11, u12, .int (nI a), .int (nI e), u15, u16, u17, u18, u19, u20]), (mt, eI (gI G) 400 g), (np, eI (gI G) 1769 F2)]) := hV
    refine W.eq (g2 := F0 mi 371 ls [.int 0]) rfl ?_
    refine lv_if_eq (tgt := 390) hx hb d_Mo_pieceRow_371 (by decide) (fun _ => ?_) (fun c_1 => absurd c_1 (by decide))
    refine lv_aload_n hx hb d_Mo_pieceRow_390 rfl (lv_at hl 0 rfl) ?_
    refine lv_bipush (v := 34) hx hb d_Mo_pieceRow_391 (by decide) ?_
    refine v_call (va_runV (As := [.int 34]) (rest := []) ⟨hx, hb, hml, hown, hts⟩ (c_Mo_isNextB l G lo _ _ m u0 (.int (nI n)) (.ref mt) u3 u4 u5 u6 u7 u8 (.ref np) u10 u11 u12 (.int (nI a)) u15 u16 u17 u18 u19 u20 (by simp) e (by omega) 34) (kwV 1 hts w_co_Mo_isNext rfl rfl w_it_Mo w_ml_Mo_93 w_im_Mo_isNext w_se_Mo__Mo_isNext (by decide +kernel) ⟨(Nat.le_of_ble_eq_true rfl), (Nat.le_of_ble_eq_true rfl)⟩) (u_preV hK hV hn [0] rfl hz 0 rfl rfl) rfl rfl hl.1 rfl (lv_room (Nat.le_of_ble_eq_true rfl)) d_Mo_pieceRow_393 ⟨(Nat.le_of_ble_eq_true rfl), (Nat.le_of_ble_eq_true rfl)⟩) hV (fun r9 V9 H locs hp hV hle => ?_)
    obtain ⟨rfl, rfl, hz⟩ := hp
    replace hV := uu_same hV hn [0] rfl
    have hV : vS G.1 cls lo s H locs (vU V [(m, eO 8 [u0, .int (nI n), .ref mt, u3, u4, u5, u6, u7, u8, .ref np, u10, u11, u12, .int (nI a), .int (nI e), u15, u16, u17, u18, u19, u20]), (mt, eI (gI G) 400 g), (np, eI (gI G) 1769 F2)]) := hV
    refine W.eq (g2 := F0 mi 396 ls [.int 0]) rfl ?_
    refine lv_if_eq (tgt := 404) hx hb d_Mo_pieceRow_396 (by decide) (fun _ => ?_) (fun c_2 => absurd c_2 (by decide))
    refine lv_aload_n hx hb d_Mo_pieceRow_404 rfl (lv_at hl 0 rfl) ?_
    refine lv_bipush (v := 59) hx hb d_Mo_pieceRow_405 (by decide) ?_
    refine v_call (va_runV (As := [.int 59]) (rest := []) ⟨hx, hb, hml, hown, hts⟩ (c_Mo_takeB l G lo _ _ m u0 (.int (nI n)) (.ref mt) u3 u4 u5 u6 u7 u8 (.ref np) u10 u11 u12 (.int (nI a)) u15 u16 u17 u18 u19 u20 (by simp) e (by omega) 59) (kwV 1 hts w_co_Mo_take rfl rfl w_it_Mo w_ml_Mo_86 w_im_Mo_take w_se_Mo__Mo_take (by decide +kernel) ⟨(Nat.le_of_ble_eq_true rfl), (Nat.le_of_ble_eq_true rfl)⟩) (u_preV hK hV hn [0] rfl hz 0 rfl rfl) rfl rfl hl.1 rfl (lv_room (Nat.le_of_ble_eq_true rfl)) d_Mo_pieceRow_407 ⟨(Nat.le_of_ble_eq_true rfl), (Nat.le_of_ble_eq_true rfl)⟩) hV (fun r9 V9 H locs hp hV hle => ?_)
    obtain ⟨rfl, rfl, hz⟩ := hp
    replace hV := uu_same hV hn [0] rfl
    have hV : vS G.1 cls lo s H locs (vU V [(m, eO 8 [u0, .int (nI n), .ref mt, u3, u4, u5, u6, u7, u8, .ref np, u10, u11, u12, .int (nI a), .int (nI e), u15, u16, u17, u18, u19, u20]), (mt, eI (gI G) 400 g), (np, eI (gI G) 1769 F2)]) := hV
    exact W.vret hx hb hr (v_end hV ⟨rfl, ⟨_, _, by rw [hX]; rfl, fun z hz9 => by rw [hX] at hz9; cases hz9⟩, hz⟩) hV.2.1.2.2 d_Mo_pieceRow_410
  have b287 : ∀ (j e a : Nat) (F2 : Nat → Int32), (j ≤ 60) → (e ≤ 1000) → (semi t n (pieceR t n q) = .inl e) → ∀ (H : Heap) (locs : List Loc) (ls : Array Slot), H.size = sz → vS G.1 cls lo s H locs (vU V [(m, eO 8 [u0, .int (nI n), .ref mt, u3, u4, u5, u6, u7, u8, .ref np, u10, u11, u12, .int (nI a), .int (nI e), u15, u16, u17, u18, u19, u20]), (mt, eI (gI G) 400 g), (np, eI (gI G) 1769 F2)]) → lv_has ls 4 [(0, .ref m), (2, .int (nI (29 * j)))] → W pg l ev ({ frames := 4, cells := 0, slots := 0, locals := 120 } : Room) s mi args below meth cd H locs 0 0 (MQ below (vPost G lo (fun r V' k => r = none ∧ (∃ (a9 : Nat) (F2 : Nat → Int32), V' = vU V [(m, eO 8 [u0, .int (nI n), .ref mt, u3, u4, u5, u6, u7, u8, .ref np, u10, u11, u12, .int (nI a9), .int (wI (semi t n (pieceR t n q))), u15, u16, u17, u18, u19, u20]), (mt, eI (gI G) 400 g), (np, eI (gI G) 1769 F2)] ∧ ∀ z, semi t n (pieceR t n q) = .inr z → a9 = z.2 ∧ ∃ f, F2 = rowU F z.1.1 f ∧ pR f z.1.2) ∧ k = sz)) args s 0 0 (vL lo)) (F0 mi 287 ls []) := by
    intro j e a F2  hj6 he9 hX H locs ls hz hV hl
    refine lv_aload_n hx hb d_Mo_pieceRow_287 rfl (lv_at hl 0 rfl) ?_
    refine u_get hx hb hts inMo hown hK hV hn 0 rfl rfl 14 (by decide) w_fl_Mo_68 rfl rfl d_Mo_pieceRow_288 ?_
    refine lv_if_ge (tgt := 340) hx hb d_Mo_pieceRow_291 (by decide) (fun c_3 => ?_) (fun c_3 => absurd (nI_ge0 (by omega)) c_3)
    replace c_3 : 0 ≤ e := (nI_leI (a := 0) (b := e) (by omega) (by omega)).mp c_3
    refine lv_aload_n hx hb d_Mo_pieceRow_340 rfl (lv_at hl 0 rfl) ?_
    refine lv_bipush (v := 94) hx hb d_Mo_pieceRow_341 (by decide) ?_
    refine v_call (va_runV (As := [.int 94]) (rest := []) ⟨hx, hb, hml, hown, hts⟩ (c_Mo_isNextB l G lo _ _ m u0 (.int (nI n)) (.ref mt) u3 u4 u5 u6 u7 u8 (.ref np) u10 u11 u12 (.int (nI a)) u15 u16 u17 u18 u19 u20 (by simp) e (by omega) 94) (kwV 1 hts w_co_Mo_isNext rfl rfl w_it_Mo w_ml_Mo_93 w_im_Mo_isNext w_se_Mo__Mo_isNext (by decide +kernel) ⟨(Nat.le_of_ble_eq_true rfl), (Nat.le_of_ble_eq_true rfl)⟩) (u_preV hK hV hn [0] rfl hz 0 rfl rfl) rfl rfl hl.1 rfl (lv_room (Nat.le_of_ble_eq_true rfl)) d_Mo_pieceRow_343 ⟨(Nat.le_of_ble_eq_true rfl), (Nat.le_of_ble_eq_true rfl)⟩) hV (fun r9 V9 H locs hp hV hle => ?_)
    obtain ⟨rfl, rfl, hz⟩ := hp
    replace hV := uu_same hV hn [0] rfl
    have hV : vS G.1 cls lo s H locs (vU V [(m, eO 8 [u0, .int (nI n), .ref mt, u3, u4, u5, u6, u7, u8, .ref np, u10, u11, u12, .int (nI a), .int (nI e), u15, u16, u17, u18, u19, u20]), (mt, eI (gI G) 400 g), (np, eI (gI G) 1769 F2)]) := hV
    refine W.eq (g2 := F0 mi 346 ls [.int 0]) rfl ?_
    refine lv_if_eq (tgt := 365) hx hb d_Mo_pieceRow_346 (by decide) (fun _ => ?_) (fun c_4 => absurd c_4 (by decide))
    exact b365 j e a F2 (by omega) (by omega) hX H locs ls hz hV (lv_sub hl [0, 1] rfl)
  have b199 : ∀ (j e a : Nat) (F2 : Nat → Int32), (j ≤ 60) → (e ≤ 1000) → (a ≤ 702) → (semi t n (pieceR t n q) = .inl e) → ∀ (H : Heap) (locs : List Loc) (ls : Array Slot), H.size = sz → vS G.1 cls lo s H locs (vU V [(m, eO 8 [u0, .int (nI n), .ref mt, u3, u4, u5, u6, u7, u8, .ref np, u10, u11, u12, .int (nI a), .int (nI e), u15, u16, u17, u18, u19, u20]), (mt, eI (gI G) 400 g), (np, eI (gI G) 1769 F2)]) → lv_has ls 4 [(0, .ref m), (2, .int (nI (29 * j)))] → W pg l ev ({ frames := 4, cells := 0, slots := 0, locals := 120 } : Room) s mi args below meth cd H locs 0 0 (MQ below (vPost G lo (fun r V' k => r = none ∧ (∃ (a9 : Nat) (F2 : Nat → Int32), V' = vU V [(m, eO 8 [u0, .int (nI n), .ref mt, u3, u4, u5, u6, u7, u8, .ref np, u10, u11, u12, .int (nI a9), .int (wI (semi t n (pieceR t n q))), u15, u16, u17, u18, u19, u20]), (mt, eI (gI G) 400 g), (np, eI (gI G) 1769 F2)] ∧ ∀ z, semi t n (pieceR t n q) = .inr z → a9 = z.2 ∧ ∃ f, F2 = rowU F z.1.1 f ∧ pR f z.1.2) ∧ k = sz)) args s 0 0 (vL lo)) (F0 mi 199 ls []) := by
    intro j e a F2  hj6 he9 ha9 hX H locs ls hz hV hl
    refine lv_aload_n hx hb d_Mo_pieceRow_199 rfl (lv_at hl 0 rfl) ?_
    refine lv_bipush (v := 58) hx hb d_Mo_pieceRow_200 (by decide) ?_
    refine v_call (va_runV (As := [.int 58]) (rest := []) ⟨hx, hb, hml, hown, hts⟩ (c_Mo_takeB l G lo _ _ m u0 (.int (nI n)) (.ref mt) u3 u4 u5 u6 u7 u8 (.ref np) u10 u11 u12 (.int (nI a)) u15 u16 u17 u18 u19 u20 (by simp) e (by omega) 58) (kwV 1 hts w_co_Mo_take rfl rfl w_it_Mo w_ml_Mo_86 w_im_Mo_take w_se_Mo__Mo_take (by decide +kernel) ⟨(Nat.le_of_ble_eq_true rfl), (Nat.le_of_ble_eq_true rfl)⟩) (u_preV hK hV hn [0] rfl hz 0 rfl rfl) rfl rfl hl.1 rfl (lv_room (Nat.le_of_ble_eq_true rfl)) d_Mo_pieceRow_202 ⟨(Nat.le_of_ble_eq_true rfl), (Nat.le_of_ble_eq_true rfl)⟩) hV (fun r9 V9 H locs hp hV hle => ?_)
    obtain ⟨rfl, rfl, hz⟩ := hp
    replace hV := uu_same hV hn [0] rfl
    have hV : vS G.1 cls lo s H locs (vU V [(m, eO 8 [u0, .int (nI n), .ref mt, u3, u4, u5, u6, u7, u8, .ref np, u10, u11, u12, .int (nI a), .int (nI e), u15, u16, u17, u18, u19, u20]), (mt, eI (gI G) 400 g), (np, eI (gI G) 1769 F2)]) := hV
    refine lv_aload_n hx hb d_Mo_pieceRow_205 rfl (lv_at hl 0 rfl) ?_
    refine u_get hx hb hts inMo hown hK hV hn 0 rfl rfl 9 (by decide) w_fl_Mo_29 rfl rfl d_Mo_pieceRow_206 ?_
    refine lv_iload_n hx hb d_Mo_pieceRow_209 rfl (lv_at hl 1 rfl) ?_
    refine lv_iconst (v := 4) hx hb d_Mo_pieceRow_210 (by decide) ?_
    refine e_iadd (v := nI (29 * j + 4)) hx hb d_Mo_pieceRow_211 (nI_add (29 * j) 4) ?_
    refine lv_aload_n hx hb d_Mo_pieceRow_212 rfl (lv_at hl 0 rfl) ?_
    refine lv_iconst (v := 1) hx hb d_Mo_pieceRow_213 (by decide) ?_
    refine lv_sipush (v := 9999) hx hb d_Mo_pieceRow_214 (by decide) ?_
    refine v_call (va_runV (As := [.int 1, .int 9999]) (rest := [.int (nI (29 * j + 4)), .ref np]) ⟨hx, hb, hml, hown, hts⟩ (c_Mo_numberB l G lo _ _ m u0 (.int (nI n)) (.ref mt) u3 u4 u5 u6 u7 u8 (.ref np) u10 u11 u12 (.int (nI a)) u15 u16 u17 u18 u19 u20 (by simp) e (by omega) 1 9999) (kwV 2 hts w_co_Mo_number rfl rfl w_it_Mo w_ml_Mo_82 w_im_Mo_number w_se_Mo__Mo_number (by decide +kernel) ⟨(Nat.le_of_ble_eq_true rfl), (Nat.le_of_ble_eq_true rfl)⟩) (u_preV hK hV hn [0] rfl hz 0 rfl rfl) rfl rfl hl.1 rfl (lv_room (Nat.le_of_ble_eq_true rfl)) d_Mo_pieceRow_217 ⟨(Nat.le_of_ble_eq_true rfl), (Nat.le_of_ble_eq_true rfl)⟩) hV (fun r9 V9 H locs hp hV hle => ?_)
    obtain ⟨rfl, rfl, hz⟩ := hp
    replace hV := uu_same hV hn [0] rfl
    have hV : vS G.1 cls lo s H locs (vU V [(m, eO 8 [u0, .int (nI n), .ref mt, u3, u4, u5, u6, u7, u8, .ref np, u10, u11, u12, .int (nI a), .int (nI e), u15, u16, u17, u18, u19, u20]), (mt, eI (gI G) 400 g), (np, eI (gI G) 1769 F2)]) := hV
    refine W.eq (g2 := F0 mi 220 ls [.int 1, .int (nI (29 * j + 4)), .ref np]) rfl ?_
    refine u_iastN hx hb hK hV hn 2 rfl (by omega) (by decide) d_Mo_pieceRow_220 (fun H locs hV hz9 => ?_)
    have hV : vS G.1 cls lo s H locs (vU V [(m, eO 8 [u0, .int (nI n), .ref mt, u3, u4, u5, u6, u7, u8, .ref np, u10, u11, u12, .int (nI a), .int (nI e), u15, u16, u17, u18, u19, u20]), (mt, eI (gI G) 400 g), (np, eI (gI G) 1769 (upd F2 (29 * j + 4) 1))]) := hV
    replace hz := hz9.trans hz
    refine lv_aload_n hx hb d_Mo_pieceRow_221 rfl (lv_at hl 0 rfl) ?_
    refine u_get hx hb hts inMo hown hK hV hn 0 rfl rfl 14 (by decide) w_fl_Mo_68 rfl rfl d_Mo_pieceRow_222 ?_
    refine lv_if_ge (tgt := 238) hx hb d_Mo_pieceRow_225 (by decide) (fun c_5 => ?_) (fun c_5 => absurd (nI_ge0 (by omega)) c_5)
    replace c_5 : 0 ≤ e := (nI_leI (a := 0) (b := e) (by omega) (by omega)).mp c_5
    refine lv_iconst (v := 0) hx hb d_Mo_pieceRow_238 (by decide) ?_
    refine lv_istore_n (lv' := [(3, .int 0), (0, .ref m), (2, .int (nI (29 * j)))]) hx hb d_Mo_pieceRow_239 rfl hl (by decide) rfl (fun ls hl => ?_)
    refine lv_iload_n hx hb d_Mo_pieceRow_240 rfl (lv_at hl 0 rfl) ?_
    refine lv_if_ge (tgt := 252) hx hb d_Mo_pieceRow_241 (by decide) (fun _ => ?_) (fun c_6 => absurd c_6 (by decide))
    refine lv_aload_n hx hb d_Mo_pieceRow_252 rfl (lv_at hl 1 rfl) ?_
    refine u_get hx hb hts inMo hown hK hV hn 0 rfl rfl 9 (by decide) w_fl_Mo_29 rfl rfl d_Mo_pieceRow_253 ?_
    refine lv_iload_n hx hb d_Mo_pieceRow_256 rfl (lv_at hl 2 rfl) ?_
    refine lv_iconst (v := 5) hx hb d_Mo_pieceRow_257 (by decide) ?_
    refine e_iadd (v := nI (29 * j + 5)) hx hb d_Mo_pieceRow_258 (nI_add (29 * j) 5) ?_
    refine lv_iload_n hx hb d_Mo_pieceRow_259 rfl (lv_at hl 0 rfl) ?_
    refine u_iastN hx hb hK hV hn 2 rfl (by omega) (by decide) d_Mo_pieceRow_260 (fun H locs hV hz9 => ?_)
    have hV : vS G.1 cls lo s H locs (vU V [(m, eO 8 [u0, .int (nI n), .ref mt, u3, u4, u5, u6, u7, u8, .ref np, u10, u11, u12, .int (nI a), .int (nI e), u15, u16, u17, u18, u19, u20]), (mt, eI (gI G) 400 g), (np, eI (gI G) 1769 (upd (upd F2 (29 * j + 4) 1) (29 * j + 5) 0))]) := hV
    replace hz := hz9.trans hz
    refine lv_aload_n hx hb d_Mo_pieceRow_261 rfl (lv_at hl 1 rfl) ?_
    refine lv_dup hx hb d_Mo_pieceRow_262 rfl ?_
    refine u_get hx hb hts inMo hown hK hV hn 0 rfl rfl 13 (by decide) w_fl_Mo_61 rfl rfl d_Mo_pieceRow_263 ?_
    refine lv_iconst (v := 1) hx hb d_Mo_pieceRow_266 (by decide) ?_
    refine e_iadd (v := nI (a + 1)) hx hb d_Mo_pieceRow_267 (nI_add a 1) ?_
    refine u_put hx hb hts inMo tyMo tyMo_ok nmMo hown hK hV hn 0 rfl rfl 13 (by decide) w_fl_Mo_61 rfl rfl rfl rfl (Nat.le_of_ble_eq_true rfl) d_Mo_pieceRow_268 (fun H locs hV hz9 => ?_)
    have hV : vS G.1 cls lo s H locs (vU V [(m, eO 8 [u0, .int (nI n), .ref mt, u3, u4, u5, u6, u7, u8, .ref np, u10, u11, u12, .int (nI (a + 1)), .int (nI e), u15, u16, u17, u18, u19, u20]), (mt, eI (gI G) 400 g), (np, eI (gI G) 1769 (upd (upd F2 (29 * j + 4) 1) (29 * j + 5) 0))]) := hV
    replace hz := hz9.trans hz
    refine lv_aload_n hx hb d_Mo_pieceRow_271 rfl (lv_at hl 1 rfl) ?_
    refine u_get hx hb hts inMo hown hK hV hn 0 rfl rfl 9 (by decide) w_fl_Mo_29 rfl rfl d_Mo_pieceRow_272 ?_
    refine lv_iload_n hx hb d_Mo_pieceRow_275 rfl (lv_at hl 2 rfl) ?_
    refine lv_bipush (v := 6) hx hb d_Mo_pieceRow_276 (by decide) ?_
    refine e_iadd (v := nI (29 * j + 6)) hx hb d_Mo_pieceRow_278 (nI_add (29 * j) 6) ?_
    refine lv_aload_n hx hb d_Mo_pieceRow_279 rfl (lv_at hl 1 rfl) ?_
    refine lv_iconst (v := 1) hx hb d_Mo_pieceRow_280 (by decide) ?_
    refine lv_bipush (v := 99) hx hb d_Mo_pieceRow_281 (by decide) ?_
    refine v_call (va_runV (As := [.int 1, .int 99]) (rest := [.int (nI (29 * j + 6)), .ref np]) ⟨hx, hb, hml, hown, hts⟩ (c_Mo_numberB l G lo _ _ m u0 (.int (nI n)) (.ref mt) u3 u4 u5 u6 u7 u8 (.ref np) u10 u11 u12 (.int (nI (a + 1))) u15 u16 u17 u18 u19 u20 (by simp) e (by omega) 1 99) (kwV 2 hts w_co_Mo_number rfl rfl w_it_Mo w_ml_Mo_82 w_im_Mo_number w_se_Mo__Mo_number (by decide +kernel) ⟨(Nat.le_of_ble_eq_true rfl), (Nat.le_of_ble_eq_true rfl)⟩) (u_preV hK hV hn [0] rfl hz 0 rfl rfl) rfl rfl hl.1 rfl (lv_room (Nat.le_of_ble_eq_true rfl)) d_Mo_pieceRow_283 ⟨(Nat.le_of_ble_eq_true rfl), (Nat.le_of_ble_eq_true rfl)⟩) hV (fun r9 V9 H locs hp hV hle => ?_)
    obtain ⟨rfl, rfl, hz⟩ := hp
    replace hV := uu_same hV hn [0] rfl
    have hV : vS G.1 cls lo s H locs (vU V [(m, eO 8 [u0, .int (nI n), .ref mt, u3, u4, u5, u6, u7, u8, .ref np, u10, u11, u12, .int (nI (a + 1)), .int (nI e), u15, u16, u17, u18, u19, u20]), (mt, eI (gI G) 400 g), (np, eI (gI G) 1769 (upd (upd F2 (29 * j + 4) 1) (29 * j + 5) 0))]) := hV
    refine W.eq (g2 := F0 mi 286 ls [.int 1, .int (nI (29 * j + 6)), .ref np]) rfl ?_
    refine u_iastN hx hb hK hV hn 2 rfl (by omega) (by decide) d_Mo_pieceRow_286 (fun H locs hV hz9 => ?_)
    have hV : vS G.1 cls lo s H locs (vU V [(m, eO 8 [u0, .int (nI n), .ref mt, u3, u4, u5, u6, u7, u8, .ref np, u10, u11, u12, .int (nI (a + 1)), .int (nI e), u15, u16, u17, u18, u19, u20]), (mt, eI (gI G) 400 g), (np, eI (gI G) 1769 (upd (upd (upd F2 (29 * j + 4) 1) (29 * j + 5) 0) (29 * j + 6) 1))]) := hV
    replace hz := hz9.trans hz
    exact b287 j e (a + 1) (upd (upd (upd F2 (29 * j + 4) 1) (29 * j + 5) 0) (29 * j + 6) 1) (by omega) (by omega) hX H locs ls hz hV (lv_sub hl [1, 2] rfl)
  have b138 : ∀ (j e a : Nat) (F2 : Nat → Int32), (j ≤ 60) → (e ≤ 1000) → (a ≤ 701) → (semi t n (pieceR t n q) = .inl e) → ∀ (H : Heap) (locs : List Loc) (ls : Array Slot), H.size = sz → vS G.1 cls lo s H locs (vU V [(m, eO 8 [u0, .int (nI n), .ref mt, u3, u4, u5, u6, u7, u8, .ref np, u10, u11, u12, .int (nI a), .int (nI e), u15, u16, u17, u18, u19, u20]), (mt, eI (gI G) 400 g), (np, eI (gI G) 1769 F2)]) → lv_has ls 4 [(0, .ref m), (2, .int (nI (29 * j)))] → W pg l ev ({ frames := 4, cells := 0, slots := 0, locals := 120 } : Room) s mi args below meth cd H locs 0 0 (MQ below (vPost G lo (fun r V' k => r = none ∧ (∃ (a9 : Nat) (F2 : Nat → Int32), V' = vU V [(m, eO 8 [u0, .int (nI n), .ref mt, u3, u4, u5, u6, u7, u8, .ref np, u10, u11, u12, .int (nI a9), .int (wI (semi t n (pieceR t n q))), u15, u16, u17, u18, u19, u20]), (mt, eI (gI G) 400 g), (np, eI (gI G) 1769 F2)] ∧ ∀ z, semi t n (pieceR t n q) = .inr z → a9 = z.2 ∧ ∃ f, F2 = rowU F z.1.1 f ∧ pR f z.1.2) ∧ k = sz)) args s 0 0 (vL lo)) (F0 mi 138 ls []) := by
    intro j e a F2  hj6 he9 ha9 hX H locs ls hz hV hl
    refine lv_aload_n hx hb d_Mo_pieceRow_138 rfl (lv_at hl 0 rfl) ?_
    refine lv_dup hx hb d_Mo_pieceRow_139 rfl ?_
    refine u_get hx hb hts inMo hown hK hV hn 0 rfl rfl 13 (by decide) w_fl_Mo_61 rfl rfl d_Mo_pieceRow_140 ?_
    refine lv_iconst (v := 1) hx hb d_Mo_pieceRow_143 (by decide) ?_
    refine e_iadd (v := nI (a + 1)) hx hb d_Mo_pieceRow_144 (nI_add a 1) ?_
    refine u_put hx hb hts inMo tyMo tyMo_ok nmMo hown hK hV hn 0 rfl rfl 13 (by decide) w_fl_Mo_61 rfl rfl rfl rfl (Nat.le_of_ble_eq_true rfl) d_Mo_pieceRow_145 (fun H locs hV hz9 => ?_)
    have hV : vS G.1 cls lo s H locs (vU V [(m, eO 8 [u0, .int (nI n), .ref mt, u3, u4, u5, u6, u7, u8, .ref np, u10, u11, u12, .int (nI (a + 1)), .int (nI e), u15, u16, u17, u18, u19, u20]), (mt, eI (gI G) 400 g), (np, eI (gI G) 1769 F2)]) := hV
    replace hz := hz9.trans hz
    refine lv_aload_n hx hb d_Mo_pieceRow_148 rfl (lv_at hl 0 rfl) ?_
    refine u_get hx hb hts inMo hown hK hV hn 0 rfl rfl 9 (by decide) w_fl_Mo_29 rfl rfl d_Mo_pieceRow_149 ?_
    refine lv_iload_n hx hb d_Mo_pieceRow_152 rfl (lv_at hl 1 rfl) ?_
    refine lv_iconst (v := 2) hx hb d_Mo_pieceRow_153 (by decide) ?_
    refine e_iadd (v := nI (29 * j + 2)) hx hb d_Mo_pieceRow_154 (nI_add (29 * j) 2) ?_
    refine lv_aload_n hx hb d_Mo_pieceRow_155 rfl (lv_at hl 0 rfl) ?_
    refine lv_iconst (v := 1) hx hb d_Mo_pieceRow_156 (by decide) ?_
    refine lv_bipush (v := 40) hx hb d_Mo_pieceRow_157 (by decide) ?_
    refine v_call (va_runV (As := [.int 1, .int 40]) (rest := [.int (nI (29 * j + 2)), .ref np]) ⟨hx, hb, hml, hown, hts⟩ (c_Mo_numberB l G lo _ _ m u0 (.int (nI n)) (.ref mt) u3 u4 u5 u6 u7 u8 (.ref np) u10 u11 u12 (.int (nI (a + 1))) u15 u16 u17 u18 u19 u20 (by simp) e (by omega) 1 40) (kwV 2 hts w_co_Mo_number rfl rfl w_it_Mo w_ml_Mo_82 w_im_Mo_number w_se_Mo__Mo_number (by decide +kernel) ⟨(Nat.le_of_ble_eq_true rfl), (Nat.le_of_ble_eq_true rfl)⟩) (u_preV hK hV hn [0] rfl hz 0 rfl rfl) rfl rfl hl.1 rfl (lv_room (Nat.le_of_ble_eq_true rfl)) d_Mo_pieceRow_159 ⟨(Nat.le_of_ble_eq_true rfl), (Nat.le_of_ble_eq_true rfl)⟩) hV (fun r9 V9 H locs hp hV hle => ?_)
    obtain ⟨rfl, rfl, hz⟩ := hp
    replace hV := uu_same hV hn [0] rfl
    have hV : vS G.1 cls lo s H locs (vU V [(m, eO 8 [u0, .int (nI n), .ref mt, u3, u4, u5, u6, u7, u8, .ref np, u10, u11, u12, .int (nI (a + 1)), .int (nI e), u15, u16, u17, u18, u19, u20]), (mt, eI (gI G) 400 g), (np, eI (gI G) 1769 F2)]) := hV
    refine W.eq (g2 := F0 mi 162 ls [.int 1, .int (nI (29 * j + 2)), .ref np]) rfl ?_
    refine u_iastN hx hb hK hV hn 2 rfl (by omega) (by decide) d_Mo_pieceRow_162 (fun H locs hV hz9 => ?_)
    have hV : vS G.1 cls lo s H locs (vU V [(m, eO 8 [u0, .int (nI n), .ref mt, u3, u4, u5, u6, u7, u8, .ref np, u10, u11, u12, .int (nI (a + 1)), .int (nI e), u15, u16, u17, u18, u19, u20]), (mt, eI (gI G) 400 g), (np, eI (gI G) 1769 (upd F2 (29 * j + 2) 1))]) := hV
    replace hz := hz9.trans hz
    refine lv_aload_n hx hb d_Mo_pieceRow_163 rfl (lv_at hl 0 rfl) ?_
    refine u_get hx hb hts inMo hown hK hV hn 0 rfl rfl 14 (by decide) w_fl_Mo_68 rfl rfl d_Mo_pieceRow_164 ?_
    refine lv_if_ge (tgt := 199) hx hb d_Mo_pieceRow_167 (by decide) (fun c_7 => ?_) (fun c_7 => absurd (nI_ge0 (by omega)) c_7)
    replace c_7 : 0 ≤ e := (nI_leI (a := 0) (b := e) (by omega) (by omega)).mp c_7
    exact b199 j e (a + 1) (upd F2 (29 * j + 2) 1) (by omega) (by omega) (by omega) hX H locs ls hz hV (lv_sub hl [0, 1] rfl)
  have b116 : ∀ (j e a : Nat) (F2 : Nat → Int32), (j ≤ 60) → (e ≤ 1000) → (a ≤ 700) → (semi t n (pieceR t n q) = .inl e) → ∀ (H : Heap) (locs : List Loc) (ls : Array Slot), H.size = sz → vS G.1 cls lo s H locs (vU V [(m, eO 8 [u0, .int (nI n), .ref mt, u3, u4, u5, u6, u7, u8, .ref np, u10, u11, u12, .int (nI a), .int (nI e), u15, u16, u17, u18, u19, u20]), (mt, eI (gI G) 400 g), (np, eI (gI G) 1769 F2)]) → lv_has ls 4 [(0, .ref m), (2, .int (nI (29 * j)))] → W pg l ev ({ frames := 4, cells := 0, slots := 0, locals := 120 } : Room) s mi args below meth cd H locs 0 0 (MQ below (vPost G lo (fun r V' k => r = none ∧ (∃ (a9 : Nat) (F2 : Nat → Int32), V' = vU V [(m, eO 8 [u0, .int (nI n), .ref mt, u3, u4, u5, u6, u7, u8, .ref np, u10, u11, u12, .int (nI a9), .int (wI (semi t n (pieceR t n q))), u15, u16, u17, u18, u19, u20]), (mt, eI (gI G) 400 g), (np, eI (gI G) 1769 F2)] ∧ ∀ z, semi t n (pieceR t n q) = .inr z → a9 = z.2 ∧ ∃ f, F2 = rowU F z.1.1 f ∧ pR f z.1.2) ∧ k = sz)) args s 0 0 (vL lo)) (F0 mi 116 ls []) := by
    intro j e a F2  hj6 he9 ha9 hX H locs ls hz hV hl
    refine lv_aload_n hx hb d_Mo_pieceRow_116 rfl (lv_at hl 0 rfl) ?_
    refine u_get hx hb hts inMo hown hK hV hn 0 rfl rfl 9 (by decide) w_fl_Mo_29 rfl rfl d_Mo_pieceRow_117 ?_
    refine lv_iload_n hx hb d_Mo_pieceRow_120 rfl (lv_at hl 1 rfl) ?_
    refine lv_iconst (v := 3) hx hb d_Mo_pieceRow_121 (by decide) ?_
    refine e_iadd (v := nI (29 * j + 3)) hx hb d_Mo_pieceRow_122 (nI_add (29 * j) 3) ?_
    refine lv_aload_n hx hb d_Mo_pieceRow_123 rfl (lv_at hl 0 rfl) ?_
    refine v_call (va_runV (As := []) (rest := [.int (nI (29 * j + 3)), .ref np]) ⟨hx, hb, hml, hown, hts⟩ (c_Mo_here l G lo _ _ m mt u0 u3 u4 u5 u6 u7 u8 (.ref np) u10 u11 u12 (.int (nI e)) u15 u16 u17 u18 u19 u20 g t n a (nd_sub hn [0, 1] (by decide) rfl) hT h4 (by omega)) (kwV 0 hts w_co_Mo_here rfl rfl w_it_Mo w_ml_Mo_64 w_im_Mo_here w_se_Mo__Mo_here (by decide +kernel) ⟨(Nat.le_of_ble_eq_true rfl), (Nat.le_of_ble_eq_true rfl)⟩) (u_preV hK hV hn [0, 1] rfl hz 0 rfl rfl) rfl rfl hl.1 rfl (lv_room (Nat.le_of_ble_eq_true rfl)) d_Mo_pieceRow_124 ⟨(Nat.le_of_ble_eq_true rfl), (Nat.le_of_ble_eq_true rfl)⟩) hV (fun r9 V9 H locs hp hV hle => ?_)
    obtain ⟨rfl, rfl, hz⟩ := hp
    replace hV := uu_same hV hn [0, 1] rfl
    rcases Nat.lt_or_ge a n with l_8 | l_8
    · have kl_8 := (hT a l_8).1
      have hV : vS G.1 cls lo s H locs (vU V [(m, eO 8 [u0, .int (nI n), .ref mt, u3, u4, u5, u6, u7, u8, .ref np, u10, u11, u12, .int (nI a), .int (nI e), u15, u16, u17, u18, u19, u20]), (mt, eI (gI G) 400 g), (np, eI (gI G) 1769 F2)]) := hV
      refine W.eq (g2 := F0 mi 127 ls [.int (nI (t a)), .int (nI (29 * j + 3)), .ref np]) (by rw [rK_in l_8]; rfl) ?_
      refine lv_bipush (v := 62) hx hb d_Mo_pieceRow_127 (by decide) ?_
      refine lv_icmp_ne (tgt := 136) hx hb d_Mo_pieceRow_129 (by decide) (fun c_9 => ?_) (fun c_9 => ?_)
      · replace c_9 : ¬ t a = 62 := fun z9 => c_9 ((nI_eq (a := t a) (b := 62) (by omega) (by omega)).mpr z9)
        refine lv_iconst (v := 0) hx hb d_Mo_pieceRow_136 (by decide) ?_
        refine u_iastN hx hb hK hV hn 2 rfl (by omega) (by decide) d_Mo_pieceRow_137 (fun H locs hV hz9 => ?_)
        have hV : vS G.1 cls lo s H locs (vU V [(m, eO 8 [u0, .int (nI n), .ref mt, u3, u4, u5, u6, u7, u8, .ref np, u10, u11, u12, .int (nI a), .int (nI e), u15, u16, u17, u18, u19, u20]), (mt, eI (gI G) 400 g), (np, eI (gI G) 1769 (upd F2 (29 * j + 3) 0))]) := hV
        replace hz := hz9.trans hz
        exact b138 j e a (upd F2 (29 * j + 3) 0) (by omega) (by omega) (by omega) hX H locs ls hz hV (lv_sub hl [0, 1] rfl)
      · replace c_9 : t a = 62 := (nI_eq (a := t a) (b := 62) (by omega) (by omega)).mp c_9
        refine lv_iconst (v := 1) hx hb d_Mo_pieceRow_132 (by decide) ?_
        refine lv_goto (tgt := 137) hx hb d_Mo_pieceRow_133 (by decide) ?_
        refine u_iastN hx hb hK hV hn 2 rfl (by omega) (by decide) d_Mo_pieceRow_137 (fun H locs hV hz9 => ?_)
        have hV : vS G.1 cls lo s H locs (vU V [(m, eO 8 [u0, .int (nI n), .ref mt, u3, u4, u5, u6, u7, u8, .ref np, u10, u11, u12, .int (nI a), .int (nI e), u15, u16, u17, u18, u19, u20]), (mt, eI (gI G) 400 g), (np, eI (gI G) 1769 (upd F2 (29 * j + 3) 1))]) := hV
        replace hz := hz9.trans hz
        exact b138 j e a (upd F2 (29 * j + 3) 1) (by omega) (by omega) (by omega) hX H locs ls hz hV (lv_sub hl [0, 1] rfl)
    · have hV : vS G.1 cls lo s H locs (vU V [(m, eO 8 [u0, .int (nI n), .ref mt, u3, u4, u5, u6, u7, u8, .ref np, u10, u11, u12, .int (nI a), .int (nI e), u15, u16, u17, u18, u19, u20]), (mt, eI (gI G) 400 g), (np, eI (gI G) 1769 F2)]) := hV
      refine W.eq (g2 := F0 mi 127 ls [.int ((-1)), .int (nI (29 * j + 3)), .ref np]) (by rw [rK_out (by omega)]; rfl) ?_
      refine lv_bipush (v := 62) hx hb d_Mo_pieceRow_127 (by decide) ?_
      refine lv_icmp_ne (tgt := 136) hx hb d_Mo_pieceRow_129 (by decide) (fun _ => ?_) (fun c_10 => absurd c_10 (by decide))
      refine lv_iconst (v := 0) hx hb d_Mo_pieceRow_136 (by decide) ?_
      refine u_iastN hx hb hK hV hn 2 rfl (by omega) (by decide) d_Mo_pieceRow_137 (fun H locs hV hz9 => ?_)
      have hV : vS G.1 cls lo s H locs (vU V [(m, eO 8 [u0, .int (nI n), .ref mt, u3, u4, u5, u6, u7, u8, .ref np, u10, u11, u12, .int (nI a), .int (nI e), u15, u16, u17, u18, u19, u20]), (mt, eI (gI G) 400 g), (np, eI (gI G) 1769 (upd F2 (29 * j + 3) 0))]) := hV
      replace hz := hz9.trans hz
      exact b138 j e a (upd F2 (29 * j + 3) 0) (by omega) (by omega) (by omega) hX H locs ls hz hV (lv_sub hl [0, 1] rfl)
  have b43 : ∀ (j e a : Nat) (F2 : Nat → Int32), (j ≤ 60) → (e ≤ 1000) → (a ≤ 700) → (semi t n (pieceR t n q) = .inl e) → ∀ (H : Heap) (locs : List Loc) (ls : Array Slot), H.size = sz → vS G.1 cls lo s H locs (vU V [(m, eO 8 [u0, .int (nI n), .ref mt, u3, u4, u5, u6, u7, u8, .ref np, u10, u11, u12, .int (nI a), .int (nI e), u15, u16, u17, u18, u19, u20]), (mt, eI (gI G) 400 g), (np, eI (gI G) 1769 F2)]) → lv_has ls 4 [(0, .ref m), (2, .int (nI (29 * j)))] → W pg l ev ({ frames := 4, cells := 0, slots := 0, locals := 120 } : Room) s mi args below meth cd H locs 0 0 (MQ below (vPost G lo (fun r V' k => r = none ∧ (∃ (a9 : Nat) (F2 : Nat → Int32), V' = vU V [(m, eO 8 [u0, .int (nI n), .ref mt, u3, u4, u5, u6, u7, u8, .ref np, u10, u11, u12, .int (nI a9), .int (wI (semi t n (pieceR t n q))), u15, u16, u17, u18, u19, u20]), (mt, eI (gI G) 400 g), (np, eI (gI G) 1769 F2)] ∧ ∀ z, semi t n (pieceR t n q) = .inr z → a9 = z.2 ∧ ∃ f, F2 = rowU F z.1.1 f ∧ pR f z.1.2) ∧ k = sz)) args s 0 0 (vL lo)) (F0 mi 43 ls []) := by
    intro j e a F2  hj6 he9 ha9 hX H locs ls hz hV hl
    refine lv_aload_n hx hb d_Mo_pieceRow_43 rfl (lv_at hl 0 rfl) ?_
    refine u_get hx hb hts inMo hown hK hV hn 0 rfl rfl 9 (by decide) w_fl_Mo_29 rfl rfl d_Mo_pieceRow_44 ?_
    refine lv_iload_n hx hb d_Mo_pieceRow_47 rfl (lv_at hl 1 rfl) ?_
    refine lv_iconst (v := 0) hx hb d_Mo_pieceRow_48 (by decide) ?_
    refine e_iadd (v := nI (29 * j + 0)) hx hb d_Mo_pieceRow_49 (nI_add (29 * j) 0) ?_
    refine lv_iconst (v := 1) hx hb d_Mo_pieceRow_50 (by decide) ?_
    refine u_iastN hx hb hK hV hn 2 rfl (by omega) (by decide) d_Mo_pieceRow_51 (fun H locs hV hz9 => ?_)
    have hV : vS G.1 cls lo s H locs (vU V [(m, eO 8 [u0, .int (nI n), .ref mt, u3, u4, u5, u6, u7, u8, .ref np, u10, u11, u12, .int (nI a), .int (nI e), u15, u16, u17, u18, u19, u20]), (mt, eI (gI G) 400 g), (np, eI (gI G) 1769 (upd F2 (29 * j + 0) 1))]) := hV
    replace hz := hz9.trans hz
    refine lv_aload_n hx hb d_Mo_pieceRow_52 rfl (lv_at hl 0 rfl) ?_
    refine u_get hx hb hts inMo hown hK hV hn 0 rfl rfl 9 (by decide) w_fl_Mo_29 rfl rfl d_Mo_pieceRow_53 ?_
    refine lv_iload_n hx hb d_Mo_pieceRow_56 rfl (lv_at hl 1 rfl) ?_
    refine lv_bipush (v := 19) hx hb d_Mo_pieceRow_57 (by decide) ?_
    refine e_iadd (v := nI (29 * j + 19)) hx hb d_Mo_pieceRow_59 (nI_add (29 * j) 19) ?_
    refine lv_iconst (v := (-1)) hx hb d_Mo_pieceRow_60 (by decide) ?_
    refine u_iastN hx hb hK hV hn 2 rfl (by omega) (by decide) d_Mo_pieceRow_61 (fun H locs hV hz9 => ?_)
    have hV : vS G.1 cls lo s H locs (vU V [(m, eO 8 [u0, .int (nI n), .ref mt, u3, u4, u5, u6, u7, u8, .ref np, u10, u11, u12, .int (nI a), .int (nI e), u15, u16, u17, u18, u19, u20]), (mt, eI (gI G) 400 g), (np, eI (gI G) 1769 (upd (upd F2 (29 * j + 0) 1) (29 * j + 19) ((-1))))]) := hV
    replace hz := hz9.trans hz
    refine lv_aload_n hx hb d_Mo_pieceRow_62 rfl (lv_at hl 0 rfl) ?_
    refine lv_bipush (v := 61) hx hb d_Mo_pieceRow_63 (by decide) ?_
    refine v_call (va_runV (As := [.int 61]) (rest := []) ⟨hx, hb, hml, hown, hts⟩ (c_Mo_takeB l G lo _ _ m u0 (.int (nI n)) (.ref mt) u3 u4 u5 u6 u7 u8 (.ref np) u10 u11 u12 (.int (nI a)) u15 u16 u17 u18 u19 u20 (by simp) e (by omega) 61) (kwV 1 hts w_co_Mo_take rfl rfl w_it_Mo w_ml_Mo_86 w_im_Mo_take w_se_Mo__Mo_take (by decide +kernel) ⟨(Nat.le_of_ble_eq_true rfl), (Nat.le_of_ble_eq_true rfl)⟩) (u_preV hK hV hn [0] rfl hz 0 rfl rfl) rfl rfl hl.1 rfl (lv_room (Nat.le_of_ble_eq_true rfl)) d_Mo_pieceRow_65 ⟨(Nat.le_of_ble_eq_true rfl), (Nat.le_of_ble_eq_true rfl)⟩) hV (fun r9 V9 H locs hp hV hle => ?_)
    obtain ⟨rfl, rfl, hz⟩ := hp
    replace hV := uu_same hV hn [0] rfl
    have hV : vS G.1 cls lo s H locs (vU V [(m, eO 8 [u0, .int (nI n), .ref mt, u3, u4, u5, u6, u7, u8, .ref np, u10, u11, u12, .int (nI a), .int (nI e), u15, u16, u17, u18, u19, u20]), (mt, eI (gI G) 400 g), (np, eI (gI G) 1769 (upd (upd F2 (29 * j + 0) 1) (29 * j + 19) ((-1))))]) := hV
    refine lv_aload_n hx hb d_Mo_pieceRow_68 rfl (lv_at hl 0 rfl) ?_
    refine u_get hx hb hts inMo hown hK hV hn 0 rfl rfl 9 (by decide) w_fl_Mo_29 rfl rfl d_Mo_pieceRow_69 ?_
    refine lv_iload_n hx hb d_Mo_pieceRow_72 rfl (lv_at hl 1 rfl) ?_
    refine lv_iconst (v := 1) hx hb d_Mo_pieceRow_73 (by decide) ?_
    refine e_iadd (v := nI (29 * j + 1)) hx hb d_Mo_pieceRow_74 (nI_add (29 * j) 1) ?_
    refine lv_aload_n hx hb d_Mo_pieceRow_75 rfl (lv_at hl 0 rfl) ?_
    refine lv_iconst (v := 1) hx hb d_Mo_pieceRow_76 (by decide) ?_
    refine lv_bipush (v := 40) hx hb d_Mo_pieceRow_77 (by decide) ?_
    refine v_call (va_runV (As := [.int 1, .int 40]) (rest := [.int (nI (29 * j + 1)), .ref np]) ⟨hx, hb, hml, hown, hts⟩ (c_Mo_numberB l G lo _ _ m u0 (.int (nI n)) (.ref mt) u3 u4 u5 u6 u7 u8 (.ref np) u10 u11 u12 (.int (nI a)) u15 u16 u17 u18 u19 u20 (by simp) e (by omega) 1 40) (kwV 2 hts w_co_Mo_number rfl rfl w_it_Mo w_ml_Mo_82 w_im_Mo_number w_se_Mo__Mo_number (by decide +kernel) ⟨(Nat.le_of_ble_eq_true rfl), (Nat.le_of_ble_eq_true rfl)⟩) (u_preV hK hV hn [0] rfl hz 0 rfl rfl) rfl rfl hl.1 rfl (lv_room (Nat.le_of_ble_eq_true rfl)) d_Mo_pieceRow_79 ⟨(Nat.le_of_ble_eq_true rfl), (Nat.le_of_ble_eq_true rfl)⟩) hV (fun r9 V9 H locs hp hV hle => ?_)
    obtain ⟨rfl, rfl, hz⟩ := hp
    replace hV := uu_same hV hn [0] rfl
    have hV : vS G.1 cls lo s H locs (vU V [(m, eO 8 [u0, .int (nI n), .ref mt, u3, u4, u5, u6, u7, u8, .ref np, u10, u11, u12, .int (nI a), .int (nI e), u15, u16, u17, u18, u19, u20]), (mt, eI (gI G) 400 g), (np, eI (gI G) 1769 (upd (upd F2 (29 * j + 0) 1) (29 * j + 19) ((-1))))]) := hV
    refine W.eq (g2 := F0 mi 82 ls [.int 1, .int (nI (29 * j + 1)), .ref np]) rfl ?_
    refine u_iastN hx hb hK hV hn 2 rfl (by omega) (by decide) d_Mo_pieceRow_82 (fun H locs hV hz9 => ?_)
    have hV : vS G.1 cls lo s H locs (vU V [(m, eO 8 [u0, .int (nI n), .ref mt, u3, u4, u5, u6, u7, u8, .ref np, u10, u11, u12, .int (nI a), .int (nI e), u15, u16, u17, u18, u19, u20]), (mt, eI (gI G) 400 g), (np, eI (gI G) 1769 (upd (upd (upd F2 (29 * j + 0) 1) (29 * j + 19) ((-1))) (29 * j + 1) 1))]) := hV
    replace hz := hz9.trans hz
    refine lv_aload_n hx hb d_Mo_pieceRow_83 rfl (lv_at hl 0 rfl) ?_
    refine u_get hx hb hts inMo hown hK hV hn 0 rfl rfl 14 (by decide) w_fl_Mo_68 rfl rfl d_Mo_pieceRow_84 ?_
    refine lv_if_ge (tgt := 116) hx hb d_Mo_pieceRow_87 (by decide) (fun c_11 => ?_) (fun c_11 => absurd (nI_ge0 (by omega)) c_11)
    replace c_11 : 0 ≤ e := (nI_leI (a := 0) (b := e) (by omega) (by omega)).mp c_11
    exact b116 j e a (upd (upd (upd F2 (29 * j + 0) 1) (29 * j + 19) ((-1))) (29 * j + 1) 1) (by omega) (by omega) (by omega) hX H locs ls hz hV (lv_sub hl [0, 1] rfl)
  have g390 : ∀ (j : Nat) (nd : Nat × Bool × Nat) (lk : Tri) (hs : List Tri) (f : Nat → Int32) (r : Nat) (h wt : Nat), (1 ≤ j) → (j ≤ 60) → (hs.length ≤ 3) → (r ≤ n) → (pR f (nd, lk, hs, (h, wt), none)) → (pieceR t n q = tl4 t n j nd lk hs h wt r) → ∀ (H : Heap) (locs : List Loc) (ls : Array Slot), H.size = sz → vS G.1 cls lo s H locs (vU V [(m, eO 8 [u0, .int (nI n), .ref mt, u3, u4, u5, u6, u7, u8, .ref np, u10, u11, u12, .int (nI r), .int ((-1)), u15, u16, u17, u18, u19, u20]), (mt, eI (gI G) 400 g), (np, eI (gI G) 1769 (rowU F j f))]) → lv_has ls 4 [(0, .ref m), (2, .int (nI (29 * j)))] → W pg l ev ({ frames := 4, cells := 0, slots := 0, locals := 120 } : Room) s mi args below meth cd H locs 0 0 (MQ below (vPost G lo (fun r V' k => r = none ∧ (∃ (a9 : Nat) (F2 : Nat → Int32), V' = vU V [(m, eO 8 [u0, .int (nI n), .ref mt, u3, u4, u5, u6, u7, u8, .ref np, u10, u11, u12, .int (nI a9), .int (wI (semi t n (pieceR t n q))), u15, u16, u17, u18, u19, u20]), (mt, eI (gI G) 400 g), (np, eI (gI G) 1769 F2)] ∧ ∀ z, semi t n (pieceR t n q) = .inr z → a9 = z.2 ∧ ∃ f, F2 = rowU F z.1.1 f ∧ pR f z.1.2) ∧ k = sz)) args s 0 0 (vL lo)) (F0 mi 390 ls []) := by
    intro j nd lk hs f r h wt  hj1 hj6 hl3 hrn hf hP H locs ls hz hV hl
    refine lv_aload_n hx hb d_Mo_pieceRow_390 rfl (lv_at hl 0 rfl) ?_
    refine lv_bipush (v := 34) hx hb d_Mo_pieceRow_391 (by decide) ?_
    refine v_call (va_runV (As := [.int 34]) (rest := []) ⟨hx, hb, hml, hown, hts⟩ (c_Mo_isNext l G lo _ _ m mt u0 u3 u4 u5 u6 u7 u8 (.ref np) u10 u11 u12 u15 u16 u17 u18 u19 u20 g t n r (nd_sub hn [0, 1] (by decide) rfl) hT h4 (by omega) 34 (by decide)) (kwV 1 hts w_co_Mo_isNext rfl rfl w_it_Mo w_ml_Mo_93 w_im_Mo_isNext w_se_Mo__Mo_isNext (by decide +kernel) ⟨(Nat.le_of_ble_eq_true rfl), (Nat.le_of_ble_eq_true rfl)⟩) (u_preV hK hV hn [0, 1] rfl hz 0 rfl rfl) rfl rfl hl.1 rfl (lv_room (Nat.le_of_ble_eq_true rfl)) d_Mo_pieceRow_393 ⟨(Nat.le_of_ble_eq_true rfl), (Nat.le_of_ble_eq_true rfl)⟩) hV (fun r9 V9 H locs hp hV hle => ?_)
    obtain ⟨rfl, rfl, hz⟩ := hp
    replace hV := u_back hV hn [0, 1] rfl
    rcases Decidable.em (sk t n r < n ∧ t (sk t n r) = 34) with d_13 | d_13
    · rw [if_pos d_13] at hV
      obtain ⟨q_12, hq_12⟩ : ∃ z, sk t n r = z := ⟨_, rfl⟩
      rw [hq_12] at hV
      have gq_12 : r ≤ q_12 := by rw [← hq_12]; exact sk_ge t n r
      have bq_12 : q_12 < n := by rw [← hq_12]; exact d_13.1
      have hV : vS G.1 cls lo s H locs (vU V [(m, eO 8 [u0, .int (nI n), .ref mt, u3, u4, u5, u6, u7, u8, .ref np, u10, u11, u12, .int (nI (q_12 + 1)), .int ((-1)), u15, u16, u17, u18, u19, u20]), (mt, eI (gI G) 400 g), (np, eI (gI G) 1769 (rowU F j f))]) := hV
      refine W.eq (g2 := F0 mi 396 ls [.int 1]) (by rw [decide_eq_true d_13]; rfl) ?_
      refine lv_if_eq (tgt := 404) hx hb d_Mo_pieceRow_396 (by decide) (fun c_14 => absurd c_14 (by decide)) (fun _ => ?_)
      refine lv_aload_n hx hb d_Mo_pieceRow_399 rfl (lv_at hl 0 rfl) ?_
      refine lv_iload_n hx hb d_Mo_pieceRow_400 rfl (lv_at hl 1 rfl) ?_
      refine v_call (va_runV (As := [.int (nI (29 * j))]) (rest := []) ⟨hx, hb, hml, hown, hts⟩ (c_Mo_nameRow l G lo _ _ m mt np u0 u3 u4 u5 u6 u7 u8 u10 u11 u12 u15 u16 u17 u18 u19 u20 g (rowU F j f) t n (q_12 + 1) (29 * j) hn hT h4 (by omega) (by omega)) (kwV 1 hts w_co_Mo_nameRow rfl rfl w_it_Mo w_ml_Mo_101 w_im_Mo_nameRow w_se_Mo__Mo_nameRow (by decide +kernel) ⟨(Nat.le_of_ble_eq_true rfl), (Nat.le_of_ble_eq_true rfl)⟩) (u_preV hK hV hn [0, 1, 2] rfl hz 0 rfl rfl) rfl rfl hl.1 rfl (lv_room (Nat.le_of_ble_eq_true rfl)) d_Mo_pieceRow_401 ⟨(Nat.le_of_ble_eq_true rfl), (Nat.le_of_ble_eq_true rfl)⟩) hV (fun r9 V9 H locs hp hV hle => ?_)
      obtain ⟨rfl, ⟨a_15, F_15, rfl, hpx_15⟩, hz⟩ := hp
      replace hV := u_back hV hn [0, 1, 2] rfl
      rcases x_15 : namX t n (letR t n 8 [] (q_12 + 1)) with e_15 | ⟨o_15, r_15⟩
      · rw [x_15] at hV
        have be_15 := nam_er hrn hq_12 d_13 x_15
        have hX : semi t n (pieceR t n q) = .inl e_15 := by rw [hP]; simp only [semi, tl4, nam_y hq_12 d_13, x_15, sbd_l]
        have hV : vS G.1 cls lo s H locs (vU V [(m, eO 8 [u0, .int (nI n), .ref mt, u3, u4, u5, u6, u7, u8, .ref np, u10, u11, u12, .int (nI a_15), .int (nI e_15), u15, u16, u17, u18, u19, u20]), (mt, eI (gI G) 400 g), (np, eI (gI G) 1769 F_15)]) := hV
        refine W.eq (g2 := F0 mi 404 ls []) rfl ?_
        refine lv_aload_n hx hb d_Mo_pieceRow_404 rfl (lv_at hl 0 rfl) ?_
        refine lv_bipush (v := 59) hx hb d_Mo_pieceRow_405 (by decide) ?_
        refine v_call (va_runV (As := [.int 59]) (rest := []) ⟨hx, hb, hml, hown, hts⟩ (c_Mo_takeB l G lo _ _ m u0 (.int (nI n)) (.ref mt) u3 u4 u5 u6 u7 u8 (.ref np) u10 u11 u12 (.int (nI a_15)) u15 u16 u17 u18 u19 u20 (by simp) e_15 (by omega) 59) (kwV 1 hts w_co_Mo_take rfl rfl w_it_Mo w_ml_Mo_86 w_im_Mo_take w_se_Mo__Mo_take (by decide +kernel) ⟨(Nat.le_of_ble_eq_true rfl), (Nat.le_of_ble_eq_true rfl)⟩) (u_preV hK hV hn [0] rfl hz 0 rfl rfl) rfl rfl hl.1 rfl (lv_room (Nat.le_of_ble_eq_true rfl)) d_Mo_pieceRow_407 ⟨(Nat.le_of_ble_eq_true rfl), (Nat.le_of_ble_eq_true rfl)⟩) hV (fun r9 V9 H locs hp hV hle => ?_)
        obtain ⟨rfl, rfl, hz⟩ := hp
        replace hV := uu_same hV hn [0] rfl
        have hV : vS G.1 cls lo s H locs (vU V [(m, eO 8 [u0, .int (nI n), .ref mt, u3, u4, u5, u6, u7, u8, .ref np, u10, u11, u12, .int (nI a_15), .int (nI e_15), u15, u16, u17, u18, u19, u20]), (mt, eI (gI G) 400 g), (np, eI (gI G) 1769 F_15)]) := hV
        exact W.vret hx hb hr (v_end hV ⟨rfl, ⟨_, _, by rw [hX]; rfl, fun z hz9 => by rw [hX] at hz9; cases hz9⟩, hz⟩) hV.2.1.2.2 d_Mo_pieceRow_410
      · obtain ⟨ar, eo⟩ := namX_some x_15
        have hwl := namX_len (t := t) (n := n) (p := q_12 + 1) (by omega)
        have br_15 : r_15 ≤ n := nam_in hrn hq_12 d_13 x_15
        rw [x_15] at hV
        rw [eo] at x_15
        obtain ⟨eax_15, eFx_15⟩ := hpx_15 _ _ _ x_15
        generalize (letR t n 8 [] (q_12 + 1)).1 = wd at *
        rw [eax_15, eFx_15] at hV
        rw [rowU_let hwl, rowU_up (k := 20) rfl (by decide), rowU_up (k := 19) rfl (by decide)] at hV
        have hE : pieceR t n q = .inr ((j, nd, lk, hs, (h, wt), some (wd, ar)), r_15) := by rw [hP]; simp only [tl4, nam_y hq_12 d_13, x_15, sbd_r]
        have hf := pR_nm hl3 wd ar hf
        have hV : vS G.1 cls lo s H locs (vU V [(m, eO 8 [u0, .int (nI n), .ref mt, u3, u4, u5, u6, u7, u8, .ref np, u10, u11, u12, .int (nI r_15), .int ((-1)), u15, u16, u17, u18, u19, u20]), (mt, eI (gI G) 400 g), (np, eI (gI G) 1769 (rowU F j (upd (upd (letW f 0 wd) 20 (nI wd.length)) 19 (nI ar))))]) := hV
        refine W.eq (g2 := F0 mi 404 ls []) rfl ?_
        refine lv_aload_n hx hb d_Mo_pieceRow_404 rfl (lv_at hl 0 rfl) ?_
        refine lv_bipush (v := 59) hx hb d_Mo_pieceRow_405 (by decide) ?_
        refine v_call (va_runV (As := [.int 59]) (rest := []) ⟨hx, hb, hml, hown, hts⟩ (c_Mo_take l G lo _ _ m mt u0 u3 u4 u5 u6 u7 u8 (.ref np) u10 u11 u12 u15 u16 u17 u18 u19 u20 g t n r_15 (nd_sub hn [0, 1] (by decide) rfl) hT h4 (by omega) 59 (by decide)) (kwV 1 hts w_co_Mo_take rfl rfl w_it_Mo w_ml_Mo_86 w_im_Mo_take w_se_Mo__Mo_take (by decide +kernel) ⟨(Nat.le_of_ble_eq_true rfl), (Nat.le_of_ble_eq_true rfl)⟩) (u_preV hK hV hn [0, 1] rfl hz 0 rfl rfl) rfl rfl hl.1 rfl (lv_room (Nat.le_of_ble_eq_true rfl)) d_Mo_pieceRow_407 ⟨(Nat.le_of_ble_eq_true rfl), (Nat.le_of_ble_eq_true rfl)⟩) hV (fun r9 V9 H locs hp hV hle => ?_)
        obtain ⟨rfl, rfl, hz⟩ := hp
        replace hV := u_back hV hn [0, 1] rfl
        have hV : vS G.1 cls lo s H locs (vU V [(m, eO 8 [u0, .int (nI n), .ref mt, u3, u4, u5, u6, u7, u8, .ref np, u10, u11, u12, .int (nI (rQ (tk t n 59 r_15))), .int (wI (tk t n 59 r_15)), u15, u16, u17, u18, u19, u20]), (mt, eI (gI G) 400 g), (np, eI (gI G) 1769 (rowU F j (upd (upd (letW f 0 wd) 20 (nI wd.length)) 19 (nI ar))))]) := hV
        obtain ⟨x_16, hx_16⟩ : ∃ z, tk t n 59 r_15 = z := ⟨_, rfl⟩
        rw [hx_16] at hV
        rcases x_16 with e_16 | q_16
        · have be_16 := tk_er2 hx_16
          have hV : vS G.1 cls lo s H locs (vU V [(m, eO 8 [u0, .int (nI n), .ref mt, u3, u4, u5, u6, u7, u8, .ref np, u10, u11, u12, .int (nI e_16), .int (nI e_16), u15, u16, u17, u18, u19, u20]), (mt, eI (gI G) 400 g), (np, eI (gI G) 1769 (rowU F j (upd (upd (letW f 0 wd) 20 (nI wd.length)) 19 (nI ar))))]) := hV
          refine W.eq (g2 := F0 mi 410 ls []) rfl ?_
          have hX : semi t n (pieceR t n q) = .inl e_16 := by simp only [semi, hE, hx_16, sbd_r, sbd_l]
          exact W.vret hx hb hr (v_end hV ⟨rfl, ⟨_, _, by rw [hX]; rfl, fun z hz9 => by rw [hX] at hz9; cases hz9⟩, hz⟩) hV.2.1.2.2 d_Mo_pieceRow_410
        · obtain ⟨gq_16, bq_16⟩ := tk_ok hx_16
          have hV : vS G.1 cls lo s H locs (vU V [(m, eO 8 [u0, .int (nI n), .ref mt, u3, u4, u5, u6, u7, u8, .ref np, u10, u11, u12, .int (nI q_16), .int ((-1)), u15, u16, u17, u18, u19, u20]), (mt, eI (gI G) 400 g), (np, eI (gI G) 1769 (rowU F j (upd (upd (letW f 0 wd) 20 (nI wd.length)) 19 (nI ar))))]) := hV
          refine W.eq (g2 := F0 mi 410 ls []) rfl ?_
          have hX : semi t n (pieceR t n q) = .inr ((j, (nd, lk, hs, (h, wt), some (wd, ar))), q_16) := by simp only [semi, hE, hx_16, sbd_r, sbd_l]
          exact W.vret hx hb hr (v_end hV ⟨rfl, ⟨_, _, by rw [hX]; rfl, fun z hz9 => by rw [hX] at hz9; cases hz9; exact ⟨rfl, _, rfl, hf⟩⟩, hz⟩) hV.2.1.2.2 d_Mo_pieceRow_410
    · rw [if_neg d_13] at hV
      obtain ⟨q_12, hq_12⟩ : ∃ z, sk t n r = z := ⟨_, rfl⟩
      rw [hq_12] at hV
      have gq_12 : r ≤ q_12 := by rw [← hq_12]; exact sk_ge t n r
      have bq_12 : q_12 ≤ n ∨ q_12 = r := by rw [← hq_12]; exact sk_le2 t n r
      have hE : pieceR t n q = .inr ((j, nd, lk, hs, (h, wt), none), q_12) := by rw [hP]; simp only [tl4, nam_n hq_12 d_13, sbd_r]
      have hV : vS G.1 cls lo s H locs (vU V [(m, eO 8 [u0, .int (nI n), .ref mt, u3, u4, u5, u6, u7, u8, .ref np, u10, u11, u12, .int (nI q_12), .int ((-1)), u15, u16, u17, u18, u19, u20]), (mt, eI (gI G) 400 g), (np, eI (gI G) 1769 (rowU F j f))]) := hV
      refine W.eq (g2 := F0 mi 396 ls [.int 0]) (by rw [decide_eq_false d_13]; rfl) ?_
      refine lv_if_eq (tgt := 404) hx hb d_Mo_pieceRow_396 (by decide) (fun _ => ?_) (fun c_17 => absurd c_17 (by decide))
      refine lv_aload_n hx hb d_Mo_pieceRow_404 rfl (lv_at hl 0 rfl) ?_
      refine lv_bipush (v := 59) hx hb d_Mo_pieceRow_405 (by decide) ?_
      refine v_call (va_runV (As := [.int 59]) (rest := []) ⟨hx, hb, hml, hown, hts⟩ (c_Mo_take l G lo _ _ m mt u0 u3 u4 u5 u6 u7 u8 (.ref np) u10 u11 u12 u15 u16 u17 u18 u19 u20 g t n q_12 (nd_sub hn [0, 1] (by decide) rfl) hT h4 (by omega) 59 (by decide)) (kwV 1 hts w_co_Mo_take rfl rfl w_it_Mo w_ml_Mo_86 w_im_Mo_take w_se_Mo__Mo_take (by decide +kernel) ⟨(Nat.le_of_ble_eq_true rfl), (Nat.le_of_ble_eq_true rfl)⟩) (u_preV hK hV hn [0, 1] rfl hz 0 rfl rfl) rfl rfl hl.1 rfl (lv_room (Nat.le_of_ble_eq_true rfl)) d_Mo_pieceRow_407 ⟨(Nat.le_of_ble_eq_true rfl), (Nat.le_of_ble_eq_true rfl)⟩) hV (fun r9 V9 H locs hp hV hle => ?_)
      obtain ⟨rfl, rfl, hz⟩ := hp
      replace hV := u_back hV hn [0, 1] rfl
      have hV : vS G.1 cls lo s H locs (vU V [(m, eO 8 [u0, .int (nI n), .ref mt, u3, u4, u5, u6, u7, u8, .ref np, u10, u11, u12, .int (nI (rQ (tk t n 59 q_12))), .int (wI (tk t n 59 q_12)), u15, u16, u17, u18, u19, u20]), (mt, eI (gI G) 400 g), (np, eI (gI G) 1769 (rowU F j f))]) := hV
      obtain ⟨x_18, hx_18⟩ : ∃ z, tk t n 59 q_12 = z := ⟨_, rfl⟩
      rw [hx_18] at hV
      rcases x_18 with e_18 | q_18
      · have be_18 := tk_er2 hx_18
        have hV : vS G.1 cls lo s H locs (vU V [(m, eO 8 [u0, .int (nI n), .ref mt, u3, u4, u5, u6, u7, u8, .ref np, u10, u11, u12, .int (nI e_18), .int (nI e_18), u15, u16, u17, u18, u19, u20]), (mt, eI (gI G) 400 g), (np, eI (gI G) 1769 (rowU F j f))]) := hV
        refine W.eq (g2 := F0 mi 410 ls []) rfl ?_
        have hX : semi t n (pieceR t n q) = .inl e_18 := by simp only [semi, hE, hx_18, sbd_r, sbd_l]
        exact W.vret hx hb hr (v_end hV ⟨rfl, ⟨_, _, by rw [hX]; rfl, fun z hz9 => by rw [hX] at hz9; cases hz9⟩, hz⟩) hV.2.1.2.2 d_Mo_pieceRow_410
      · obtain ⟨gq_18, bq_18⟩ := tk_ok hx_18
        have hV : vS G.1 cls lo s H locs (vU V [(m, eO 8 [u0, .int (nI n), .ref mt, u3, u4, u5, u6, u7, u8, .ref np, u10, u11, u12, .int (nI q_18), .int ((-1)), u15, u16, u17, u18, u19, u20]), (mt, eI (gI G) 400 g), (np, eI (gI G) 1769 (rowU F j f))]) := hV
        refine W.eq (g2 := F0 mi 410 ls []) rfl ?_
        have hX : semi t n (pieceR t n q) = .inr ((j, (nd, lk, hs, (h, wt), none)), q_18) := by simp only [semi, hE, hx_18, sbd_r, sbd_l]
        exact W.vret hx hb hr (v_end hV ⟨rfl, ⟨_, _, by rw [hX]; rfl, fun z hz9 => by rw [hX] at hz9; cases hz9; exact ⟨rfl, _, rfl, hf⟩⟩, hz⟩) hV.2.1.2.2 d_Mo_pieceRow_410
  have g365 : ∀ (j : Nat) (nd : Nat × Bool × Nat) (lk : Tri) (hs : List Tri) (f : Nat → Int32) (r : Nat) (h : Nat), (1 ≤ j) → (j ≤ 60) → (hs.length ≤ 3) → (r ≤ n) → (pR f (nd, lk, hs, (h, 0), none)) → (pieceR t n q = tl3 t n j nd lk hs h r) → ∀ (H : Heap) (locs : List Loc) (ls : Array Slot), H.size = sz → vS G.1 cls lo s H locs (vU V [(m, eO 8 [u0, .int (nI n), .ref mt, u3, u4, u5, u6, u7, u8, .ref np, u10, u11, u12, .int (nI r), .int ((-1)), u15, u16, u17, u18, u19, u20]), (mt, eI (gI G) 400 g), (np, eI (gI G) 1769 (rowU F j f))]) → lv_has ls 4 [(0, .ref m), (2, .int (nI (29 * j)))] → W pg l ev ({ frames := 4, cells := 0, slots := 0, locals := 120 } : Room) s mi args below meth cd H locs 0 0 (MQ below (vPost G lo (fun r V' k => r = none ∧ (∃ (a9 : Nat) (F2 : Nat → Int32), V' = vU V [(m, eO 8 [u0, .int (nI n), .ref mt, u3, u4, u5, u6, u7, u8, .ref np, u10, u11, u12, .int (nI a9), .int (wI (semi t n (pieceR t n q))), u15, u16, u17, u18, u19, u20]), (mt, eI (gI G) 400 g), (np, eI (gI G) 1769 F2)] ∧ ∀ z, semi t n (pieceR t n q) = .inr z → a9 = z.2 ∧ ∃ f, F2 = rowU F z.1.1 f ∧ pR f z.1.2) ∧ k = sz)) args s 0 0 (vL lo)) (F0 mi 365 ls []) := by
    intro j nd lk hs f r h  hj1 hj6 hl3 hrn hf hP H locs ls hz hV hl
    refine lv_aload_n hx hb d_Mo_pieceRow_365 rfl (lv_at hl 0 rfl) ?_
    refine lv_bipush (v := 33) hx hb d_Mo_pieceRow_366 (by decide) ?_
    refine v_call (va_runV (As := [.int 33]) (rest := []) ⟨hx, hb, hml, hown, hts⟩ (c_Mo_isNext l G lo _ _ m mt u0 u3 u4 u5 u6 u7 u8 (.ref np) u10 u11 u12 u15 u16 u17 u18 u19 u20 g t n r (nd_sub hn [0, 1] (by decide) rfl) hT h4 (by omega) 33 (by decide)) (kwV 1 hts w_co_Mo_isNext rfl rfl w_it_Mo w_ml_Mo_93 w_im_Mo_isNext w_se_Mo__Mo_isNext (by decide +kernel) ⟨(Nat.le_of_ble_eq_true rfl), (Nat.le_of_ble_eq_true rfl)⟩) (u_preV hK hV hn [0, 1] rfl hz 0 rfl rfl) rfl rfl hl.1 rfl (lv_room (Nat.le_of_ble_eq_true rfl)) d_Mo_pieceRow_368 ⟨(Nat.le_of_ble_eq_true rfl), (Nat.le_of_ble_eq_true rfl)⟩) hV (fun r9 V9 H locs hp hV hle => ?_)
    obtain ⟨rfl, rfl, hz⟩ := hp
    replace hV := u_back hV hn [0, 1] rfl
    rcases Decidable.em (sk t n r < n ∧ t (sk t n r) = 33) with d_20 | d_20
    · rw [if_pos d_20] at hV
      obtain ⟨q_19, hq_19⟩ : ∃ z, sk t n r = z := ⟨_, rfl⟩
      rw [hq_19] at hV
      have gq_19 : r ≤ q_19 := by rw [← hq_19]; exact sk_ge t n r
      have bq_19 : q_19 < n := by rw [← hq_19]; exact d_20.1
      have hV : vS G.1 cls lo s H locs (vU V [(m, eO 8 [u0, .int (nI n), .ref mt, u3, u4, u5, u6, u7, u8, .ref np, u10, u11, u12, .int (nI (q_19 + 1)), .int ((-1)), u15, u16, u17, u18, u19, u20]), (mt, eI (gI G) 400 g), (np, eI (gI G) 1769 (rowU F j f))]) := hV
      refine W.eq (g2 := F0 mi 371 ls [.int 1]) (by rw [decide_eq_true d_20]; rfl) ?_
      refine lv_if_eq (tgt := 390) hx hb d_Mo_pieceRow_371 (by decide) (fun c_21 => absurd c_21 (by decide)) (fun _ => ?_)
      refine lv_aload_n hx hb d_Mo_pieceRow_374 rfl (lv_at hl 0 rfl) ?_
      refine u_get hx hb hts inMo hown hK hV hn 0 rfl rfl 9 (by decide) w_fl_Mo_29 rfl rfl d_Mo_pieceRow_375 ?_
      refine lv_iload_n hx hb d_Mo_pieceRow_378 rfl (lv_at hl 1 rfl) ?_
      refine lv_bipush (v := 18) hx hb d_Mo_pieceRow_379 (by decide) ?_
      refine e_iadd (v := nI (29 * j + 18)) hx hb d_Mo_pieceRow_381 (nI_add (29 * j) 18) ?_
      refine lv_aload_n hx hb d_Mo_pieceRow_382 rfl (lv_at hl 0 rfl) ?_
      refine lv_iconst (v := 1) hx hb d_Mo_pieceRow_383 (by decide) ?_
      refine lv_bipush (v := 99) hx hb d_Mo_pieceRow_384 (by decide) ?_
      refine v_call (va_runV (As := [.int 1, .int 99]) (rest := [.int (nI (29 * j + 18)), .ref np]) ⟨hx, hb, hml, hown, hts⟩ (c_Mo_number l G lo _ _ m mt u0 u3 u4 u5 u6 u7 u8 (.ref np) u10 u11 u12 u15 u16 u17 u18 u19 u20 g t n (q_19 + 1) (nd_sub hn [0, 1] (by decide) rfl) hT h4 (by omega) 1 99 (by omega) (by omega)) (kwV 2 hts w_co_Mo_number rfl rfl w_it_Mo w_ml_Mo_82 w_im_Mo_number w_se_Mo__Mo_number (by decide +kernel) ⟨(Nat.le_of_ble_eq_true rfl), (Nat.le_of_ble_eq_true rfl)⟩) (u_preV hK hV hn [0, 1] rfl hz 0 rfl rfl) rfl rfl hl.1 rfl (lv_room (Nat.le_of_ble_eq_true rfl)) d_Mo_pieceRow_386 ⟨(Nat.le_of_ble_eq_true rfl), (Nat.le_of_ble_eq_true rfl)⟩) hV (fun r9 V9 H locs hp hV hle => ?_)
      obtain ⟨rfl, rfl, hz⟩ := hp
      replace hV := u_back hV hn [0, 1] rfl
      have hV : vS G.1 cls lo s H locs (vU V [(m, eO 8 [u0, .int (nI n), .ref mt, u3, u4, u5, u6, u7, u8, .ref np, u10, u11, u12, .int (nI ((dgs t n 4 0 0 (sk t n (q_19 + 1))).2.2)), .int (wI (num t n 1 99 (q_19 + 1))), u15, u16, u17, u18, u19, u20]), (mt, eI (gI G) 400 g), (np, eI (gI G) 1769 (rowU F j f))]) := hV
      obtain ⟨x_22, hx_22⟩ : ∃ z, num t n 1 99 (q_19 + 1) = z := ⟨_, rfl⟩
      rw [hx_22] at hV
      rcases x_22 with e_22 | ⟨v_22, q_22⟩
      · obtain ⟨ax_22, hax_22⟩ : ∃ z, (dgs t n 4 0 0 (sk t n (q_19 + 1))).2.2 = z := ⟨_, rfl⟩
        rw [hax_22] at hV
        have be_22 := num_er2 hx_22
        have bax_22 := dgs_le2 hax_22
        have hX : semi t n (pieceR t n q) = .inl e_22 := by rw [hP]; simp only [semi, tl3, lim_y hq_19 d_20, hx_22, sbd_l]
        have hV : vS G.1 cls lo s H locs (vU V [(m, eO 8 [u0, .int (nI n), .ref mt, u3, u4, u5, u6, u7, u8, .ref np, u10, u11, u12, .int (nI ax_22), .int (nI e_22), u15, u16, u17, u18, u19, u20]), (mt, eI (gI G) 400 g), (np, eI (gI G) 1769 (rowU F j f))]) := hV
        refine W.eq (g2 := F0 mi 389 ls [.int 1, .int (nI (29 * j + 18)), .ref np]) (by rw [hx_22]; rfl) ?_
        refine u_iastN hx hb hK hV hn 2 rfl (by omega) (by decide) d_Mo_pieceRow_389 (fun H locs hV hz9 => ?_)
        have hV : vS G.1 cls lo s H locs (vU V [(m, eO 8 [u0, .int (nI n), .ref mt, u3, u4, u5, u6, u7, u8, .ref np, u10, u11, u12, .int (nI ax_22), .int (nI e_22), u15, u16, u17, u18, u19, u20]), (mt, eI (gI G) 400 g), (np, eI (gI G) 1769 (upd (rowU F j f) (29 * j + 18) 1))]) := hV
        replace hz := hz9.trans hz
        refine lv_aload_n hx hb d_Mo_pieceRow_390 rfl (lv_at hl 0 rfl) ?_
        refine lv_bipush (v := 34) hx hb d_Mo_pieceRow_391 (by decide) ?_
        refine v_call (va_runV (As := [.int 34]) (rest := []) ⟨hx, hb, hml, hown, hts⟩ (c_Mo_isNextB l G lo _ _ m u0 (.int (nI n)) (.ref mt) u3 u4 u5 u6 u7 u8 (.ref np) u10 u11 u12 (.int (nI ax_22)) u15 u16 u17 u18 u19 u20 (by simp) e_22 (by omega) 34) (kwV 1 hts w_co_Mo_isNext rfl rfl w_it_Mo w_ml_Mo_93 w_im_Mo_isNext w_se_Mo__Mo_isNext (by decide +kernel) ⟨(Nat.le_of_ble_eq_true rfl), (Nat.le_of_ble_eq_true rfl)⟩) (u_preV hK hV hn [0] rfl hz 0 rfl rfl) rfl rfl hl.1 rfl (lv_room (Nat.le_of_ble_eq_true rfl)) d_Mo_pieceRow_393 ⟨(Nat.le_of_ble_eq_true rfl), (Nat.le_of_ble_eq_true rfl)⟩) hV (fun r9 V9 H locs hp hV hle => ?_)
        obtain ⟨rfl, rfl, hz⟩ := hp
        replace hV := uu_same hV hn [0] rfl
        have hV : vS G.1 cls lo s H locs (vU V [(m, eO 8 [u0, .int (nI n), .ref mt, u3, u4, u5, u6, u7, u8, .ref np, u10, u11, u12, .int (nI ax_22), .int (nI e_22), u15, u16, u17, u18, u19, u20]), (mt, eI (gI G) 400 g), (np, eI (gI G) 1769 (upd (rowU F j f) (29 * j + 18) 1))]) := hV
        refine W.eq (g2 := F0 mi 396 ls [.int 0]) rfl ?_
        refine lv_if_eq (tgt := 404) hx hb d_Mo_pieceRow_396 (by decide) (fun _ => ?_) (fun c_23 => absurd c_23 (by decide))
        refine lv_aload_n hx hb d_Mo_pieceRow_404 rfl (lv_at hl 0 rfl) ?_
        refine lv_bipush (v := 59) hx hb d_Mo_pieceRow_405 (by decide) ?_
        refine v_call (va_runV (As := [.int 59]) (rest := []) ⟨hx, hb, hml, hown, hts⟩ (c_Mo_takeB l G lo _ _ m u0 (.int (nI n)) (.ref mt) u3 u4 u5 u6 u7 u8 (.ref np) u10 u11 u12 (.int (nI ax_22)) u15 u16 u17 u18 u19 u20 (by simp) e_22 (by omega) 59) (kwV 1 hts w_co_Mo_take rfl rfl w_it_Mo w_ml_Mo_86 w_im_Mo_take w_se_Mo__Mo_take (by decide +kernel) ⟨(Nat.le_of_ble_eq_true rfl), (Nat.le_of_ble_eq_true rfl)⟩) (u_preV hK hV hn [0] rfl hz 0 rfl rfl) rfl rfl hl.1 rfl (lv_room (Nat.le_of_ble_eq_true rfl)) d_Mo_pieceRow_407 ⟨(Nat.le_of_ble_eq_true rfl), (Nat.le_of_ble_eq_true rfl)⟩) hV (fun r9 V9 H locs hp hV hle => ?_)
        obtain ⟨rfl, rfl, hz⟩ := hp
        replace hV := uu_same hV hn [0] rfl
        have hV : vS G.1 cls lo s H locs (vU V [(m, eO 8 [u0, .int (nI n), .ref mt, u3, u4, u5, u6, u7, u8, .ref np, u10, u11, u12, .int (nI ax_22), .int (nI e_22), u15, u16, u17, u18, u19, u20]), (mt, eI (gI G) 400 g), (np, eI (gI G) 1769 (upd (rowU F j f) (29 * j + 18) 1))]) := hV
        exact W.vret hx hb hr (v_end hV ⟨rfl, ⟨_, _, by rw [hX]; rfl, fun z hz9 => by rw [hX] at hz9; cases hz9⟩, hz⟩) hV.2.1.2.2 d_Mo_pieceRow_410
      · rw [num_at hx_22] at hV
        obtain ⟨lv_22, uv_22, gq_22, bq_22⟩ := num_ok2 hx_22
        have hV : vS G.1 cls lo s H locs (vU V [(m, eO 8 [u0, .int (nI n), .ref mt, u3, u4, u5, u6, u7, u8, .ref np, u10, u11, u12, .int (nI q_22), .int ((-1)), u15, u16, u17, u18, u19, u20]), (mt, eI (gI G) 400 g), (np, eI (gI G) 1769 (rowU F j f))]) := hV
        refine W.eq (g2 := F0 mi 389 ls [.int (nI v_22), .int (nI (29 * j + 18)), .ref np]) (by rw [hx_22]; rfl) ?_
        refine u_iastN hx hb hK hV hn 2 rfl (by omega) (by decide) d_Mo_pieceRow_389 (fun H locs hV hz9 => ?_)
        have hV : vS G.1 cls lo s H locs (vU V [(m, eO 8 [u0, .int (nI n), .ref mt, u3, u4, u5, u6, u7, u8, .ref np, u10, u11, u12, .int (nI q_22), .int ((-1)), u15, u16, u17, u18, u19, u20]), (mt, eI (gI G) 400 g), (np, eI (gI G) 1769 (upd (rowU F j f) (29 * j + 18) (nI v_22)))]) := hV
        replace hz := hz9.trans hz
        rw [rowU_up (k := 18) rfl (by decide)] at hV
        exact g390 j nd lk hs _ q_22 h v_22 hj1 hj6 hl3 (by omega) (pR_w hl3 v_22 hf) (by rw [hP]; simp only [tl3, lim_y hq_19 d_20, hx_22, sbd_r]) H locs ls hz hV (lv_sub hl [0, 1] rfl)
    · rw [if_neg d_20] at hV
      obtain ⟨q_19, hq_19⟩ : ∃ z, sk t n r = z := ⟨_, rfl⟩
      rw [hq_19] at hV
      have gq_19 : r ≤ q_19 := by rw [← hq_19]; exact sk_ge t n r
      have bq_19 : q_19 ≤ n ∨ q_19 = r := by rw [← hq_19]; exact sk_le2 t n r
      have hV : vS G.1 cls lo s H locs (vU V [(m, eO 8 [u0, .int (nI n), .ref mt, u3, u4, u5, u6, u7, u8, .ref np, u10, u11, u12, .int (nI q_19), .int ((-1)), u15, u16, u17, u18, u19, u20]), (mt, eI (gI G) 400 g), (np, eI (gI G) 1769 (rowU F j f))]) := hV
      refine W.eq (g2 := F0 mi 371 ls [.int 0]) (by rw [decide_eq_false d_20]; rfl) ?_
      refine lv_if_eq (tgt := 390) hx hb d_Mo_pieceRow_371 (by decide) (fun _ => ?_) (fun c_24 => absurd c_24 (by decide))
      exact g390 j nd lk hs _ q_19 h 0 hj1 hj6 hl3 (by omega) (hf) (by rw [hP]; simp only [tl3, lim_n hq_19 d_20, sbd_r]) H locs ls hz hV (lv_sub hl [0, 1] rfl)
  have g340 : ∀ (j : Nat) (nd : Nat × Bool × Nat) (lk : Tri) (hs : List Tri) (f : Nat → Int32) (r : Nat), (1 ≤ j) → (j ≤ 60) → (hs.length ≤ 3) → (r ≤ n) → (pR f (nd, lk, hs, (0, 0), none)) → (pieceR t n q = tl2 t n j nd lk hs r) → ∀ (H : Heap) (locs : List Loc) (ls : Array Slot), H.size = sz → vS G.1 cls lo s H locs (vU V [(m, eO 8 [u0, .int (nI n), .ref mt, u3, u4, u5, u6, u7, u8, .ref np, u10, u11, u12, .int (nI r), .int ((-1)), u15, u16, u17, u18, u19, u20]), (mt, eI (gI G) 400 g), (np, eI (gI G) 1769 (rowU F j f))]) → lv_has ls 4 [(0, .ref m), (2, .int (nI (29 * j)))] → W pg l ev ({ frames := 4, cells := 0, slots := 0, locals := 120 } : Room) s mi args below meth cd H locs 0 0 (MQ below (vPost G lo (fun r V' k => r = none ∧ (∃ (a9 : Nat) (F2 : Nat → Int32), V' = vU V [(m, eO 8 [u0, .int (nI n), .ref mt, u3, u4, u5, u6, u7, u8, .ref np, u10, u11, u12, .int (nI a9), .int (wI (semi t n (pieceR t n q))), u15, u16, u17, u18, u19, u20]), (mt, eI (gI G) 400 g), (np, eI (gI G) 1769 F2)] ∧ ∀ z, semi t n (pieceR t n q) = .inr z → a9 = z.2 ∧ ∃ f, F2 = rowU F z.1.1 f ∧ pR f z.1.2) ∧ k = sz)) args s 0 0 (vL lo)) (F0 mi 340 ls []) := by
    intro j nd lk hs f r  hj1 hj6 hl3 hrn hf hP H locs ls hz hV hl
    refine lv_aload_n hx hb d_Mo_pieceRow_340 rfl (lv_at hl 0 rfl) ?_
    refine lv_bipush (v := 94) hx hb d_Mo_pieceRow_341 (by decide) ?_
    refine v_call (va_runV (As := [.int 94]) (rest := []) ⟨hx, hb, hml, hown, hts⟩ (c_Mo_isNext l G lo _ _ m mt u0 u3 u4 u5 u6 u7 u8 (.ref np) u10 u11 u12 u15 u16 u17 u18 u19 u20 g t n r (nd_sub hn [0, 1] (by decide) rfl) hT h4 (by omega) 94 (by decide)) (kwV 1 hts w_co_Mo_isNext rfl rfl w_it_Mo w_ml_Mo_93 w_im_Mo_isNext w_se_Mo__Mo_isNext (by decide +kernel) ⟨(Nat.le_of_ble_eq_true rfl), (Nat.le_of_ble_eq_true rfl)⟩) (u_preV hK hV hn [0, 1] rfl hz 0 rfl rfl) rfl rfl hl.1 rfl (lv_room (Nat.le_of_ble_eq_true rfl)) d_Mo_pieceRow_343 ⟨(Nat.le_of_ble_eq_true rfl), (Nat.le_of_ble_eq_true rfl)⟩) hV (fun r9 V9 H locs hp hV hle => ?_)
    obtain ⟨rfl, rfl, hz⟩ := hp
    replace hV := u_back hV hn [0, 1] rfl
    rcases Decidable.em (sk t n r < n ∧ t (sk t n r) = 94) with d_26 | d_26
    · rw [if_pos d_26] at hV
      obtain ⟨q_25, hq_25⟩ : ∃ z, sk t n r = z := ⟨_, rfl⟩
      rw [hq_25] at hV
      have gq_25 : r ≤ q_25 := by rw [← hq_25]; exact sk_ge t n r
      have bq_25 : q_25 < n := by rw [← hq_25]; exact d_26.1
      have hV : vS G.1 cls lo s H locs (vU V [(m, eO 8 [u0, .int (nI n), .ref mt, u3, u4, u5, u6, u7, u8, .ref np, u10, u11, u12, .int (nI (q_25 + 1)), .int ((-1)), u15, u16, u17, u18, u19, u20]), (mt, eI (gI G) 400 g), (np, eI (gI G) 1769 (rowU F j f))]) := hV
      refine W.eq (g2 := F0 mi 346 ls [.int 1]) (by rw [decide_eq_true d_26]; rfl) ?_
      refine lv_if_eq (tgt := 365) hx hb d_Mo_pieceRow_346 (by decide) (fun c_27 => absurd c_27 (by decide)) (fun _ => ?_)
      refine lv_aload_n hx hb d_Mo_pieceRow_349 rfl (lv_at hl 0 rfl) ?_
      refine u_get hx hb hts inMo hown hK hV hn 0 rfl rfl 9 (by decide) w_fl_Mo_29 rfl rfl d_Mo_pieceRow_350 ?_
      refine lv_iload_n hx hb d_Mo_pieceRow_353 rfl (lv_at hl 1 rfl) ?_
      refine lv_bipush (v := 17) hx hb d_Mo_pieceRow_354 (by decide) ?_
      refine e_iadd (v := nI (29 * j + 17)) hx hb d_Mo_pieceRow_356 (nI_add (29 * j) 17) ?_
      refine lv_aload_n hx hb d_Mo_pieceRow_357 rfl (lv_at hl 0 rfl) ?_
      refine lv_iconst (v := 1) hx hb d_Mo_pieceRow_358 (by decide) ?_
      refine lv_bipush (v := 99) hx hb d_Mo_pieceRow_359 (by decide) ?_
      refine v_call (va_runV (As := [.int 1, .int 99]) (rest := [.int (nI (29 * j + 17)), .ref np]) ⟨hx, hb, hml, hown, hts⟩ (c_Mo_number l G lo _ _ m mt u0 u3 u4 u5 u6 u7 u8 (.ref np) u10 u11 u12 u15 u16 u17 u18 u19 u20 g t n (q_25 + 1) (nd_sub hn [0, 1] (by decide) rfl) hT h4 (by omega) 1 99 (by omega) (by omega)) (kwV 2 hts w_co_Mo_number rfl rfl w_it_Mo w_ml_Mo_82 w_im_Mo_number w_se_Mo__Mo_number (by decide +kernel) ⟨(Nat.le_of_ble_eq_true rfl), (Nat.le_of_ble_eq_true rfl)⟩) (u_preV hK hV hn [0, 1] rfl hz 0 rfl rfl) rfl rfl hl.1 rfl (lv_room (Nat.le_of_ble_eq_true rfl)) d_Mo_pieceRow_361 ⟨(Nat.le_of_ble_eq_true rfl), (Nat.le_of_ble_eq_true rfl)⟩) hV (fun r9 V9 H locs hp hV hle => ?_)
      obtain ⟨rfl, rfl, hz⟩ := hp
      replace hV := u_back hV hn [0, 1] rfl
      have hV : vS G.1 cls lo s H locs (vU V [(m, eO 8 [u0, .int (nI n), .ref mt, u3, u4, u5, u6, u7, u8, .ref np, u10, u11, u12, .int (nI ((dgs t n 4 0 0 (sk t n (q_25 + 1))).2.2)), .int (wI (num t n 1 99 (q_25 + 1))), u15, u16, u17, u18, u19, u20]), (mt, eI (gI G) 400 g), (np, eI (gI G) 1769 (rowU F j f))]) := hV
      obtain ⟨x_28, hx_28⟩ : ∃ z, num t n 1 99 (q_25 + 1) = z := ⟨_, rfl⟩
      rw [hx_28] at hV
      rcases x_28 with e_28 | ⟨v_28, q_28⟩
      · obtain ⟨ax_28, hax_28⟩ : ∃ z, (dgs t n 4 0 0 (sk t n (q_25 + 1))).2.2 = z := ⟨_, rfl⟩
        rw [hax_28] at hV
        have be_28 := num_er2 hx_28
        have bax_28 := dgs_le2 hax_28
        have hX : semi t n (pieceR t n q) = .inl e_28 := by rw [hP]; simp only [semi, tl2, lim_y hq_25 d_26, hx_28, sbd_l]
        have hV : vS G.1 cls lo s H locs (vU V [(m, eO 8 [u0, .int (nI n), .ref mt, u3, u4, u5, u6, u7, u8, .ref np, u10, u11, u12, .int (nI ax_28), .int (nI e_28), u15, u16, u17, u18, u19, u20]), (mt, eI (gI G) 400 g), (np, eI (gI G) 1769 (rowU F j f))]) := hV
        refine W.eq (g2 := F0 mi 364 ls [.int 1, .int (nI (29 * j + 17)), .ref np]) (by rw [hx_28]; rfl) ?_
        refine u_iastN hx hb hK hV hn 2 rfl (by omega) (by decide) d_Mo_pieceRow_364 (fun H locs hV hz9 => ?_)
        have hV : vS G.1 cls lo s H locs (vU V [(m, eO 8 [u0, .int (nI n), .ref mt, u3, u4, u5, u6, u7, u8, .ref np, u10, u11, u12, .int (nI ax_28), .int (nI e_28), u15, u16, u17, u18, u19, u20]), (mt, eI (gI G) 400 g), (np, eI (gI G) 1769 (upd (rowU F j f) (29 * j + 17) 1))]) := hV
        replace hz := hz9.trans hz
        exact b365 j e_28 ax_28 (upd (rowU F j f) (29 * j + 17) 1) (by omega) (by omega) hX H locs ls hz hV (lv_sub hl [0, 1] rfl)
      · rw [num_at hx_28] at hV
        obtain ⟨lv_28, uv_28, gq_28, bq_28⟩ := num_ok2 hx_28
        have hV : vS G.1 cls lo s H locs (vU V [(m, eO 8 [u0, .int (nI n), .ref mt, u3, u4, u5, u6, u7, u8, .ref np, u10, u11, u12, .int (nI q_28), .int ((-1)), u15, u16, u17, u18, u19, u20]), (mt, eI (gI G) 400 g), (np, eI (gI G) 1769 (rowU F j f))]) := hV
        refine W.eq (g2 := F0 mi 364 ls [.int (nI v_28), .int (nI (29 * j + 17)), .ref np]) (by rw [hx_28]; rfl) ?_
        refine u_iastN hx hb hK hV hn 2 rfl (by omega) (by decide) d_Mo_pieceRow_364 (fun H locs hV hz9 => ?_)
        have hV : vS G.1 cls lo s H locs (vU V [(m, eO 8 [u0, .int (nI n), .ref mt, u3, u4, u5, u6, u7, u8, .ref np, u10, u11, u12, .int (nI q_28), .int ((-1)), u15, u16, u17, u18, u19, u20]), (mt, eI (gI G) 400 g), (np, eI (gI G) 1769 (upd (rowU F j f) (29 * j + 17) (nI v_28)))]) := hV
        replace hz := hz9.trans hz
        rw [rowU_up (k := 17) rfl (by decide)] at hV
        exact g365 j nd lk hs _ q_28 v_28 hj1 hj6 hl3 (by omega) (pR_h hl3 v_28 hf) (by rw [hP]; simp only [tl2, lim_y hq_25 d_26, hx_28, sbd_r]) H locs ls hz hV (lv_sub hl [0, 1] rfl)
    · rw [if_neg d_26] at hV
      obtain ⟨q_25, hq_25⟩ : ∃ z, sk t n r = z := ⟨_, rfl⟩
      rw [hq_25] at hV
      have gq_25 : r ≤ q_25 := by rw [← hq_25]; exact sk_ge t n r
      have bq_25 : q_25 ≤ n ∨ q_25 = r := by rw [← hq_25]; exact sk_le2 t n r
      have hV : vS G.1 cls lo s H locs (vU V [(m, eO 8 [u0, .int (nI n), .ref mt, u3, u4, u5, u6, u7, u8, .ref np, u10, u11, u12, .int (nI q_25), .int ((-1)), u15, u16, u17, u18, u19, u20]), (mt, eI (gI G) 400 g), (np, eI (gI G) 1769 (rowU F j f))]) := hV
      refine W.eq (g2 := F0 mi 346 ls [.int 0]) (by rw [decide_eq_false d_26]; rfl) ?_
      refine lv_if_eq (tgt := 365) hx hb d_Mo_pieceRow_346 (by decide) (fun _ => ?_) (fun c_29 => absurd c_29 (by decide))
      exact g365 j nd lk hs _ q_25 0 hj1 hj6 hl3 (by omega) (hf) (by rw [hP]; simp only [tl2, lim_n hq_25 d_26, sbd_r]) H locs ls hz hV (lv_sub hl [0, 1] rfl)
  have g287 : ∀ (k : Nat) (j : Nat) (nd : Nat × Bool × Nat) (lk : Tri) (hs : List Tri) (f : Nat → Int32) (r : Nat), 3 - hs.length < k → (1 ≤ j) → (j ≤ 60) → (hs.length ≤ 3) → (r ≤ n) → (pR f (nd, lk, hs, (0, 0), none)) → (pieceR t n q = tl1 t n j nd lk hs r) → ∀ (H : Heap) (locs : List Loc) (ls : Array Slot), H.size = sz → vS G.1 cls lo s H locs (vU V [(m, eO 8 [u0, .int (nI n), .ref mt, u3, u4, u5, u6, u7, u8, .ref np, u10, u11, u12, .int (nI r), .int ((-1)), u15, u16, u17, u18, u19, u20]), (mt, eI (gI G) 400 g), (np, eI (gI G) 1769 (rowU F j f))]) → lv_has ls 4 [(0, .ref m), (2, .int (nI (29 * j)))] → W pg l ev ({ frames := 4, cells := 0, slots := 0, locals := 120 } : Room) s mi args below meth cd H locs 0 0 (MQ below (vPost G lo (fun r V' k => r = none ∧ (∃ (a9 : Nat) (F2 : Nat → Int32), V' = vU V [(m, eO 8 [u0, .int (nI n), .ref mt, u3, u4, u5, u6, u7, u8, .ref np, u10, u11, u12, .int (nI a9), .int (wI (semi t n (pieceR t n q))), u15, u16, u17, u18, u19, u20]), (mt, eI (gI G) 400 g), (np, eI (gI G) 1769 F2)] ∧ ∀ z, semi t n (pieceR t n q) = .inr z → a9 = z.2 ∧ ∃ f, F2 = rowU F z.1.1 f ∧ pR f z.1.2) ∧ k = sz)) args s 0 0 (vL lo)) (F0 mi 287 ls []) := by
    intro k
    induction k with
    | zero => intro j nd lk hs f r hk; exact absurd hk (by omega)
    | succ k ih =>
      intro j nd lk hs f r hk hj1 hj6 hl3 hrn hf hP H locs ls hz hV hl
      refine lv_aload_n hx hb d_Mo_pieceRow_287 rfl (lv_at hl 0 rfl) ?_
      refine u_get hx hb hts inMo hown hK hV hn 0 rfl rfl 14 (by decide) w_fl_Mo_68 rfl rfl d_Mo_pieceRow_288 ?_
      refine lv_if_ge (tgt := 340) hx hb d_Mo_pieceRow_291 (by decide) (fun c_30 => absurd c_30 (by decide)) (fun _ => ?_)
      refine lv_aload_n hx hb d_Mo_pieceRow_294 rfl (lv_at hl 0 rfl) ?_
      refine u_get hx hb hts inMo hown hK hV hn 0 rfl rfl 9 (by decide) w_fl_Mo_29 rfl rfl d_Mo_pieceRow_295 ?_
      refine lv_iload_n hx hb d_Mo_pieceRow_298 rfl (lv_at hl 1 rfl) ?_
      refine lv_bipush (v := 7) hx hb d_Mo_pieceRow_299 (by decide) ?_
      refine e_iadd (v := nI (29 * j + 7)) hx hb d_Mo_pieceRow_301 (nI_add (29 * j) 7) ?_
      refine u_ialdN hx hb hK hV hn 2 rfl (by omega) (by decide) d_Mo_pieceRow_302 ?_
      rw [rowU_at (k := 7) rfl (by decide), hf.2.2.2.2.2.2.2.1]
      refine lv_iconst (v := 3) hx hb d_Mo_pieceRow_303 (by decide) ?_
      refine lv_icmp_ge (tgt := 340) hx hb d_Mo_pieceRow_304 (by decide) (fun c_31 => ?_) (fun c_31 => ?_)
      · replace c_31 : 3 ≤ hs.length := (nI_leI (a := 3) (b := hs.length) (by omega) (by omega)).mp c_31
        exact g340 j nd lk hs _ r hj1 hj6 hl3 (by omega) (hf) (by rw [hP]; simp only [tl1, mhrs_end (show 3 - hs.length = 0 by omega), sbd_r]) H locs ls hz hV (lv_sub hl [0, 1] rfl)
      · replace c_31 : ¬ 3 ≤ hs.length := fun z9 => c_31 ((nI_leI (a := 3) (b := hs.length) (by omega) (by omega)).mpr z9)
        refine lv_aload_n hx hb d_Mo_pieceRow_307 rfl (lv_at hl 0 rfl) ?_
        refine lv_bipush (v := 91) hx hb d_Mo_pieceRow_308 (by decide) ?_
        refine v_call (va_runV (As := [.int 91]) (rest := []) ⟨hx, hb, hml, hown, hts⟩ (c_Mo_isNext l G lo _ _ m mt u0 u3 u4 u5 u6 u7 u8 (.ref np) u10 u11 u12 u15 u16 u17 u18 u19 u20 g t n r (nd_sub hn [0, 1] (by decide) rfl) hT h4 (by omega) 91 (by decide)) (kwV 1 hts w_co_Mo_isNext rfl rfl w_it_Mo w_ml_Mo_93 w_im_Mo_isNext w_se_Mo__Mo_isNext (by decide +kernel) ⟨(Nat.le_of_ble_eq_true rfl), (Nat.le_of_ble_eq_true rfl)⟩) (u_preV hK hV hn [0, 1] rfl hz 0 rfl rfl) rfl rfl hl.1 rfl (lv_room (Nat.le_of_ble_eq_true rfl)) d_Mo_pieceRow_310 ⟨(Nat.le_of_ble_eq_true rfl), (Nat.le_of_ble_eq_true rfl)⟩) hV (fun r9 V9 H locs hp hV hle => ?_)
        obtain ⟨rfl, rfl, hz⟩ := hp
        replace hV := u_back hV hn [0, 1] rfl
        rcases Decidable.em (sk t n r < n ∧ t (sk t n r) = 91) with d_33 | d_33
        · rw [if_pos d_33] at hV
          obtain ⟨q_32, hq_32⟩ : ∃ z, sk t n r = z := ⟨_, rfl⟩
          rw [hq_32] at hV
          have gq_32 : r ≤ q_32 := by rw [← hq_32]; exact sk_ge t n r
          have bq_32 : q_32 < n := by rw [← hq_32]; exact d_33.1
          have hV : vS G.1 cls lo s H locs (vU V [(m, eO 8 [u0, .int (nI n), .ref mt, u3, u4, u5, u6, u7, u8, .ref np, u10, u11, u12, .int (nI (q_32 + 1)), .int ((-1)), u15, u16, u17, u18, u19, u20]), (mt, eI (gI G) 400 g), (np, eI (gI G) 1769 (rowU F j f))]) := hV
          refine W.eq (g2 := F0 mi 313 ls [.int 1]) (by rw [decide_eq_true d_33]; rfl) ?_
          refine lv_if_eq (tgt := 340) hx hb d_Mo_pieceRow_313 (by decide) (fun c_34 => absurd c_34 (by decide)) (fun _ => ?_)
          refine lv_aload_n hx hb d_Mo_pieceRow_316 rfl (lv_at hl 0 rfl) ?_
          refine lv_iload_n hx hb d_Mo_pieceRow_317 rfl (lv_at hl 1 rfl) ?_
          refine lv_bipush (v := 8) hx hb d_Mo_pieceRow_318 (by decide) ?_
          refine e_iadd (v := nI (29 * j + 8)) hx hb d_Mo_pieceRow_320 (nI_add (29 * j) 8) ?_
          refine lv_iconst (v := 3) hx hb d_Mo_pieceRow_321 (by decide) ?_
          refine lv_aload_n hx hb d_Mo_pieceRow_322 rfl (lv_at hl 0 rfl) ?_
          refine u_get hx hb hts inMo hown hK hV hn 0 rfl rfl 9 (by decide) w_fl_Mo_29 rfl rfl d_Mo_pieceRow_323 ?_
          refine lv_iload_n hx hb d_Mo_pieceRow_326 rfl (lv_at hl 1 rfl) ?_
          refine lv_bipush (v := 7) hx hb d_Mo_pieceRow_327 (by decide) ?_
          refine e_iadd (v := nI (29 * j + 7)) hx hb d_Mo_pieceRow_329 (nI_add (29 * j) 7) ?_
          refine u_ialdN hx hb hK hV hn 2 rfl (by omega) (by decide) d_Mo_pieceRow_330 ?_
          rw [rowU_at (k := 7) rfl (by decide), hf.2.2.2.2.2.2.2.1]
          refine e_imul (v := nI (3 * hs.length)) hx hb d_Mo_pieceRow_331 (nI_mul 3 hs.length) ?_
          refine e_iadd (v := nI (29 * j + 8 + (3 * hs.length))) hx hb d_Mo_pieceRow_332 (nI_add (29 * j + 8) (3 * hs.length)) ?_
          refine lv_iload_n hx hb d_Mo_pieceRow_333 rfl (lv_at hl 1 rfl) ?_
          refine v_call (va_runV (As := [.int (nI (29 * j + 8 + (3 * hs.length))), .int (nI (29 * j))]) (rest := []) ⟨hx, hb, hml, hown, hts⟩ (c_Mo_hours l G lo _ _ m mt np u0 u3 u4 u5 u6 u7 u8 u10 u11 u12 u15 u16 u17 u18 u19 u20 g (rowU F j f) t n (q_32 + 1) (29 * j + 8 + (3 * hs.length)) (29 * j) hs.length hn hT h4 (by omega) (by omega) (by omega) (by rw [rowU_at (k := 7) rfl (by decide)]; exact hf.2.2.2.2.2.2.2.1) (by omega)) (kwV 2 hts w_co_Mo_hours rfl rfl w_it_Mo w_ml_Mo_97 w_im_Mo_hours w_se_Mo__Mo_hours (by decide +kernel) ⟨(Nat.le_of_ble_eq_true rfl), (Nat.le_of_ble_eq_true rfl)⟩) (u_preV hK hV hn [0, 1, 2] rfl hz 0 rfl rfl) rfl rfl hl.1 rfl (lv_room (Nat.le_of_ble_eq_true rfl)) d_Mo_pieceRow_334 ⟨(Nat.le_of_ble_eq_true rfl), (Nat.le_of_ble_eq_true rfl)⟩) hV (fun r9 V9 H locs hp hV hle => ?_)
          obtain ⟨rfl, ⟨a_35, F_35, rfl, hpx_35⟩, hz⟩ := hp
          replace hV := u_back hV hn [0, 1, 2] rfl
          rcases x_35 : hourR t n (q_32 + 1) with e_35 | z_35
          · have hhx_35 := x_35
            rw [x_35] at hV
            have be_35 := hour_er (by omega) x_35
            have hX : semi t n (pieceR t n q) = .inl e_35 := by rw [hP]; simp only [semi, tl1, mhrs_bad hq_32 (show 1 ≤ 3 - hs.length by omega) d_33 x_35, sbd_l]
            have hV : vS G.1 cls lo s H locs (vU V [(m, eO 8 [u0, .int (nI n), .ref mt, u3, u4, u5, u6, u7, u8, .ref np, u10, u11, u12, .int (nI a_35), .int (nI e_35), u15, u16, u17, u18, u19, u20]), (mt, eI (gI G) 400 g), (np, eI (gI G) 1769 F_35)]) := hV
            refine W.eq (g2 := F0 mi 337 ls []) rfl ?_
            refine lv_goto (tgt := 287) hx hb d_Mo_pieceRow_337 (by decide) ?_
            exact b287 j e_35 a_35 F_35 (by omega) (by omega) hX H locs ls hz hV (lv_sub hl [0, 1] rfl)
          · have bz_35 := hour_in (by omega) x_35
            rw [x_35] at hV
            obtain ⟨eax_35, eFx_35⟩ := hpx_35 _ x_35
            rw [eax_35, eFx_35] at hV
            rw [rowU_up (k := 8 + 3 * hs.length) (by omega) (by omega), rowU_up (k := 8 + 3 * hs.length + 1) (by omega) (by omega), rowU_up (k := 8 + 3 * hs.length + 2) (by omega) (by omega), rowU_up (k := 7) rfl (by decide)] at hV
            have hV : vS G.1 cls lo s H locs (vU V [(m, eO 8 [u0, .int (nI n), .ref mt, u3, u4, u5, u6, u7, u8, .ref np, u10, u11, u12, .int (nI z_35.2), .int ((-1)), u15, u16, u17, u18, u19, u20]), (mt, eI (gI G) 400 g), (np, eI (gI G) 1769 (rowU F j (upd (upd (upd (upd f (8 + 3 * hs.length) (nI z_35.1.1)) (8 + 3 * hs.length + 1) (nI z_35.1.2.1)) (8 + 3 * hs.length + 2) (nI z_35.1.2.2)) 7 (nI (hs.length + 1)))))]) := hV
            refine W.eq (g2 := F0 mi 337 ls []) rfl ?_
            refine lv_goto (tgt := 287) hx hb d_Mo_pieceRow_337 (by decide) ?_
            exact ih j nd lk (hs ++ [z_35.1]) _ z_35.2 (by rw [List.length_append, List.length_singleton]; omega) hj1 hj6 (by rw [List.length_append, List.length_singleton]; omega) (by omega) (pR_hour hf (by omega)) (by rw [hP]; simp only [tl1, mhrs_go hq_32 (show 1 ≤ 3 - hs.length by omega) d_33 x_35, List.length_append, List.length_singleton, Nat.sub_sub]) H locs ls hz hV (lv_sub hl [0, 1] rfl)
        · rw [if_neg d_33] at hV
          obtain ⟨q_32, hq_32⟩ : ∃ z, sk t n r = z := ⟨_, rfl⟩
          rw [hq_32] at hV
          have gq_32 : r ≤ q_32 := by rw [← hq_32]; exact sk_ge t n r
          have bq_32 : q_32 ≤ n ∨ q_32 = r := by rw [← hq_32]; exact sk_le2 t n r
          have hV : vS G.1 cls lo s H locs (vU V [(m, eO 8 [u0, .int (nI n), .ref mt, u3, u4, u5, u6, u7, u8, .ref np, u10, u11, u12, .int (nI q_32), .int ((-1)), u15, u16, u17, u18, u19, u20]), (mt, eI (gI G) 400 g), (np, eI (gI G) 1769 (rowU F j f))]) := hV
          refine W.eq (g2 := F0 mi 313 ls [.int 0]) (by rw [decide_eq_false d_33]; rfl) ?_
          refine lv_if_eq (tgt := 340) hx hb d_Mo_pieceRow_313 (by decide) (fun _ => ?_) (fun c_36 => absurd c_36 (by decide))
          exact g340 j nd lk hs _ q_32 hj1 hj6 hl3 (by omega) (hf) (by rw [hP]; simp only [tl1, mhrs_no hq_32 (show 1 ≤ 3 - hs.length by omega) d_33, sbd_r]) H locs ls hz hV (lv_sub hl [0, 1] rfl)
  have g138 : ∀ (j a1 : Nat) (bb : Bool) (f : Nat → Int32) (r : Nat), (1 ≤ j) → (j ≤ 60) → (a1 ≤ 40) → (r < n) → (f 1 = nI a1) → (f 0 = 1 ∧ f 7 = 0 ∧ f 17 = 0 ∧ f 18 = 0 ∧ f 19 = -1 ∧ f 20 = 0) → (pieceR t n q = tlN t n j a1 bb (r + 1)) → ∀ (H : Heap) (locs : List Loc) (ls : Array Slot), H.size = sz → vS G.1 cls lo s H locs (vU V [(m, eO 8 [u0, .int (nI n), .ref mt, u3, u4, u5, u6, u7, u8, .ref np, u10, u11, u12, .int (nI r), .int ((-1)), u15, u16, u17, u18, u19, u20]), (mt, eI (gI G) 400 g), (np, eI (gI G) 1769 (rowU F j (upd f 3 (b2i bb))))]) → lv_has ls 4 [(0, .ref m), (2, .int (nI (29 * j)))] → W pg l ev ({ frames := 4, cells := 0, slots := 0, locals := 120 } : Room) s mi args below meth cd H locs 0 0 (MQ below (vPost G lo (fun r V' k => r = none ∧ (∃ (a9 : Nat) (F2 : Nat → Int32), V' = vU V [(m, eO 8 [u0, .int (nI n), .ref mt, u3, u4, u5, u6, u7, u8, .ref np, u10, u11, u12, .int (nI a9), .int (wI (semi t n (pieceR t n q))), u15, u16, u17, u18, u19, u20]), (mt, eI (gI G) 400 g), (np, eI (gI G) 1769 F2)] ∧ ∀ z, semi t n (pieceR t n q) = .inr z → a9 = z.2 ∧ ∃ f, F2 = rowU F z.1.1 f ∧ pR f z.1.2) ∧ k = sz)) args s 0 0 (vL lo)) (F0 mi 138 ls []) := by
    intro j a1 bb f r  hj1 hj6 ha4 hrn hf1 hf0 hP H locs ls hz hV hl
    refine lv_aload_n hx hb d_Mo_pieceRow_138 rfl (lv_at hl 0 rfl) ?_
    refine lv_dup hx hb d_Mo_pieceRow_139 rfl ?_
    refine u_get hx hb hts inMo hown hK hV hn 0 rfl rfl 13 (by decide) w_fl_Mo_61 rfl rfl d_Mo_pieceRow_140 ?_
    refine lv_iconst (v := 1) hx hb d_Mo_pieceRow_143 (by decide) ?_
    refine e_iadd (v := nI (r + 1)) hx hb d_Mo_pieceRow_144 (nI_add r 1) ?_
    refine u_put hx hb hts inMo tyMo tyMo_ok nmMo hown hK hV hn 0 rfl rfl 13 (by decide) w_fl_Mo_61 rfl rfl rfl rfl (Nat.le_of_ble_eq_true rfl) d_Mo_pieceRow_145 (fun H locs hV hz9 => ?_)
    have hV : vS G.1 cls lo s H locs (vU V [(m, eO 8 [u0, .int (nI n), .ref mt, u3, u4, u5, u6, u7, u8, .ref np, u10, u11, u12, .int (nI (r + 1)), .int ((-1)), u15, u16, u17, u18, u19, u20]), (mt, eI (gI G) 400 g), (np, eI (gI G) 1769 (rowU F j (upd f 3 (b2i bb))))]) := hV
    replace hz := hz9.trans hz
    refine lv_aload_n hx hb d_Mo_pieceRow_148 rfl (lv_at hl 0 rfl) ?_
    refine u_get hx hb hts inMo hown hK hV hn 0 rfl rfl 9 (by decide) w_fl_Mo_29 rfl rfl d_Mo_pieceRow_149 ?_
    refine lv_iload_n hx hb d_Mo_pieceRow_152 rfl (lv_at hl 1 rfl) ?_
    refine lv_iconst (v := 2) hx hb d_Mo_pieceRow_153 (by decide) ?_
    refine e_iadd (v := nI (29 * j + 2)) hx hb d_Mo_pieceRow_154 (nI_add (29 * j) 2) ?_
    refine lv_aload_n hx hb d_Mo_pieceRow_155 rfl (lv_at hl 0 rfl) ?_
    refine lv_iconst (v := 1) hx hb d_Mo_pieceRow_156 (by decide) ?_
    refine lv_bipush (v := 40) hx hb d_Mo_pieceRow_157 (by decide) ?_
    refine v_call (va_runV (As := [.int 1, .int 40]) (rest := [.int (nI (29 * j + 2)), .ref np]) ⟨hx, hb, hml, hown, hts⟩ (c_Mo_number l G lo _ _ m mt u0 u3 u4 u5 u6 u7 u8 (.ref np) u10 u11 u12 u15 u16 u17 u18 u19 u20 g t n (r + 1) (nd_sub hn [0, 1] (by decide) rfl) hT h4 (by omega) 1 40 (by omega) (by omega)) (kwV 2 hts w_co_Mo_number rfl rfl w_it_Mo w_ml_Mo_82 w_im_Mo_number w_se_Mo__Mo_number (by decide +kernel) ⟨(Nat.le_of_ble_eq_true rfl), (Nat.le_of_ble_eq_true rfl)⟩) (u_preV hK hV hn [0, 1] rfl hz 0 rfl rfl) rfl rfl hl.1 rfl (lv_room (Nat.le_of_ble_eq_true rfl)) d_Mo_pieceRow_159 ⟨(Nat.le_of_ble_eq_true rfl), (Nat.le_of_ble_eq_true rfl)⟩) hV (fun r9 V9 H locs hp hV hle => ?_)
    obtain ⟨rfl, rfl, hz⟩ := hp
    replace hV := u_back hV hn [0, 1] rfl
    have hV : vS G.1 cls lo s H locs (vU V [(m, eO 8 [u0, .int (nI n), .ref mt, u3, u4, u5, u6, u7, u8, .ref np, u10, u11, u12, .int (nI ((dgs t n 4 0 0 (sk t n (r + 1))).2.2)), .int (wI (num t n 1 40 (r + 1))), u15, u16, u17, u18, u19, u20]), (mt, eI (gI G) 400 g), (np, eI (gI G) 1769 (rowU F j (upd f 3 (b2i bb))))]) := hV
    obtain ⟨x_37, hx_37⟩ : ∃ z, num t n 1 40 (r + 1) = z := ⟨_, rfl⟩
    rw [hx_37] at hV
    rcases x_37 with e_37 | ⟨v_37, q_37⟩
    · obtain ⟨ax_37, hax_37⟩ : ∃ z, (dgs t n 4 0 0 (sk t n (r + 1))).2.2 = z := ⟨_, rfl⟩
      rw [hax_37] at hV
      have be_37 := num_er2 hx_37
      have bax_37 := dgs_le2 hax_37
      have hX : semi t n (pieceR t n q) = .inl e_37 := by rw [hP]; simp only [semi, tlN, hx_37, sbd_l]
      have hV : vS G.1 cls lo s H locs (vU V [(m, eO 8 [u0, .int (nI n), .ref mt, u3, u4, u5, u6, u7, u8, .ref np, u10, u11, u12, .int (nI ax_37), .int (nI e_37), u15, u16, u17, u18, u19, u20]), (mt, eI (gI G) 400 g), (np, eI (gI G) 1769 (rowU F j (upd f 3 (b2i bb))))]) := hV
      refine W.eq (g2 := F0 mi 162 ls [.int 1, .int (nI (29 * j + 2)), .ref np]) (by rw [hx_37]; rfl) ?_
      refine u_iastN hx hb hK hV hn 2 rfl (by omega) (by decide) d_Mo_pieceRow_162 (fun H locs hV hz9 => ?_)
      have hV : vS G.1 cls lo s H locs (vU V [(m, eO 8 [u0, .int (nI n), .ref mt, u3, u4, u5, u6, u7, u8, .ref np, u10, u11, u12, .int (nI ax_37), .int (nI e_37), u15, u16, u17, u18, u19, u20]), (mt, eI (gI G) 400 g), (np, eI (gI G) 1769 (upd (rowU F j (upd f 3 (b2i bb))) (29 * j + 2) 1))]) := hV
      replace hz := hz9.trans hz
      refine lv_aload_n hx hb d_Mo_pieceRow_163 rfl (lv_at hl 0 rfl) ?_
      refine u_get hx hb hts inMo hown hK hV hn 0 rfl rfl 14 (by decide) w_fl_Mo_68 rfl rfl d_Mo_pieceRow_164 ?_
      refine lv_if_ge (tgt := 199) hx hb d_Mo_pieceRow_167 (by decide) (fun c_38 => ?_) (fun c_38 => absurd (nI_ge0 (by omega)) c_38)
      replace c_38 : 0 ≤ e_37 := (nI_leI (a := 0) (b := e_37) (by omega) (by omega)).mp c_38
      exact b199 j e_37 ax_37 (upd (rowU F j (upd f 3 (b2i bb))) (29 * j + 2) 1) (by omega) (by omega) (by omega) hX H locs ls hz hV (lv_sub hl [0, 1] rfl)
    · rw [num_at hx_37] at hV
      obtain ⟨lv_37, uv_37, gq_37, bq_37⟩ := num_ok2 hx_37
      have hV : vS G.1 cls lo s H locs (vU V [(m, eO 8 [u0, .int (nI n), .ref mt, u3, u4, u5, u6, u7, u8, .ref np, u10, u11, u12, .int (nI q_37), .int ((-1)), u15, u16, u17, u18, u19, u20]), (mt, eI (gI G) 400 g), (np, eI (gI G) 1769 (rowU F j (upd f 3 (b2i bb))))]) := hV
      refine W.eq (g2 := F0 mi 162 ls [.int (nI v_37), .int (nI (29 * j + 2)), .ref np]) (by rw [hx_37]; rfl) ?_
      refine u_iastN hx hb hK hV hn 2 rfl (by omega) (by decide) d_Mo_pieceRow_162 (fun H locs hV hz9 => ?_)
      have hV : vS G.1 cls lo s H locs (vU V [(m, eO 8 [u0, .int (nI n), .ref mt, u3, u4, u5, u6, u7, u8, .ref np, u10, u11, u12, .int (nI q_37), .int ((-1)), u15, u16, u17, u18, u19, u20]), (mt, eI (gI G) 400 g), (np, eI (gI G) 1769 (upd (rowU F j (upd f 3 (b2i bb))) (29 * j + 2) (nI v_37)))]) := hV
      replace hz := hz9.trans hz
      rw [rowU_up (k := 2) rfl (by decide)] at hV
      refine lv_aload_n hx hb d_Mo_pieceRow_163 rfl (lv_at hl 0 rfl) ?_
      refine u_get hx hb hts inMo hown hK hV hn 0 rfl rfl 14 (by decide) w_fl_Mo_68 rfl rfl d_Mo_pieceRow_164 ?_
      refine lv_if_ge (tgt := 199) hx hb d_Mo_pieceRow_167 (by decide) (fun c_39 => absurd c_39 (by decide)) (fun _ => ?_)
      refine lv_aload_n hx hb d_Mo_pieceRow_170 rfl (lv_at hl 0 rfl) ?_
      refine u_get hx hb hts inMo hown hK hV hn 0 rfl rfl 9 (by decide) w_fl_Mo_29 rfl rfl d_Mo_pieceRow_171 ?_
      refine lv_iload_n hx hb d_Mo_pieceRow_174 rfl (lv_at hl 1 rfl) ?_
      refine lv_iconst (v := 2) hx hb d_Mo_pieceRow_175 (by decide) ?_
      refine e_iadd (v := nI (29 * j + 2)) hx hb d_Mo_pieceRow_176 (nI_add (29 * j) 2) ?_
      refine u_ialdN hx hb hK hV hn 2 rfl (by omega) (by decide) d_Mo_pieceRow_177 ?_
      rw [rowU_at (k := 2) rfl (by decide), upd_same]
      refine lv_aload_n hx hb d_Mo_pieceRow_178 rfl (lv_at hl 0 rfl) ?_
      refine u_get hx hb hts inMo hown hK hV hn 0 rfl rfl 9 (by decide) w_fl_Mo_29 rfl rfl d_Mo_pieceRow_179 ?_
      refine lv_iload_n hx hb d_Mo_pieceRow_182 rfl (lv_at hl 1 rfl) ?_
      refine lv_iconst (v := 1) hx hb d_Mo_pieceRow_183 (by decide) ?_
      refine e_iadd (v := nI (29 * j + 1)) hx hb d_Mo_pieceRow_184 (nI_add (29 * j) 1) ?_
      refine u_ialdN hx hb hK hV hn 2 rfl (by omega) (by decide) d_Mo_pieceRow_185 ?_
      rw [rowU_at (k := 1) rfl (by decide), upd_ne _ _ (by decide), upd_ne _ _ (by decide), hf1]
      refine lv_icmp_ne (tgt := 199) hx hb d_Mo_pieceRow_186 (by decide) (fun c_40 => ?_) (fun c_40 => ?_)
      · replace c_40 : ¬ v_37 = a1 := fun z9 => c_40 ((nI_eq (a := v_37) (b := a1) (by omega) (by omega)).mpr z9)
        refine lv_aload_n hx hb d_Mo_pieceRow_199 rfl (lv_at hl 0 rfl) ?_
        refine lv_bipush (v := 58) hx hb d_Mo_pieceRow_200 (by decide) ?_
        refine v_call (va_runV (As := [.int 58]) (rest := []) ⟨hx, hb, hml, hown, hts⟩ (c_Mo_take l G lo _ _ m mt u0 u3 u4 u5 u6 u7 u8 (.ref np) u10 u11 u12 u15 u16 u17 u18 u19 u20 g t n q_37 (nd_sub hn [0, 1] (by decide) rfl) hT h4 (by omega) 58 (by decide)) (kwV 1 hts w_co_Mo_take rfl rfl w_it_Mo w_ml_Mo_86 w_im_Mo_take w_se_Mo__Mo_take (by decide +kernel) ⟨(Nat.le_of_ble_eq_true rfl), (Nat.le_of_ble_eq_true rfl)⟩) (u_preV hK hV hn [0, 1] rfl hz 0 rfl rfl) rfl rfl hl.1 rfl (lv_room (Nat.le_of_ble_eq_true rfl)) d_Mo_pieceRow_202 ⟨(Nat.le_of_ble_eq_true rfl), (Nat.le_of_ble_eq_true rfl)⟩) hV (fun r9 V9 H locs hp hV hle => ?_)
        obtain ⟨rfl, rfl, hz⟩ := hp
        replace hV := u_back hV hn [0, 1] rfl
        have hV : vS G.1 cls lo s H locs (vU V [(m, eO 8 [u0, .int (nI n), .ref mt, u3, u4, u5, u6, u7, u8, .ref np, u10, u11, u12, .int (nI (rQ (tk t n 58 q_37))), .int (wI (tk t n 58 q_37)), u15, u16, u17, u18, u19, u20]), (mt, eI (gI G) 400 g), (np, eI (gI G) 1769 (rowU F j (upd (upd f 3 (b2i bb)) 2 (nI v_37))))]) := hV
        obtain ⟨x_41, hx_41⟩ : ∃ z, tk t n 58 q_37 = z := ⟨_, rfl⟩
        rw [hx_41] at hV
        rcases x_41 with e_41 | q_41
        · have be_41 := tk_er2 hx_41
          have hX : semi t n (pieceR t n q) = .inl e_41 := by rw [hP]; simp only [semi, tlN, if_neg c_40, lksR, hx_37, hx_41, sbd_r, sbd_l]
          have hV : vS G.1 cls lo s H locs (vU V [(m, eO 8 [u0, .int (nI n), .ref mt, u3, u4, u5, u6, u7, u8, .ref np, u10, u11, u12, .int (nI e_41), .int (nI e_41), u15, u16, u17, u18, u19, u20]), (mt, eI (gI G) 400 g), (np, eI (gI G) 1769 (rowU F j (upd (upd f 3 (b2i bb)) 2 (nI v_37))))]) := hV
          refine W.eq (g2 := F0 mi 205 ls []) rfl ?_
          refine lv_aload_n hx hb d_Mo_pieceRow_205 rfl (lv_at hl 0 rfl) ?_
          refine u_get hx hb hts inMo hown hK hV hn 0 rfl rfl 9 (by decide) w_fl_Mo_29 rfl rfl d_Mo_pieceRow_206 ?_
          refine lv_iload_n hx hb d_Mo_pieceRow_209 rfl (lv_at hl 1 rfl) ?_
          refine lv_iconst (v := 4) hx hb d_Mo_pieceRow_210 (by decide) ?_
          refine e_iadd (v := nI (29 * j + 4)) hx hb d_Mo_pieceRow_211 (nI_add (29 * j) 4) ?_
          refine lv_aload_n hx hb d_Mo_pieceRow_212 rfl (lv_at hl 0 rfl) ?_
          refine lv_iconst (v := 1) hx hb d_Mo_pieceRow_213 (by decide) ?_
          refine lv_sipush (v := 9999) hx hb d_Mo_pieceRow_214 (by decide) ?_
          refine v_call (va_runV (As := [.int 1, .int 9999]) (rest := [.int (nI (29 * j + 4)), .ref np]) ⟨hx, hb, hml, hown, hts⟩ (c_Mo_numberB l G lo _ _ m u0 (.int (nI n)) (.ref mt) u3 u4 u5 u6 u7 u8 (.ref np) u10 u11 u12 (.int (nI e_41)) u15 u16 u17 u18 u19 u20 (by simp) e_41 (by omega) 1 9999) (kwV 2 hts w_co_Mo_number rfl rfl w_it_Mo w_ml_Mo_82 w_im_Mo_number w_se_Mo__Mo_number (by decide +kernel) ⟨(Nat.le_of_ble_eq_true rfl), (Nat.le_of_ble_eq_true rfl)⟩) (u_preV hK hV hn [0] rfl hz 0 rfl rfl) rfl rfl hl.1 rfl (lv_room (Nat.le_of_ble_eq_true rfl)) d_Mo_pieceRow_217 ⟨(Nat.le_of_ble_eq_true rfl), (Nat.le_of_ble_eq_true rfl)⟩) hV (fun r9 V9 H locs hp hV hle => ?_)
          obtain ⟨rfl, rfl, hz⟩ := hp
          replace hV := uu_same hV hn [0] rfl
          have hV : vS G.1 cls lo s H locs (vU V [(m, eO 8 [u0, .int (nI n), .ref mt, u3, u4, u5, u6, u7, u8, .ref np, u10, u11, u12, .int (nI e_41), .int (nI e_41), u15, u16, u17, u18, u19, u20]), (mt, eI (gI G) 400 g), (np, eI (gI G) 1769 (rowU F j (upd (upd f 3 (b2i bb)) 2 (nI v_37))))]) := hV
          refine W.eq (g2 := F0 mi 220 ls [.int 1, .int (nI (29 * j + 4)), .ref np]) rfl ?_
          refine u_iastN hx hb hK hV hn 2 rfl (by omega) (by decide) d_Mo_pieceRow_220 (fun H locs hV hz9 => ?_)
          have hV : vS G.1 cls lo s H locs (vU V [(m, eO 8 [u0, .int (nI n), .ref mt, u3, u4, u5, u6, u7, u8, .ref np, u10, u11, u12, .int (nI e_41), .int (nI e_41), u15, u16, u17, u18, u19, u20]), (mt, eI (gI G) 400 g), (np, eI (gI G) 1769 (upd (rowU F j (upd (upd f 3 (b2i bb)) 2 (nI v_37))) (29 * j + 4) 1))]) := hV
          replace hz := hz9.trans hz
          refine lv_aload_n hx hb d_Mo_pieceRow_221 rfl (lv_at hl 0 rfl) ?_
          refine u_get hx hb hts inMo hown hK hV hn 0 rfl rfl 14 (by decide) w_fl_Mo_68 rfl rfl d_Mo_pieceRow_222 ?_
          refine lv_if_ge (tgt := 238) hx hb d_Mo_pieceRow_225 (by decide) (fun c_42 => ?_) (fun c_42 => absurd (nI_ge0 (by omega)) c_42)
          replace c_42 : 0 ≤ e_41 := (nI_leI (a := 0) (b := e_41) (by omega) (by omega)).mp c_42
          refine lv_iconst (v := 0) hx hb d_Mo_pieceRow_238 (by decide) ?_
          refine lv_istore_n (lv' := [(3, .int 0), (0, .ref m), (2, .int (nI (29 * j)))]) hx hb d_Mo_pieceRow_239 rfl hl (by decide) rfl (fun ls hl => ?_)
          refine lv_iload_n hx hb d_Mo_pieceRow_240 rfl (lv_at hl 0 rfl) ?_
          refine lv_if_ge (tgt := 252) hx hb d_Mo_pieceRow_241 (by decide) (fun _ => ?_) (fun c_43 => absurd c_43 (by decide))
          refine lv_aload_n hx hb d_Mo_pieceRow_252 rfl (lv_at hl 1 rfl) ?_
          refine u_get hx hb hts inMo hown hK hV hn 0 rfl rfl 9 (by decide) w_fl_Mo_29 rfl rfl d_Mo_pieceRow_253 ?_
          refine lv_iload_n hx hb d_Mo_pieceRow_256 rfl (lv_at hl 2 rfl) ?_
          refine lv_iconst (v := 5) hx hb d_Mo_pieceRow_257 (by decide) ?_
          refine e_iadd (v := nI (29 * j + 5)) hx hb d_Mo_pieceRow_258 (nI_add (29 * j) 5) ?_
          refine lv_iload_n hx hb d_Mo_pieceRow_259 rfl (lv_at hl 0 rfl) ?_
          refine u_iastN hx hb hK hV hn 2 rfl (by omega) (by decide) d_Mo_pieceRow_260 (fun H locs hV hz9 => ?_)
          have hV : vS G.1 cls lo s H locs (vU V [(m, eO 8 [u0, .int (nI n), .ref mt, u3, u4, u5, u6, u7, u8, .ref np, u10, u11, u12, .int (nI e_41), .int (nI e_41), u15, u16, u17, u18, u19, u20]), (mt, eI (gI G) 400 g), (np, eI (gI G) 1769 (upd (upd (rowU F j (upd (upd f 3 (b2i bb)) 2 (nI v_37))) (29 * j + 4) 1) (29 * j + 5) 0))]) := hV
          replace hz := hz9.trans hz
          refine lv_aload_n hx hb d_Mo_pieceRow_261 rfl (lv_at hl 1 rfl) ?_
          refine lv_dup hx hb d_Mo_pieceRow_262 rfl ?_
          refine u_get hx hb hts inMo hown hK hV hn 0 rfl rfl 13 (by decide) w_fl_Mo_61 rfl rfl d_Mo_pieceRow_263 ?_
          refine lv_iconst (v := 1) hx hb d_Mo_pieceRow_266 (by decide) ?_
          refine e_iadd (v := nI (e_41 + 1)) hx hb d_Mo_pieceRow_267 (nI_add e_41 1) ?_
          refine u_put hx hb hts inMo tyMo tyMo_ok nmMo hown hK hV hn 0 rfl rfl 13 (by decide) w_fl_Mo_61 rfl rfl rfl rfl (Nat.le_of_ble_eq_true rfl) d_Mo_pieceRow_268 (fun H locs hV hz9 => ?_)
          have hV : vS G.1 cls lo s H locs (vU V [(m, eO 8 [u0, .int (nI n), .ref mt, u3, u4, u5, u6, u7, u8, .ref np, u10, u11, u12, .int (nI (e_41 + 1)), .int (nI e_41), u15, u16, u17, u18, u19, u20]), (mt, eI (gI G) 400 g), (np, eI (gI G) 1769 (upd (upd (rowU F j (upd (upd f 3 (b2i bb)) 2 (nI v_37))) (29 * j + 4) 1) (29 * j + 5) 0))]) := hV
          replace hz := hz9.trans hz
          refine lv_aload_n hx hb d_Mo_pieceRow_271 rfl (lv_at hl 1 rfl) ?_
          refine u_get hx hb hts inMo hown hK hV hn 0 rfl rfl 9 (by decide) w_fl_Mo_29 rfl rfl d_Mo_pieceRow_272 ?_
          refine lv_iload_n hx hb d_Mo_pieceRow_275 rfl (lv_at hl 2 rfl) ?_
          refine lv_bipush (v := 6) hx hb d_Mo_pieceRow_276 (by decide) ?_
          refine e_iadd (v := nI (29 * j + 6)) hx hb d_Mo_pieceRow_278 (nI_add (29 * j) 6) ?_
          refine lv_aload_n hx hb d_Mo_pieceRow_279 rfl (lv_at hl 1 rfl) ?_
          refine lv_iconst (v := 1) hx hb d_Mo_pieceRow_280 (by decide) ?_
          refine lv_bipush (v := 99) hx hb d_Mo_pieceRow_281 (by decide) ?_
          refine v_call (va_runV (As := [.int 1, .int 99]) (rest := [.int (nI (29 * j + 6)), .ref np]) ⟨hx, hb, hml, hown, hts⟩ (c_Mo_numberB l G lo _ _ m u0 (.int (nI n)) (.ref mt) u3 u4 u5 u6 u7 u8 (.ref np) u10 u11 u12 (.int (nI (e_41 + 1))) u15 u16 u17 u18 u19 u20 (by simp) e_41 (by omega) 1 99) (kwV 2 hts w_co_Mo_number rfl rfl w_it_Mo w_ml_Mo_82 w_im_Mo_number w_se_Mo__Mo_number (by decide +kernel) ⟨(Nat.le_of_ble_eq_true rfl), (Nat.le_of_ble_eq_true rfl)⟩) (u_preV hK hV hn [0] rfl hz 0 rfl rfl) rfl rfl hl.1 rfl (lv_room (Nat.le_of_ble_eq_true rfl)) d_Mo_pieceRow_283 ⟨(Nat.le_of_ble_eq_true rfl), (Nat.le_of_ble_eq_true rfl)⟩) hV (fun r9 V9 H locs hp hV hle => ?_)
          obtain ⟨rfl, rfl, hz⟩ := hp
          replace hV := uu_same hV hn [0] rfl
          have hV : vS G.1 cls lo s H locs (vU V [(m, eO 8 [u0, .int (nI n), .ref mt, u3, u4, u5, u6, u7, u8, .ref np, u10, u11, u12, .int (nI (e_41 + 1)), .int (nI e_41), u15, u16, u17, u18, u19, u20]), (mt, eI (gI G) 400 g), (np, eI (gI G) 1769 (upd (upd (rowU F j (upd (upd f 3 (b2i bb)) 2 (nI v_37))) (29 * j + 4) 1) (29 * j + 5) 0))]) := hV
          refine W.eq (g2 := F0 mi 286 ls [.int 1, .int (nI (29 * j + 6)), .ref np]) rfl ?_
          refine u_iastN hx hb hK hV hn 2 rfl (by omega) (by decide) d_Mo_pieceRow_286 (fun H locs hV hz9 => ?_)
          have hV : vS G.1 cls lo s H locs (vU V [(m, eO 8 [u0, .int (nI n), .ref mt, u3, u4, u5, u6, u7, u8, .ref np, u10, u11, u12, .int (nI (e_41 + 1)), .int (nI e_41), u15, u16, u17, u18, u19, u20]), (mt, eI (gI G) 400 g), (np, eI (gI G) 1769 (upd (upd (upd (rowU F j (upd (upd f 3 (b2i bb)) 2 (nI v_37))) (29 * j + 4) 1) (29 * j + 5) 0) (29 * j + 6) 1))]) := hV
          replace hz := hz9.trans hz
          exact b287 j e_41 (e_41 + 1) (upd (upd (upd (rowU F j (upd (upd f 3 (b2i bb)) 2 (nI v_37))) (29 * j + 4) 1) (29 * j + 5) 0) (29 * j + 6) 1) (by omega) (by omega) hX H locs ls hz hV (lv_sub hl [1, 2] rfl)
        · obtain ⟨gq_41, bq_41⟩ := tk_ok hx_41
          have hV : vS G.1 cls lo s H locs (vU V [(m, eO 8 [u0, .int (nI n), .ref mt, u3, u4, u5, u6, u7, u8, .ref np, u10, u11, u12, .int (nI q_41), .int ((-1)), u15, u16, u17, u18, u19, u20]), (mt, eI (gI G) 400 g), (np, eI (gI G) 1769 (rowU F j (upd (upd f 3 (b2i bb)) 2 (nI v_37))))]) := hV
          refine W.eq (g2 := F0 mi 205 ls []) rfl ?_
          refine lv_aload_n hx hb d_Mo_pieceRow_205 rfl (lv_at hl 0 rfl) ?_
          refine u_get hx hb hts inMo hown hK hV hn 0 rfl rfl 9 (by decide) w_fl_Mo_29 rfl rfl d_Mo_pieceRow_206 ?_
          refine lv_iload_n hx hb d_Mo_pieceRow_209 rfl (lv_at hl 1 rfl) ?_
          refine lv_iconst (v := 4) hx hb d_Mo_pieceRow_210 (by decide) ?_
          refine e_iadd (v := nI (29 * j + 4)) hx hb d_Mo_pieceRow_211 (nI_add (29 * j) 4) ?_
          refine lv_aload_n hx hb d_Mo_pieceRow_212 rfl (lv_at hl 0 rfl) ?_
          refine lv_iconst (v := 1) hx hb d_Mo_pieceRow_213 (by decide) ?_
          refine lv_sipush (v := 9999) hx hb d_Mo_pieceRow_214 (by decide) ?_
          refine v_call (va_runV (As := [.int 1, .int 9999]) (rest := [.int (nI (29 * j + 4)), .ref np]) ⟨hx, hb, hml, hown, hts⟩ (c_Mo_number l G lo _ _ m mt u0 u3 u4 u5 u6 u7 u8 (.ref np) u10 u11 u12 u15 u16 u17 u18 u19 u20 g t n q_41 (nd_sub hn [0, 1] (by decide) rfl) hT h4 (by omega) 1 9999 (by omega) (by omega)) (kwV 2 hts w_co_Mo_number rfl rfl w_it_Mo w_ml_Mo_82 w_im_Mo_number w_se_Mo__Mo_number (by decide +kernel) ⟨(Nat.le_of_ble_eq_true rfl), (Nat.le_of_ble_eq_true rfl)⟩) (u_preV hK hV hn [0, 1] rfl hz 0 rfl rfl) rfl rfl hl.1 rfl (lv_room (Nat.le_of_ble_eq_true rfl)) d_Mo_pieceRow_217 ⟨(Nat.le_of_ble_eq_true rfl), (Nat.le_of_ble_eq_true rfl)⟩) hV (fun r9 V9 H locs hp hV hle => ?_)
          obtain ⟨rfl, rfl, hz⟩ := hp
          replace hV := u_back hV hn [0, 1] rfl
          have hV : vS G.1 cls lo s H locs (vU V [(m, eO 8 [u0, .int (nI n), .ref mt, u3, u4, u5, u6, u7, u8, .ref np, u10, u11, u12, .int (nI ((dgs t n 4 0 0 (sk t n q_41)).2.2)), .int (wI (num t n 1 9999 q_41)), u15, u16, u17, u18, u19, u20]), (mt, eI (gI G) 400 g), (np, eI (gI G) 1769 (rowU F j (upd (upd f 3 (b2i bb)) 2 (nI v_37))))]) := hV
          obtain ⟨x_44, hx_44⟩ : ∃ z, num t n 1 9999 q_41 = z := ⟨_, rfl⟩
          rw [hx_44] at hV
          rcases x_44 with e_44 | ⟨v_44, q_44⟩
          · obtain ⟨ax_44, hax_44⟩ : ∃ z, (dgs t n 4 0 0 (sk t n q_41)).2.2 = z := ⟨_, rfl⟩
            rw [hax_44] at hV
            have be_44 := num_er2 hx_44
            have bax_44 := dgs_le2 hax_44
            have hX : semi t n (pieceR t n q) = .inl e_44 := by rw [hP]; simp only [semi, tlN, if_neg c_40, lksR, hx_37, hx_41, hx_44, sbd_r, sbd_l]
            have hV : vS G.1 cls lo s H locs (vU V [(m, eO 8 [u0, .int (nI n), .ref mt, u3, u4, u5, u6, u7, u8, .ref np, u10, u11, u12, .int (nI ax_44), .int (nI e_44), u15, u16, u17, u18, u19, u20]), (mt, eI (gI G) 400 g), (np, eI (gI G) 1769 (rowU F j (upd (upd f 3 (b2i bb)) 2 (nI v_37))))]) := hV
            refine W.eq (g2 := F0 mi 220 ls [.int 1, .int (nI (29 * j + 4)), .ref np]) (by rw [hx_44]; rfl) ?_
            refine u_iastN hx hb hK hV hn 2 rfl (by omega) (by decide) d_Mo_pieceRow_220 (fun H locs hV hz9 => ?_)
            have hV : vS G.1 cls lo s H locs (vU V [(m, eO 8 [u0, .int (nI n), .ref mt, u3, u4, u5, u6, u7, u8, .ref np, u10, u11, u12, .int (nI ax_44), .int (nI e_44), u15, u16, u17, u18, u19, u20]), (mt, eI (gI G) 400 g), (np, eI (gI G) 1769 (upd (rowU F j (upd (upd f 3 (b2i bb)) 2 (nI v_37))) (29 * j + 4) 1))]) := hV
            replace hz := hz9.trans hz
            refine lv_aload_n hx hb d_Mo_pieceRow_221 rfl (lv_at hl 0 rfl) ?_
            refine u_get hx hb hts inMo hown hK hV hn 0 rfl rfl 14 (by decide) w_fl_Mo_68 rfl rfl d_Mo_pieceRow_222 ?_
            refine lv_if_ge (tgt := 238) hx hb d_Mo_pieceRow_225 (by decide) (fun c_45 => ?_) (fun c_45 => absurd (nI_ge0 (by omega)) c_45)
            replace c_45 : 0 ≤ e_44 := (nI_leI (a := 0) (b := e_44) (by omega) (by omega)).mp c_45
            refine lv_iconst (v := 0) hx hb d_Mo_pieceRow_238 (by decide) ?_
            refine lv_istore_n (lv' := [(3, .int 0), (0, .ref m), (2, .int (nI (29 * j)))]) hx hb d_Mo_pieceRow_239 rfl hl (by decide) rfl (fun ls hl => ?_)
            refine lv_iload_n hx hb d_Mo_pieceRow_240 rfl (lv_at hl 0 rfl) ?_
            refine lv_if_ge (tgt := 252) hx hb d_Mo_pieceRow_241 (by decide) (fun _ => ?_) (fun c_46 => absurd c_46 (by decide))
            refine lv_aload_n hx hb d_Mo_pieceRow_252 rfl (lv_at hl 1 rfl) ?_
            refine u_get hx hb hts inMo hown hK hV hn 0 rfl rfl 9 (by decide) w_fl_Mo_29 rfl rfl d_Mo_pieceRow_253 ?_
            refine lv_iload_n hx hb d_Mo_pieceRow_256 rfl (lv_at hl 2 rfl) ?_
            refine lv_iconst (v := 5) hx hb d_Mo_pieceRow_257 (by decide) ?_
            refine e_iadd (v := nI (29 * j + 5)) hx hb d_Mo_pieceRow_258 (nI_add (29 * j) 5) ?_
            refine lv_iload_n hx hb d_Mo_pieceRow_259 rfl (lv_at hl 0 rfl) ?_
            refine u_iastN hx hb hK hV hn 2 rfl (by omega) (by decide) d_Mo_pieceRow_260 (fun H locs hV hz9 => ?_)
            have hV : vS G.1 cls lo s H locs (vU V [(m, eO 8 [u0, .int (nI n), .ref mt, u3, u4, u5, u6, u7, u8, .ref np, u10, u11, u12, .int (nI ax_44), .int (nI e_44), u15, u16, u17, u18, u19, u20]), (mt, eI (gI G) 400 g), (np, eI (gI G) 1769 (upd (upd (rowU F j (upd (upd f 3 (b2i bb)) 2 (nI v_37))) (29 * j + 4) 1) (29 * j + 5) 0))]) := hV
            replace hz := hz9.trans hz
            refine lv_aload_n hx hb d_Mo_pieceRow_261 rfl (lv_at hl 1 rfl) ?_
            refine lv_dup hx hb d_Mo_pieceRow_262 rfl ?_
            refine u_get hx hb hts inMo hown hK hV hn 0 rfl rfl 13 (by decide) w_fl_Mo_61 rfl rfl d_Mo_pieceRow_263 ?_
            refine lv_iconst (v := 1) hx hb d_Mo_pieceRow_266 (by decide) ?_
            refine e_iadd (v := nI (ax_44 + 1)) hx hb d_Mo_pieceRow_267 (nI_add ax_44 1) ?_
            refine u_put hx hb hts inMo tyMo tyMo_ok nmMo hown hK hV hn 0 rfl rfl 13 (by decide) w_fl_Mo_61 rfl rfl rfl rfl (Nat.le_of_ble_eq_true rfl) d_Mo_pieceRow_268 (fun H locs hV hz9 => ?_)
            have hV : vS G.1 cls lo s H locs (vU V [(m, eO 8 [u0, .int (nI n), .ref mt, u3, u4, u5, u6, u7, u8, .ref np, u10, u11, u12, .int (nI (ax_44 + 1)), .int (nI e_44), u15, u16, u17, u18, u19, u20]), (mt, eI (gI G) 400 g), (np, eI (gI G) 1769 (upd (upd (rowU F j (upd (upd f 3 (b2i bb)) 2 (nI v_37))) (29 * j + 4) 1) (29 * j + 5) 0))]) := hV
            replace hz := hz9.trans hz
            refine lv_aload_n hx hb d_Mo_pieceRow_271 rfl (lv_at hl 1 rfl) ?_
            refine u_get hx hb hts inMo hown hK hV hn 0 rfl rfl 9 (by decide) w_fl_Mo_29 rfl rfl d_Mo_pieceRow_272 ?_
            refine lv_iload_n hx hb d_Mo_pieceRow_275 rfl (lv_at hl 2 rfl) ?_
            refine lv_bipush (v := 6) hx hb d_Mo_pieceRow_276 (by decide) ?_
            refine e_iadd (v := nI (29 * j + 6)) hx hb d_Mo_pieceRow_278 (nI_add (29 * j) 6) ?_
            refine lv_aload_n hx hb d_Mo_pieceRow_279 rfl (lv_at hl 1 rfl) ?_
            refine lv_iconst (v := 1) hx hb d_Mo_pieceRow_280 (by decide) ?_
            refine lv_bipush (v := 99) hx hb d_Mo_pieceRow_281 (by decide) ?_
            refine v_call (va_runV (As := [.int 1, .int 99]) (rest := [.int (nI (29 * j + 6)), .ref np]) ⟨hx, hb, hml, hown, hts⟩ (c_Mo_numberB l G lo _ _ m u0 (.int (nI n)) (.ref mt) u3 u4 u5 u6 u7 u8 (.ref np) u10 u11 u12 (.int (nI (ax_44 + 1))) u15 u16 u17 u18 u19 u20 (by simp) e_44 (by omega) 1 99) (kwV 2 hts w_co_Mo_number rfl rfl w_it_Mo w_ml_Mo_82 w_im_Mo_number w_se_Mo__Mo_number (by decide +kernel) ⟨(Nat.le_of_ble_eq_true rfl), (Nat.le_of_ble_eq_true rfl)⟩) (u_preV hK hV hn [0] rfl hz 0 rfl rfl) rfl rfl hl.1 rfl (lv_room (Nat.le_of_ble_eq_true rfl)) d_Mo_pieceRow_283 ⟨(Nat.le_of_ble_eq_true rfl), (Nat.le_of_ble_eq_true rfl)⟩) hV (fun r9 V9 H locs hp hV hle => ?_)
            obtain ⟨rfl, rfl, hz⟩ := hp
            replace hV := uu_same hV hn [0] rfl
            have hV : vS G.1 cls lo s H locs (vU V [(m, eO 8 [u0, .int (nI n), .ref mt, u3, u4, u5, u6, u7, u8, .ref np, u10, u11, u12, .int (nI (ax_44 + 1)), .int (nI e_44), u15, u16, u17, u18, u19, u20]), (mt, eI (gI G) 400 g), (np, eI (gI G) 1769 (upd (upd (rowU F j (upd (upd f 3 (b2i bb)) 2 (nI v_37))) (29 * j + 4) 1) (29 * j + 5) 0))]) := hV
            refine W.eq (g2 := F0 mi 286 ls [.int 1, .int (nI (29 * j + 6)), .ref np]) rfl ?_
            refine u_iastN hx hb hK hV hn 2 rfl (by omega) (by decide) d_Mo_pieceRow_286 (fun H locs hV hz9 => ?_)
            have hV : vS G.1 cls lo s H locs (vU V [(m, eO 8 [u0, .int (nI n), .ref mt, u3, u4, u5, u6, u7, u8, .ref np, u10, u11, u12, .int (nI (ax_44 + 1)), .int (nI e_44), u15, u16, u17, u18, u19, u20]), (mt, eI (gI G) 400 g), (np, eI (gI G) 1769 (upd (upd (upd (rowU F j (upd (upd f 3 (b2i bb)) 2 (nI v_37))) (29 * j + 4) 1) (29 * j + 5) 0) (29 * j + 6) 1))]) := hV
            replace hz := hz9.trans hz
            exact b287 j e_44 (ax_44 + 1) (upd (upd (upd (rowU F j (upd (upd f 3 (b2i bb)) 2 (nI v_37))) (29 * j + 4) 1) (29 * j + 5) 0) (29 * j + 6) 1) (by omega) (by omega) hX H locs ls hz hV (lv_sub hl [1, 2] rfl)
          · rw [num_at hx_44] at hV
            obtain ⟨lv_44, uv_44, gq_44, bq_44⟩ := num_ok2 hx_44
            have hV : vS G.1 cls lo s H locs (vU V [(m, eO 8 [u0, .int (nI n), .ref mt, u3, u4, u5, u6, u7, u8, .ref np, u10, u11, u12, .int (nI q_44), .int ((-1)), u15, u16, u17, u18, u19, u20]), (mt, eI (gI G) 400 g), (np, eI (gI G) 1769 (rowU F j (upd (upd f 3 (b2i bb)) 2 (nI v_37))))]) := hV
            refine W.eq (g2 := F0 mi 220 ls [.int (nI v_44), .int (nI (29 * j + 4)), .ref np]) (by rw [hx_44]; rfl) ?_
            refine u_iastN hx hb hK hV hn 2 rfl (by omega) (by decide) d_Mo_pieceRow_220 (fun H locs hV hz9 => ?_)
            have hV : vS G.1 cls lo s H locs (vU V [(m, eO 8 [u0, .int (nI n), .ref mt, u3, u4, u5, u6, u7, u8, .ref np, u10, u11, u12, .int (nI q_44), .int ((-1)), u15, u16, u17, u18, u19, u20]), (mt, eI (gI G) 400 g), (np, eI (gI G) 1769 (upd (rowU F j (upd (upd f 3 (b2i bb)) 2 (nI v_37))) (29 * j + 4) (nI v_44)))]) := hV
            replace hz := hz9.trans hz
            rw [rowU_up (k := 4) rfl (by decide)] at hV
            refine lv_aload_n hx hb d_Mo_pieceRow_221 rfl (lv_at hl 0 rfl) ?_
            refine u_get hx hb hts inMo hown hK hV hn 0 rfl rfl 14 (by decide) w_fl_Mo_68 rfl rfl d_Mo_pieceRow_222 ?_
            refine lv_if_ge (tgt := 238) hx hb d_Mo_pieceRow_225 (by decide) (fun c_47 => absurd c_47 (by decide)) (fun _ => ?_)
            refine lv_aload_n hx hb d_Mo_pieceRow_228 rfl (lv_at hl 0 rfl) ?_
            refine v_call (va_runV (As := []) (rest := []) ⟨hx, hb, hml, hown, hts⟩ (c_Mo_see l G lo _ _ m mt u0 u3 u4 u5 u6 u7 u8 (.ref np) u10 u11 u12 (.int ((-1))) u15 u16 u17 u18 u19 u20 g t n q_44 (nd_sub hn [0, 1] (by decide) rfl) hT h4 (by omega)) (kwV 0 hts w_co_Mo_see rfl rfl w_it_Mo w_ml_Mo_71 w_im_Mo_see w_se_Mo__Mo_see (by decide +kernel) ⟨(Nat.le_of_ble_eq_true rfl), (Nat.le_of_ble_eq_true rfl)⟩) (u_preV hK hV hn [0, 1] rfl hz 0 rfl rfl) rfl rfl hl.1 rfl (lv_room (Nat.le_of_ble_eq_true rfl)) d_Mo_pieceRow_229 ⟨(Nat.le_of_ble_eq_true rfl), (Nat.le_of_ble_eq_true rfl)⟩) hV (fun r9 V9 H locs hp hV hle => ?_)
            obtain ⟨rfl, rfl, hz⟩ := hp
            replace hV := u_back hV hn [0, 1] rfl
            have hV : vS G.1 cls lo s H locs (vU V [(m, eO 8 [u0, .int (nI n), .ref mt, u3, u4, u5, u6, u7, u8, .ref np, u10, u11, u12, .int (nI (sk t n q_44)), .int ((-1)), u15, u16, u17, u18, u19, u20]), (mt, eI (gI G) 400 g), (np, eI (gI G) 1769 (rowU F j (upd (upd (upd f 3 (b2i bb)) 2 (nI v_37)) 4 (nI v_44))))]) := hV
            obtain ⟨q_48, hq_48⟩ : ∃ z, sk t n q_44 = z := ⟨_, rfl⟩
            rw [hq_48] at hV
            have gq_48 : q_44 ≤ q_48 := by rw [← hq_48]; exact sk_ge t n q_44
            have bq_48 : q_48 ≤ n ∨ q_48 = q_44 := by rw [← hq_48]; exact sk_le2 t n q_44
            rcases Nat.lt_or_ge q_48 n with l_49 | l_49
            · have kl_49 := (hT q_48 l_49).1
              have hV : vS G.1 cls lo s H locs (vU V [(m, eO 8 [u0, .int (nI n), .ref mt, u3, u4, u5, u6, u7, u8, .ref np, u10, u11, u12, .int (nI q_48), .int ((-1)), u15, u16, u17, u18, u19, u20]), (mt, eI (gI G) 400 g), (np, eI (gI G) 1769 (rowU F j (upd (upd (upd f 3 (b2i bb)) 2 (nI v_37)) 4 (nI v_44))))]) := hV
              refine W.eq (g2 := F0 mi 232 ls [.int (nI (t q_48))]) (by rw [hq_48, rK_in l_49]; rfl) ?_
              refine v_call (va_runS (As := [.int (nI (t q_48))]) (rest := []) ⟨hx, hb, hml, hown, hts⟩ (c_Mo_kindOf l G lo _ _ (nI (t q_48))) (kwS 1 hts w_co_Mo_kindOf rfl rfl w_it_Mo w_ml_Mo_89 w_st_Mo_kindOf (by decide +kernel) ⟨(Nat.le_of_ble_eq_true rfl), (Nat.le_of_ble_eq_true rfl)⟩) (u_preS hK hV hn [] rfl hz) rfl rfl hl.1 rfl (lv_room (Nat.le_of_ble_eq_true rfl)) d_Mo_pieceRow_232 ⟨(Nat.le_of_ble_eq_true rfl), (Nat.le_of_ble_eq_true rfl)⟩) hV (fun r9 V9 H locs hp hV hle => ?_)
              obtain ⟨hr9, rfl, hz⟩ := hp
              subst hr9
              have hki := kind_in (t := t) l_49
              replace hV := uu_same hV hn [] rfl
              rcases hk9 : kindC (t q_48) with _ | k9
              · have hkk := hki.trans hk9
                have hX : semi t n (pieceR t n q) = .inl q_48 := by rw [hP]; simp only [semi, tlN, if_neg c_40, lksR, hx_37, hx_41, hx_44, hkk, sbd_r, sbd_l, hq_48]
                have hV : vS G.1 cls lo s H locs (vU V [(m, eO 8 [u0, .int (nI n), .ref mt, u3, u4, u5, u6, u7, u8, .ref np, u10, u11, u12, .int (nI q_48), .int ((-1)), u15, u16, u17, u18, u19, u20]), (mt, eI (gI G) 400 g), (np, eI (gI G) 1769 (rowU F j (upd (upd (upd f 3 (b2i bb)) 2 (nI v_37)) 4 (nI v_44))))]) := hV
                refine W.eq (g2 := F0 mi 235 ls [.int ((-1))]) (by rw [kindI_n (by omega) hk9]; rfl) ?_
                refine lv_goto (tgt := 239) hx hb d_Mo_pieceRow_235 (by decide) ?_
                refine lv_istore_n (lv' := [(3, .int ((-1))), (0, .ref m), (2, .int (nI (29 * j)))]) hx hb d_Mo_pieceRow_239 rfl hl (by decide) rfl (fun ls hl => ?_)
                refine lv_iload_n hx hb d_Mo_pieceRow_240 rfl (lv_at hl 0 rfl) ?_
                refine lv_if_ge (tgt := 252) hx hb d_Mo_pieceRow_241 (by decide) (fun c_50 => absurd c_50 (by decide)) (fun _ => ?_)
                refine lv_aload_n hx hb d_Mo_pieceRow_244 rfl (lv_at hl 1 rfl) ?_
                refine lv_aload_n hx hb d_Mo_pieceRow_245 rfl (lv_at hl 1 rfl) ?_
                refine u_get hx hb hts inMo hown hK hV hn 0 rfl rfl 13 (by decide) w_fl_Mo_61 rfl rfl d_Mo_pieceRow_246 ?_
                refine v_call (va_runV (As := [.int (nI q_48)]) (rest := []) ⟨hx, hb, hml, hown, hts⟩ (c_Mo_fail l G lo _ _ m u0 (.int (nI n)) (.ref mt) u3 u4 u5 u6 u7 u8 (.ref np) u10 u11 u12 (.int (nI q_48)) u15 u16 u17 u18 u19 u20 (by simp) (nI q_48)) (kwV 1 hts w_co_Mo_fail rfl rfl w_it_Mo w_ml_Mo_74 w_im_Mo_fail w_se_Mo__Mo_fail (by decide +kernel) ⟨(Nat.le_of_ble_eq_true rfl), (Nat.le_of_ble_eq_true rfl)⟩) (u_preV hK hV hn [0] rfl hz 0 rfl rfl) rfl rfl hl.1 rfl (lv_room (Nat.le_of_ble_eq_true rfl)) d_Mo_pieceRow_249 ⟨(Nat.le_of_ble_eq_true rfl), (Nat.le_of_ble_eq_true rfl)⟩) hV (fun r9 V9 H locs hp hV hle => ?_)
                obtain ⟨rfl, rfl, hz⟩ := hp
                replace hV := u_back hV hn [0] rfl
                have hV : vS G.1 cls lo s H locs (vU V [(m, eO 8 [u0, .int (nI n), .ref mt, u3, u4, u5, u6, u7, u8, .ref np, u10, u11, u12, .int (nI q_48), .int (nI q_48), u15, u16, u17, u18, u19, u20]), (mt, eI (gI G) 400 g), (np, eI (gI G) 1769 (rowU F j (upd (upd (upd f 3 (b2i bb)) 2 (nI v_37)) 4 (nI v_44))))]) := hV
                refine lv_aload_n hx hb d_Mo_pieceRow_252 rfl (lv_at hl 1 rfl) ?_
                refine u_get hx hb hts inMo hown hK hV hn 0 rfl rfl 9 (by decide) w_fl_Mo_29 rfl rfl d_Mo_pieceRow_253 ?_
                refine lv_iload_n hx hb d_Mo_pieceRow_256 rfl (lv_at hl 2 rfl) ?_
                refine lv_iconst (v := 5) hx hb d_Mo_pieceRow_257 (by decide) ?_
                refine e_iadd (v := nI (29 * j + 5)) hx hb d_Mo_pieceRow_258 (nI_add (29 * j) 5) ?_
                refine lv_iload_n hx hb d_Mo_pieceRow_259 rfl (lv_at hl 0 rfl) ?_
                refine u_iastN hx hb hK hV hn 2 rfl (by omega) (by decide) d_Mo_pieceRow_260 (fun H locs hV hz9 => ?_)
                have hV : vS G.1 cls lo s H locs (vU V [(m, eO 8 [u0, .int (nI n), .ref mt, u3, u4, u5, u6, u7, u8, .ref np, u10, u11, u12, .int (nI q_48), .int (nI q_48), u15, u16, u17, u18, u19, u20]), (mt, eI (gI G) 400 g), (np, eI (gI G) 1769 (upd (rowU F j (upd (upd (upd f 3 (b2i bb)) 2 (nI v_37)) 4 (nI v_44))) (29 * j + 5) ((-1))))]) := hV
                replace hz := hz9.trans hz
                refine lv_aload_n hx hb d_Mo_pieceRow_261 rfl (lv_at hl 1 rfl) ?_
                refine lv_dup hx hb d_Mo_pieceRow_262 rfl ?_
                refine u_get hx hb hts inMo hown hK hV hn 0 rfl rfl 13 (by decide) w_fl_Mo_61 rfl rfl d_Mo_pieceRow_263 ?_
                refine lv_iconst (v := 1) hx hb d_Mo_pieceRow_266 (by decide) ?_
                refine e_iadd (v := nI (q_48 + 1)) hx hb d_Mo_pieceRow_267 (nI_add q_48 1) ?_
                refine u_put hx hb hts inMo tyMo tyMo_ok nmMo hown hK hV hn 0 rfl rfl 13 (by decide) w_fl_Mo_61 rfl rfl rfl rfl (Nat.le_of_ble_eq_true rfl) d_Mo_pieceRow_268 (fun H locs hV hz9 => ?_)
                have hV : vS G.1 cls lo s H locs (vU V [(m, eO 8 [u0, .int (nI n), .ref mt, u3, u4, u5, u6, u7, u8, .ref np, u10, u11, u12, .int (nI (q_48 + 1)), .int (nI q_48), u15, u16, u17, u18, u19, u20]), (mt, eI (gI G) 400 g), (np, eI (gI G) 1769 (upd (rowU F j (upd (upd (upd f 3 (b2i bb)) 2 (nI v_37)) 4 (nI v_44))) (29 * j + 5) ((-1))))]) := hV
                replace hz := hz9.trans hz
                refine lv_aload_n hx hb d_Mo_pieceRow_271 rfl (lv_at hl 1 rfl) ?_
                refine u_get hx hb hts inMo hown hK hV hn 0 rfl rfl 9 (by decide) w_fl_Mo_29 rfl rfl d_Mo_pieceRow_272 ?_
                refine lv_iload_n hx hb d_Mo_pieceRow_275 rfl (lv_at hl 2 rfl) ?_
                refine lv_bipush (v := 6) hx hb d_Mo_pieceRow_276 (by decide) ?_
                refine e_iadd (v := nI (29 * j + 6)) hx hb d_Mo_pieceRow_278 (nI_add (29 * j) 6) ?_
                refine lv_aload_n hx hb d_Mo_pieceRow_279 rfl (lv_at hl 1 rfl) ?_
                refine lv_iconst (v := 1) hx hb d_Mo_pieceRow_280 (by decide) ?_
                refine lv_bipush (v := 99) hx hb d_Mo_pieceRow_281 (by decide) ?_
                refine v_call (va_runV (As := [.int 1, .int 99]) (rest := [.int (nI (29 * j + 6)), .ref np]) ⟨hx, hb, hml, hown, hts⟩ (c_Mo_numberB l G lo _ _ m u0 (.int (nI n)) (.ref mt) u3 u4 u5 u6 u7 u8 (.ref np) u10 u11 u12 (.int (nI (q_48 + 1))) u15 u16 u17 u18 u19 u20 (by simp) q_48 (by omega) 1 99) (kwV 2 hts w_co_Mo_number rfl rfl w_it_Mo w_ml_Mo_82 w_im_Mo_number w_se_Mo__Mo_number (by decide +kernel) ⟨(Nat.le_of_ble_eq_true rfl), (Nat.le_of_ble_eq_true rfl)⟩) (u_preV hK hV hn [0] rfl hz 0 rfl rfl) rfl rfl hl.1 rfl (lv_room (Nat.le_of_ble_eq_true rfl)) d_Mo_pieceRow_283 ⟨(Nat.le_of_ble_eq_true rfl), (Nat.le_of_ble_eq_true rfl)⟩) hV (fun r9 V9 H locs hp hV hle => ?_)
                obtain ⟨rfl, rfl, hz⟩ := hp
                replace hV := uu_same hV hn [0] rfl
                have hV : vS G.1 cls lo s H locs (vU V [(m, eO 8 [u0, .int (nI n), .ref mt, u3, u4, u5, u6, u7, u8, .ref np, u10, u11, u12, .int (nI (q_48 + 1)), .int (nI q_48), u15, u16, u17, u18, u19, u20]), (mt, eI (gI G) 400 g), (np, eI (gI G) 1769 (upd (rowU F j (upd (upd (upd f 3 (b2i bb)) 2 (nI v_37)) 4 (nI v_44))) (29 * j + 5) ((-1))))]) := hV
                refine W.eq (g2 := F0 mi 286 ls [.int 1, .int (nI (29 * j + 6)), .ref np]) rfl ?_
                refine u_iastN hx hb hK hV hn 2 rfl (by omega) (by decide) d_Mo_pieceRow_286 (fun H locs hV hz9 => ?_)
                have hV : vS G.1 cls lo s H locs (vU V [(m, eO 8 [u0, .int (nI n), .ref mt, u3, u4, u5, u6, u7, u8, .ref np, u10, u11, u12, .int (nI (q_48 + 1)), .int (nI q_48), u15, u16, u17, u18, u19, u20]), (mt, eI (gI G) 400 g), (np, eI (gI G) 1769 (upd (upd (rowU F j (upd (upd (upd f 3 (b2i bb)) 2 (nI v_37)) 4 (nI v_44))) (29 * j + 5) ((-1))) (29 * j + 6) 1))]) := hV
                replace hz := hz9.trans hz
                exact b287 j q_48 (q_48 + 1) (upd (upd (rowU F j (upd (upd (upd f 3 (b2i bb)) 2 (nI v_37)) 4 (nI v_44))) (29 * j + 5) ((-1))) (29 * j + 6) 1) (by omega) (by omega) hX H locs ls hz hV (lv_sub hl [1, 2] rfl)
              · have hkk := hki.trans hk9
                have hk5 := kindC_lt5 hk9
                have hV : vS G.1 cls lo s H locs (vU V [(m, eO 8 [u0, .int (nI n), .ref mt, u3, u4, u5, u6, u7, u8, .ref np, u10, u11, u12, .int (nI q_48), .int ((-1)), u15, u16, u17, u18, u19, u20]), (mt, eI (gI G) 400 g), (np, eI (gI G) 1769 (rowU F j (upd (upd (upd f 3 (b2i bb)) 2 (nI v_37)) 4 (nI v_44))))]) := hV
                refine W.eq (g2 := F0 mi 235 ls [.int (nI k9)]) (by rw [kindI_s (by omega) hk9]; rfl) ?_
                refine lv_goto (tgt := 239) hx hb d_Mo_pieceRow_235 (by decide) ?_
                refine lv_istore_n (lv' := [(3, .int (nI k9)), (0, .ref m), (2, .int (nI (29 * j)))]) hx hb d_Mo_pieceRow_239 rfl hl (by decide) rfl (fun ls hl => ?_)
                refine lv_iload_n hx hb d_Mo_pieceRow_240 rfl (lv_at hl 0 rfl) ?_
                refine lv_if_ge (tgt := 252) hx hb d_Mo_pieceRow_241 (by decide) (fun c_51 => ?_) (fun c_51 => absurd (nI_ge0 (by omega)) c_51)
                replace c_51 : 0 ≤ k9 := (nI_leI (a := 0) (b := k9) (by omega) (by omega)).mp c_51
                refine lv_aload_n hx hb d_Mo_pieceRow_252 rfl (lv_at hl 1 rfl) ?_
                refine u_get hx hb hts inMo hown hK hV hn 0 rfl rfl 9 (by decide) w_fl_Mo_29 rfl rfl d_Mo_pieceRow_253 ?_
                refine lv_iload_n hx hb d_Mo_pieceRow_256 rfl (lv_at hl 2 rfl) ?_
                refine lv_iconst (v := 5) hx hb d_Mo_pieceRow_257 (by decide) ?_
                refine e_iadd (v := nI (29 * j + 5)) hx hb d_Mo_pieceRow_258 (nI_add (29 * j) 5) ?_
                refine lv_iload_n hx hb d_Mo_pieceRow_259 rfl (lv_at hl 0 rfl) ?_
                refine u_iastN hx hb hK hV hn 2 rfl (by omega) (by decide) d_Mo_pieceRow_260 (fun H locs hV hz9 => ?_)
                have hV : vS G.1 cls lo s H locs (vU V [(m, eO 8 [u0, .int (nI n), .ref mt, u3, u4, u5, u6, u7, u8, .ref np, u10, u11, u12, .int (nI q_48), .int ((-1)), u15, u16, u17, u18, u19, u20]), (mt, eI (gI G) 400 g), (np, eI (gI G) 1769 (upd (rowU F j (upd (upd (upd f 3 (b2i bb)) 2 (nI v_37)) 4 (nI v_44))) (29 * j + 5) (nI k9)))]) := hV
                replace hz := hz9.trans hz
                rw [rowU_up (k := 5) rfl (by decide)] at hV
                refine lv_aload_n hx hb d_Mo_pieceRow_261 rfl (lv_at hl 1 rfl) ?_
                refine lv_dup hx hb d_Mo_pieceRow_262 rfl ?_
                refine u_get hx hb hts inMo hown hK hV hn 0 rfl rfl 13 (by decide) w_fl_Mo_61 rfl rfl d_Mo_pieceRow_263 ?_
                refine lv_iconst (v := 1) hx hb d_Mo_pieceRow_266 (by decide) ?_
                refine e_iadd (v := nI (q_48 + 1)) hx hb d_Mo_pieceRow_267 (nI_add q_48 1) ?_
                refine u_put hx hb hts inMo tyMo tyMo_ok nmMo hown hK hV hn 0 rfl rfl 13 (by decide) w_fl_Mo_61 rfl rfl rfl rfl (Nat.le_of_ble_eq_true rfl) d_Mo_pieceRow_268 (fun H locs hV hz9 => ?_)
                have hV : vS G.1 cls lo s H locs (vU V [(m, eO 8 [u0, .int (nI n), .ref mt, u3, u4, u5, u6, u7, u8, .ref np, u10, u11, u12, .int (nI (q_48 + 1)), .int ((-1)), u15, u16, u17, u18, u19, u20]), (mt, eI (gI G) 400 g), (np, eI (gI G) 1769 (rowU F j (upd (upd (upd (upd f 3 (b2i bb)) 2 (nI v_37)) 4 (nI v_44)) 5 (nI k9))))]) := hV
                replace hz := hz9.trans hz
                refine lv_aload_n hx hb d_Mo_pieceRow_271 rfl (lv_at hl 1 rfl) ?_
                refine u_get hx hb hts inMo hown hK hV hn 0 rfl rfl 9 (by decide) w_fl_Mo_29 rfl rfl d_Mo_pieceRow_272 ?_
                refine lv_iload_n hx hb d_Mo_pieceRow_275 rfl (lv_at hl 2 rfl) ?_
                refine lv_bipush (v := 6) hx hb d_Mo_pieceRow_276 (by decide) ?_
                refine e_iadd (v := nI (29 * j + 6)) hx hb d_Mo_pieceRow_278 (nI_add (29 * j) 6) ?_
                refine lv_aload_n hx hb d_Mo_pieceRow_279 rfl (lv_at hl 1 rfl) ?_
                refine lv_iconst (v := 1) hx hb d_Mo_pieceRow_280 (by decide) ?_
                refine lv_bipush (v := 99) hx hb d_Mo_pieceRow_281 (by decide) ?_
                refine v_call (va_runV (As := [.int 1, .int 99]) (rest := [.int (nI (29 * j + 6)), .ref np]) ⟨hx, hb, hml, hown, hts⟩ (c_Mo_number l G lo _ _ m mt u0 u3 u4 u5 u6 u7 u8 (.ref np) u10 u11 u12 u15 u16 u17 u18 u19 u20 g t n (q_48 + 1) (nd_sub hn [0, 1] (by decide) rfl) hT h4 (by omega) 1 99 (by omega) (by omega)) (kwV 2 hts w_co_Mo_number rfl rfl w_it_Mo w_ml_Mo_82 w_im_Mo_number w_se_Mo__Mo_number (by decide +kernel) ⟨(Nat.le_of_ble_eq_true rfl), (Nat.le_of_ble_eq_true rfl)⟩) (u_preV hK hV hn [0, 1] rfl hz 0 rfl rfl) rfl rfl hl.1 rfl (lv_room (Nat.le_of_ble_eq_true rfl)) d_Mo_pieceRow_283 ⟨(Nat.le_of_ble_eq_true rfl), (Nat.le_of_ble_eq_true rfl)⟩) hV (fun r9 V9 H locs hp hV hle => ?_)
                obtain ⟨rfl, rfl, hz⟩ := hp
                replace hV := u_back hV hn [0, 1] rfl
                have hV : vS G.1 cls lo s H locs (vU V [(m, eO 8 [u0, .int (nI n), .ref mt, u3, u4, u5, u6, u7, u8, .ref np, u10, u11, u12, .int (nI ((dgs t n 4 0 0 (sk t n (q_48 + 1))).2.2)), .int (wI (num t n 1 99 (q_48 + 1))), u15, u16, u17, u18, u19, u20]), (mt, eI (gI G) 400 g), (np, eI (gI G) 1769 (rowU F j (upd (upd (upd (upd f 3 (b2i bb)) 2 (nI v_37)) 4 (nI v_44)) 5 (nI k9))))]) := hV
                obtain ⟨x_52, hx_52⟩ : ∃ z, num t n 1 99 (q_48 + 1) = z := ⟨_, rfl⟩
                rw [hx_52] at hV
                rcases x_52 with e_52 | ⟨v_52, q_52⟩
                · obtain ⟨ax_52, hax_52⟩ : ∃ z, (dgs t n 4 0 0 (sk t n (q_48 + 1))).2.2 = z := ⟨_, rfl⟩
                  rw [hax_52] at hV
                  have be_52 := num_er2 hx_52
                  have bax_52 := dgs_le2 hax_52
                  have hX : semi t n (pieceR t n q) = .inl e_52 := by rw [hP]; simp only [semi, tlN, if_neg c_40, lksR, hkk, hq_48, hx_37, hx_41, hx_44, hx_52, sbd_r, sbd_l]
                  have hV : vS G.1 cls lo s H locs (vU V [(m, eO 8 [u0, .int (nI n), .ref mt, u3, u4, u5, u6, u7, u8, .ref np, u10, u11, u12, .int (nI ax_52), .int (nI e_52), u15, u16, u17, u18, u19, u20]), (mt, eI (gI G) 400 g), (np, eI (gI G) 1769 (rowU F j (upd (upd (upd (upd f 3 (b2i bb)) 2 (nI v_37)) 4 (nI v_44)) 5 (nI k9))))]) := hV
                  refine W.eq (g2 := F0 mi 286 ls [.int 1, .int (nI (29 * j + 6)), .ref np]) (by rw [hx_52]; rfl) ?_
                  refine u_iastN hx hb hK hV hn 2 rfl (by omega) (by decide) d_Mo_pieceRow_286 (fun H locs hV hz9 => ?_)
                  have hV : vS G.1 cls lo s H locs (vU V [(m, eO 8 [u0, .int (nI n), .ref mt, u3, u4, u5, u6, u7, u8, .ref np, u10, u11, u12, .int (nI ax_52), .int (nI e_52), u15, u16, u17, u18, u19, u20]), (mt, eI (gI G) 400 g), (np, eI (gI G) 1769 (upd (rowU F j (upd (upd (upd (upd f 3 (b2i bb)) 2 (nI v_37)) 4 (nI v_44)) 5 (nI k9))) (29 * j + 6) 1))]) := hV
                  replace hz := hz9.trans hz
                  exact b287 j e_52 ax_52 (upd (rowU F j (upd (upd (upd (upd f 3 (b2i bb)) 2 (nI v_37)) 4 (nI v_44)) 5 (nI k9))) (29 * j + 6) 1) (by omega) (by omega) hX H locs ls hz hV (lv_sub hl [1, 2] rfl)
                · rw [num_at hx_52] at hV
                  obtain ⟨lv_52, uv_52, gq_52, bq_52⟩ := num_ok2 hx_52
                  have hV : vS G.1 cls lo s H locs (vU V [(m, eO 8 [u0, .int (nI n), .ref mt, u3, u4, u5, u6, u7, u8, .ref np, u10, u11, u12, .int (nI q_52), .int ((-1)), u15, u16, u17, u18, u19, u20]), (mt, eI (gI G) 400 g), (np, eI (gI G) 1769 (rowU F j (upd (upd (upd (upd f 3 (b2i bb)) 2 (nI v_37)) 4 (nI v_44)) 5 (nI k9))))]) := hV
                  refine W.eq (g2 := F0 mi 286 ls [.int (nI v_52), .int (nI (29 * j + 6)), .ref np]) (by rw [hx_52]; rfl) ?_
                  refine u_iastN hx hb hK hV hn 2 rfl (by omega) (by decide) d_Mo_pieceRow_286 (fun H locs hV hz9 => ?_)
                  have hV : vS G.1 cls lo s H locs (vU V [(m, eO 8 [u0, .int (nI n), .ref mt, u3, u4, u5, u6, u7, u8, .ref np, u10, u11, u12, .int (nI q_52), .int ((-1)), u15, u16, u17, u18, u19, u20]), (mt, eI (gI G) 400 g), (np, eI (gI G) 1769 (upd (rowU F j (upd (upd (upd (upd f 3 (b2i bb)) 2 (nI v_37)) 4 (nI v_44)) 5 (nI k9))) (29 * j + 6) (nI v_52)))]) := hV
                  replace hz := hz9.trans hz
                  rw [rowU_up (k := 6) rfl (by decide)] at hV
                  exact g287 4 j (a1, bb, v_37) (v_44, k9, v_52) [] _ q_52 (by decide) hj1 hj6 (by decide) (by omega) (pR_new (by simp only [upd]; simp; exact ⟨hf0.1, hf1, hf0.2⟩)) (by rw [hP]; simp only [tlN, if_neg c_40, lksR, hkk, hq_48, hx_37, hx_41, hx_44, hx_52, sbd_r]) H locs ls hz hV (lv_sub hl [1, 2] rfl)
            · have hV : vS G.1 cls lo s H locs (vU V [(m, eO 8 [u0, .int (nI n), .ref mt, u3, u4, u5, u6, u7, u8, .ref np, u10, u11, u12, .int (nI q_48), .int ((-1)), u15, u16, u17, u18, u19, u20]), (mt, eI (gI G) 400 g), (np, eI (gI G) 1769 (rowU F j (upd (upd (upd f 3 (b2i bb)) 2 (nI v_37)) 4 (nI v_44))))]) := hV
              refine W.eq (g2 := F0 mi 232 ls [.int ((-1))]) (by rw [hq_48, rK_out (by omega)]; rfl) ?_
              refine v_call (va_runS (As := [.int ((-1))]) (rest := []) ⟨hx, hb, hml, hown, hts⟩ (c_Mo_kindOf l G lo _ _ ((-1))) (kwS 1 hts w_co_Mo_kindOf rfl rfl w_it_Mo w_ml_Mo_89 w_st_Mo_kindOf (by decide +kernel) ⟨(Nat.le_of_ble_eq_true rfl), (Nat.le_of_ble_eq_true rfl)⟩) (u_preS hK hV hn [] rfl hz) rfl rfl hl.1 rfl (lv_room (Nat.le_of_ble_eq_true rfl)) d_Mo_pieceRow_232 ⟨(Nat.le_of_ble_eq_true rfl), (Nat.le_of_ble_eq_true rfl)⟩) hV (fun r9 V9 H locs hp hV hle => ?_)
              obtain ⟨hr9, rfl, hz⟩ := hp
              rw [show kindI (-1) = -1 from by decide] at hr9
              subst hr9
              have hkk := kind_no (t := t) (n := n) (q := q_48) (by omega)
              have hX : semi t n (pieceR t n q) = .inl q_48 := by rw [hP]; simp only [semi, tlN, if_neg c_40, lksR, hx_37, hx_41, hx_44, hkk, sbd_r, sbd_l, hq_48]
              replace hV := uu_same hV hn [] rfl
              have hV : vS G.1 cls lo s H locs (vU V [(m, eO 8 [u0, .int (nI n), .ref mt, u3, u4, u5, u6, u7, u8, .ref np, u10, u11, u12, .int (nI q_48), .int ((-1)), u15, u16, u17, u18, u19, u20]), (mt, eI (gI G) 400 g), (np, eI (gI G) 1769 (rowU F j (upd (upd (upd f 3 (b2i bb)) 2 (nI v_37)) 4 (nI v_44))))]) := hV
              refine W.eq (g2 := F0 mi 235 ls [.int ((-1))]) rfl ?_
              refine lv_goto (tgt := 239) hx hb d_Mo_pieceRow_235 (by decide) ?_
              refine lv_istore_n (lv' := [(3, .int ((-1))), (0, .ref m), (2, .int (nI (29 * j)))]) hx hb d_Mo_pieceRow_239 rfl hl (by decide) rfl (fun ls hl => ?_)
              refine lv_iload_n hx hb d_Mo_pieceRow_240 rfl (lv_at hl 0 rfl) ?_
              refine lv_if_ge (tgt := 252) hx hb d_Mo_pieceRow_241 (by decide) (fun c_53 => absurd c_53 (by decide)) (fun _ => ?_)
              refine lv_aload_n hx hb d_Mo_pieceRow_244 rfl (lv_at hl 1 rfl) ?_
              refine lv_aload_n hx hb d_Mo_pieceRow_245 rfl (lv_at hl 1 rfl) ?_
              refine u_get hx hb hts inMo hown hK hV hn 0 rfl rfl 13 (by decide) w_fl_Mo_61 rfl rfl d_Mo_pieceRow_246 ?_
              refine v_call (va_runV (As := [.int (nI q_48)]) (rest := []) ⟨hx, hb, hml, hown, hts⟩ (c_Mo_fail l G lo _ _ m u0 (.int (nI n)) (.ref mt) u3 u4 u5 u6 u7 u8 (.ref np) u10 u11 u12 (.int (nI q_48)) u15 u16 u17 u18 u19 u20 (by simp) (nI q_48)) (kwV 1 hts w_co_Mo_fail rfl rfl w_it_Mo w_ml_Mo_74 w_im_Mo_fail w_se_Mo__Mo_fail (by decide +kernel) ⟨(Nat.le_of_ble_eq_true rfl), (Nat.le_of_ble_eq_true rfl)⟩) (u_preV hK hV hn [0] rfl hz 0 rfl rfl) rfl rfl hl.1 rfl (lv_room (Nat.le_of_ble_eq_true rfl)) d_Mo_pieceRow_249 ⟨(Nat.le_of_ble_eq_true rfl), (Nat.le_of_ble_eq_true rfl)⟩) hV (fun r9 V9 H locs hp hV hle => ?_)
              obtain ⟨rfl, rfl, hz⟩ := hp
              replace hV := u_back hV hn [0] rfl
              have hV : vS G.1 cls lo s H locs (vU V [(m, eO 8 [u0, .int (nI n), .ref mt, u3, u4, u5, u6, u7, u8, .ref np, u10, u11, u12, .int (nI q_48), .int (nI q_48), u15, u16, u17, u18, u19, u20]), (mt, eI (gI G) 400 g), (np, eI (gI G) 1769 (rowU F j (upd (upd (upd f 3 (b2i bb)) 2 (nI v_37)) 4 (nI v_44))))]) := hV
              refine lv_aload_n hx hb d_Mo_pieceRow_252 rfl (lv_at hl 1 rfl) ?_
              refine u_get hx hb hts inMo hown hK hV hn 0 rfl rfl 9 (by decide) w_fl_Mo_29 rfl rfl d_Mo_pieceRow_253 ?_
              refine lv_iload_n hx hb d_Mo_pieceRow_256 rfl (lv_at hl 2 rfl) ?_
              refine lv_iconst (v := 5) hx hb d_Mo_pieceRow_257 (by decide) ?_
              refine e_iadd (v := nI (29 * j + 5)) hx hb d_Mo_pieceRow_258 (nI_add (29 * j) 5) ?_
              refine lv_iload_n hx hb d_Mo_pieceRow_259 rfl (lv_at hl 0 rfl) ?_
              refine u_iastN hx hb hK hV hn 2 rfl (by omega) (by decide) d_Mo_pieceRow_260 (fun H locs hV hz9 => ?_)
              have hV : vS G.1 cls lo s H locs (vU V [(m, eO 8 [u0, .int (nI n), .ref mt, u3, u4, u5, u6, u7, u8, .ref np, u10, u11, u12, .int (nI q_48), .int (nI q_48), u15, u16, u17, u18, u19, u20]), (mt, eI (gI G) 400 g), (np, eI (gI G) 1769 (upd (rowU F j (upd (upd (upd f 3 (b2i bb)) 2 (nI v_37)) 4 (nI v_44))) (29 * j + 5) ((-1))))]) := hV
              replace hz := hz9.trans hz
              refine lv_aload_n hx hb d_Mo_pieceRow_261 rfl (lv_at hl 1 rfl) ?_
              refine lv_dup hx hb d_Mo_pieceRow_262 rfl ?_
              refine u_get hx hb hts inMo hown hK hV hn 0 rfl rfl 13 (by decide) w_fl_Mo_61 rfl rfl d_Mo_pieceRow_263 ?_
              refine lv_iconst (v := 1) hx hb d_Mo_pieceRow_266 (by decide) ?_
              refine e_iadd (v := nI (q_48 + 1)) hx hb d_Mo_pieceRow_267 (nI_add q_48 1) ?_
              refine u_put hx hb hts inMo tyMo tyMo_ok nmMo hown hK hV hn 0 rfl rfl 13 (by decide) w_fl_Mo_61 rfl rfl rfl rfl (Nat.le_of_ble_eq_true rfl) d_Mo_pieceRow_268 (fun H locs hV hz9 => ?_)
              have hV : vS G.1 cls lo s H locs (vU V [(m, eO 8 [u0, .int (nI n), .ref mt, u3, u4, u5, u6, u7, u8, .ref np, u10, u11, u12, .int (nI (q_48 + 1)), .int (nI q_48), u15, u16, u17, u18, u19, u20]), (mt, eI (gI G) 400 g), (np, eI (gI G) 1769 (upd (rowU F j (upd (upd (upd f 3 (b2i bb)) 2 (nI v_37)) 4 (nI v_44))) (29 * j + 5) ((-1))))]) := hV
              replace hz := hz9.trans hz
              refine lv_aload_n hx hb d_Mo_pieceRow_271 rfl (lv_at hl 1 rfl) ?_
              refine u_get hx hb hts inMo hown hK hV hn 0 rfl rfl 9 (by decide) w_fl_Mo_29 rfl rfl d_Mo_pieceRow_272 ?_
              refine lv_iload_n hx hb d_Mo_pieceRow_275 rfl (lv_at hl 2 rfl) ?_
              refine lv_bipush (v := 6) hx hb d_Mo_pieceRow_276 (by decide) ?_
              refine e_iadd (v := nI (29 * j + 6)) hx hb d_Mo_pieceRow_278 (nI_add (29 * j) 6) ?_
              refine lv_aload_n hx hb d_Mo_pieceRow_279 rfl (lv_at hl 1 rfl) ?_
              refine lv_iconst (v := 1) hx hb d_Mo_pieceRow_280 (by decide) ?_
              refine lv_bipush (v := 99) hx hb d_Mo_pieceRow_281 (by decide) ?_
              refine v_call (va_runV (As := [.int 1, .int 99]) (rest := [.int (nI (29 * j + 6)), .ref np]) ⟨hx, hb, hml, hown, hts⟩ (c_Mo_numberB l G lo _ _ m u0 (.int (nI n)) (.ref mt) u3 u4 u5 u6 u7 u8 (.ref np) u10 u11 u12 (.int (nI (q_48 + 1))) u15 u16 u17 u18 u19 u20 (by simp) q_48 (by omega) 1 99) (kwV 2 hts w_co_Mo_number rfl rfl w_it_Mo w_ml_Mo_82 w_im_Mo_number w_se_Mo__Mo_number (by decide +kernel) ⟨(Nat.le_of_ble_eq_true rfl), (Nat.le_of_ble_eq_true rfl)⟩) (u_preV hK hV hn [0] rfl hz 0 rfl rfl) rfl rfl hl.1 rfl (lv_room (Nat.le_of_ble_eq_true rfl)) d_Mo_pieceRow_283 ⟨(Nat.le_of_ble_eq_true rfl), (Nat.le_of_ble_eq_true rfl)⟩) hV (fun r9 V9 H locs hp hV hle => ?_)
              obtain ⟨rfl, rfl, hz⟩ := hp
              replace hV := uu_same hV hn [0] rfl
              have hV : vS G.1 cls lo s H locs (vU V [(m, eO 8 [u0, .int (nI n), .ref mt, u3, u4, u5, u6, u7, u8, .ref np, u10, u11, u12, .int (nI (q_48 + 1)), .int (nI q_48), u15, u16, u17, u18, u19, u20]), (mt, eI (gI G) 400 g), (np, eI (gI G) 1769 (upd (rowU F j (upd (upd (upd f 3 (b2i bb)) 2 (nI v_37)) 4 (nI v_44))) (29 * j + 5) ((-1))))]) := hV
              refine W.eq (g2 := F0 mi 286 ls [.int 1, .int (nI (29 * j + 6)), .ref np]) rfl ?_
              refine u_iastN hx hb hK hV hn 2 rfl (by omega) (by decide) d_Mo_pieceRow_286 (fun H locs hV hz9 => ?_)
              have hV : vS G.1 cls lo s H locs (vU V [(m, eO 8 [u0, .int (nI n), .ref mt, u3, u4, u5, u6, u7, u8, .ref np, u10, u11, u12, .int (nI (q_48 + 1)), .int (nI q_48), u15, u16, u17, u18, u19, u20]), (mt, eI (gI G) 400 g), (np, eI (gI G) 1769 (upd (upd (rowU F j (upd (upd (upd f 3 (b2i bb)) 2 (nI v_37)) 4 (nI v_44))) (29 * j + 5) ((-1))) (29 * j + 6) 1))]) := hV
              replace hz := hz9.trans hz
              exact b287 j q_48 (q_48 + 1) (upd (upd (rowU F j (upd (upd (upd f 3 (b2i bb)) 2 (nI v_37)) 4 (nI v_44))) (29 * j + 5) ((-1))) (29 * j + 6) 1) (by omega) (by omega) hX H locs ls hz hV (lv_sub hl [1, 2] rfl)
      · replace c_40 : v_37 = a1 := (nI_eq (a := v_37) (b := a1) (by omega) (by omega)).mp c_40
        have hX : semi t n (pieceR t n q) = .inl (q_37 - 1) := by rw [hP]; simp only [semi, tlN, hx_37, sbd_r, if_pos c_40, sbd_l]
        refine lv_aload_n hx hb d_Mo_pieceRow_189 rfl (lv_at hl 0 rfl) ?_
        refine lv_aload_n hx hb d_Mo_pieceRow_190 rfl (lv_at hl 0 rfl) ?_
        refine u_get hx hb hts inMo hown hK hV hn 0 rfl rfl 13 (by decide) w_fl_Mo_61 rfl rfl d_Mo_pieceRow_191 ?_
        refine lv_iconst (v := 1) hx hb d_Mo_pieceRow_194 (by decide) ?_
        refine e_isub (v := nI (q_37 - 1)) hx hb d_Mo_pieceRow_195 (pk_sub (a := q_37) (b := 1) (by omega)) ?_
        refine v_call (va_runV (As := [.int (nI (q_37 - 1))]) (rest := []) ⟨hx, hb, hml, hown, hts⟩ (c_Mo_fail l G lo _ _ m u0 (.int (nI n)) (.ref mt) u3 u4 u5 u6 u7 u8 (.ref np) u10 u11 u12 (.int (nI q_37)) u15 u16 u17 u18 u19 u20 (by simp) (nI (q_37 - 1))) (kwV 1 hts w_co_Mo_fail rfl rfl w_it_Mo w_ml_Mo_74 w_im_Mo_fail w_se_Mo__Mo_fail (by decide +kernel) ⟨(Nat.le_of_ble_eq_true rfl), (Nat.le_of_ble_eq_true rfl)⟩) (u_preV hK hV hn [0] rfl hz 0 rfl rfl) rfl rfl hl.1 rfl (lv_room (Nat.le_of_ble_eq_true rfl)) d_Mo_pieceRow_196 ⟨(Nat.le_of_ble_eq_true rfl), (Nat.le_of_ble_eq_true rfl)⟩) hV (fun r9 V9 H locs hp hV hle => ?_)
        obtain ⟨rfl, rfl, hz⟩ := hp
        replace hV := u_back hV hn [0] rfl
        have hV : vS G.1 cls lo s H locs (vU V [(m, eO 8 [u0, .int (nI n), .ref mt, u3, u4, u5, u6, u7, u8, .ref np, u10, u11, u12, .int (nI q_37), .int (nI (q_37 - 1)), u15, u16, u17, u18, u19, u20]), (mt, eI (gI G) 400 g), (np, eI (gI G) 1769 (rowU F j (upd (upd f 3 (b2i bb)) 2 (nI v_37))))]) := hV
        exact b199 j (q_37 - 1) q_37 (rowU F j (upd (upd f 3 (b2i bb)) 2 (nI v_37))) (by omega) (by omega) (by omega) hX H locs ls hz hV (lv_sub hl [0, 1] rfl)
  refine lv_aload_n hx hb d_Mo_pieceRow_0 rfl (lv_at hl 0 rfl) ?_
  refine lv_iconst (v := 1) hx hb d_Mo_pieceRow_1 (by decide) ?_
  refine lv_bipush (v := 60) hx hb d_Mo_pieceRow_2 (by decide) ?_
  refine v_call (va_runV (As := [.int 1, .int 60]) (rest := []) ⟨hx, hb, hml, hown, hts⟩ (c_Mo_number l G lo _ _ m mt u0 u3 u4 u5 u6 u7 u8 (.ref np) u10 u11 u12 u15 u16 u17 u18 u19 u20 g t n q (nd_sub hn [0, 1] (by decide) rfl) hT h4 (by omega) 1 60 (by omega) (by omega)) (kwV 2 hts w_co_Mo_number rfl rfl w_it_Mo w_ml_Mo_82 w_im_Mo_number w_se_Mo__Mo_number (by decide +kernel) ⟨(Nat.le_of_ble_eq_true rfl), (Nat.le_of_ble_eq_true rfl)⟩) (u_preV hK hV hn [0, 1] rfl hz 0 rfl rfl) rfl rfl hl.1 rfl (lv_room (Nat.le_of_ble_eq_true rfl)) d_Mo_pieceRow_4 ⟨(Nat.le_of_ble_eq_true rfl), (Nat.le_of_ble_eq_true rfl)⟩) hV (fun r9 V9 H locs hp hV hle => ?_)
  obtain ⟨rfl, rfl, hz⟩ := hp
  replace hV := u_back hV hn [0, 1] rfl
  have hV : vS G.1 cls lo s H locs (vU V [(m, eO 8 [u0, .int (nI n), .ref mt, u3, u4, u5, u6, u7, u8, .ref np, u10, u11, u12, .int (nI ((dgs t n 4 0 0 (sk t n q)).2.2)), .int (wI (num t n 1 60 q)), u15, u16, u17, u18, u19, u20]), (mt, eI (gI G) 400 g), (np, eI (gI G) 1769 F)]) := hV
  obtain ⟨x_54, hx_54⟩ : ∃ z, num t n 1 60 q = z := ⟨_, rfl⟩
  rw [hx_54] at hV
  rcases x_54 with e_54 | ⟨v_54, q_54⟩
  · obtain ⟨ax_54, hax_54⟩ : ∃ z, (dgs t n 4 0 0 (sk t n q)).2.2 = z := ⟨_, rfl⟩
    rw [hax_54] at hV
    have be_54 := num_er2 hx_54
    have bax_54 := dgs_le2 hax_54
    have hX : semi t n (pieceR t n q) = .inl e_54 := by simp only [semi, pieceR, hx_54, sbd_l]
    have hV : vS G.1 cls lo s H locs (vU V [(m, eO 8 [u0, .int (nI n), .ref mt, u3, u4, u5, u6, u7, u8, .ref np, u10, u11, u12, .int (nI ax_54), .int (nI e_54), u15, u16, u17, u18, u19, u20]), (mt, eI (gI G) 400 g), (np, eI (gI G) 1769 F)]) := hV
    refine W.eq (g2 := F0 mi 7 ls [.int 1]) (by rw [hx_54]; rfl) ?_
    refine lv_istore_n (lv' := [(1, .int 1), (0, .ref m)]) hx hb d_Mo_pieceRow_7 rfl hl (by decide) rfl (fun ls hl => ?_)
    refine lv_iload_n hx hb d_Mo_pieceRow_8 rfl (lv_at hl 0 rfl) ?_
    refine lv_bipush (v := 29) hx hb d_Mo_pieceRow_9 (by decide) ?_
    refine e_imul (v := nI (29 * 1)) hx hb d_Mo_pieceRow_11 (by decide) ?_
    refine lv_istore_n (lv' := [(2, .int (nI (29 * 1))), (1, .int 1), (0, .ref m)]) hx hb d_Mo_pieceRow_12 rfl hl (by decide) rfl (fun ls hl => ?_)
    refine lv_iconst (v := 0) hx hb d_Mo_pieceRow_13 (by decide) ?_
    refine lv_istore_n (lv' := [(3, .int 0), (2, .int (nI (29 * 1))), (1, .int 1), (0, .ref m)]) hx hb d_Mo_pieceRow_14 rfl hl (by decide) rfl (fun ls hl => ?_)
    refine lv_iload_n hx hb d_Mo_pieceRow_15 rfl (lv_at hl 0 rfl) ?_
    refine lv_bipush (v := 29) hx hb d_Mo_pieceRow_16 (by decide) ?_
    refine lv_icmp_ge (tgt := 43) hx hb d_Mo_pieceRow_18 (by decide) (fun c_55 => absurd c_55 (by decide)) (fun _ => ?_)
    refine lv_aload_n hx hb d_Mo_pieceRow_21 rfl (lv_at hl 3 rfl) ?_
    refine u_get hx hb hts inMo hown hK hV hn 0 rfl rfl 14 (by decide) w_fl_Mo_68 rfl rfl d_Mo_pieceRow_22 ?_
    refine lv_if_ge (tgt := 43) hx hb d_Mo_pieceRow_25 (by decide) (fun c_56 => ?_) (fun c_56 => absurd (nI_ge0 (by omega)) c_56)
    replace c_56 : 0 ≤ e_54 := (nI_leI (a := 0) (b := e_54) (by omega) (by omega)).mp c_56
    exact b43 1 e_54 ax_54 F (by omega) (by omega) (by omega) hX H locs ls hz hV (lv_sub hl [3, 1] rfl)
  · rw [num_at hx_54] at hV
    obtain ⟨lv_54, uv_54, gq_54, bq_54⟩ := num_ok2 hx_54
    have hV : vS G.1 cls lo s H locs (vU V [(m, eO 8 [u0, .int (nI n), .ref mt, u3, u4, u5, u6, u7, u8, .ref np, u10, u11, u12, .int (nI q_54), .int ((-1)), u15, u16, u17, u18, u19, u20]), (mt, eI (gI G) 400 g), (np, eI (gI G) 1769 F)]) := hV
    refine W.eq (g2 := F0 mi 7 ls [.int (nI v_54)]) (by rw [hx_54]; rfl) ?_
    refine lv_istore_n (lv' := [(1, .int (nI v_54)), (0, .ref m)]) hx hb d_Mo_pieceRow_7 rfl hl (by decide) rfl (fun ls hl => ?_)
    refine lv_iload_n hx hb d_Mo_pieceRow_8 rfl (lv_at hl 0 rfl) ?_
    refine lv_bipush (v := 29) hx hb d_Mo_pieceRow_9 (by decide) ?_
    refine e_imul (v := nI (29 * v_54)) hx hb d_Mo_pieceRow_11 (by rw [Nat.mul_comm 29 v_54]; exact nI_mul v_54 29) ?_
    refine lv_istore_n (lv' := [(2, .int (nI (29 * v_54))), (1, .int (nI v_54)), (0, .ref m)]) hx hb d_Mo_pieceRow_12 rfl hl (by decide) rfl (fun ls hl => ?_)
    refine lv_iconst (v := 0) hx hb d_Mo_pieceRow_13 (by decide) ?_
    refine lv_istore_n (lv' := [(3, .int 0), (2, .int (nI (29 * v_54))), (1, .int (nI v_54)), (0, .ref m)]) hx hb d_Mo_pieceRow_14 rfl hl (by decide) rfl (fun ls hl => ?_)
    have zl : ∀ (k : Nat) (k3 : Nat), 29 - k3 < k → (k3 ≤ 29) → ∀ (H : Heap) (locs : List Loc) (ls : Array Slot), H.size = sz → vS G.1 cls lo s H locs (vU V [(m, eO 8 [u0, .int (nI n), .ref mt, u3, u4, u5, u6, u7, u8, .ref np, u10, u11, u12, .int (nI q_54), .int ((-1)), u15, u16, u17, u18, u19, u20]), (mt, eI (gI G) 400 g), (np, eI (gI G) 1769 (rowZ F v_54 k3))]) → lv_has ls 4 [(0, .ref m), (1, .int (nI v_54)), (2, .int (nI (29 * v_54))), (3, .int (nI k3))] → W pg l ev ({ frames := 4, cells := 0, slots := 0, locals := 120 } : Room) s mi args below meth cd H locs 0 0 (MQ below (vPost G lo (fun r V' k => r = none ∧ (∃ (a9 : Nat) (F2 : Nat → Int32), V' = vU V [(m, eO 8 [u0, .int (nI n), .ref mt, u3, u4, u5, u6, u7, u8, .ref np, u10, u11, u12, .int (nI a9), .int (wI (semi t n (pieceR t n q))), u15, u16, u17, u18, u19, u20]), (mt, eI (gI G) 400 g), (np, eI (gI G) 1769 F2)] ∧ ∀ z, semi t n (pieceR t n q) = .inr z → a9 = z.2 ∧ ∃ f, F2 = rowU F z.1.1 f ∧ pR f z.1.2) ∧ k = sz)) args s 0 0 (vL lo)) (F0 mi 15 ls []) := by
      intro k
      induction k with
      | zero => intro k3 hk; exact absurd hk (by omega)
      | succ k ih =>
        intro k3 hk hk3 H locs ls hz hV hl
        refine lv_iload_n hx hb d_Mo_pieceRow_15 rfl (lv_at hl 3 rfl) ?_
        refine lv_bipush (v := 29) hx hb d_Mo_pieceRow_16 (by decide) ?_
        refine lv_icmp_ge (tgt := 43) hx hb d_Mo_pieceRow_18 (by decide) (fun c_57 => ?_) (fun c_57 => ?_)
        · replace c_57 : 29 ≤ k3 := (nI_leI (a := 29) (b := k3) (by omega) (by omega)).mp c_57
          have hV : vS G.1 cls lo s H locs (vU V [(m, eO 8 [u0, .int (nI n), .ref mt, u3, u4, u5, u6, u7, u8, .ref np, u10, u11, u12, .int (nI q_54), .int ((-1)), u15, u16, u17, u18, u19, u20]), (mt, eI (gI G) 400 g), (np, eI (gI G) 1769 (rowU F v_54 (fun _ => 0)))]) := by rw [show k3 = 29 by omega] at hV; exact hV
          refine lv_aload_n hx hb d_Mo_pieceRow_43 rfl (lv_at hl 0 rfl) ?_
          refine u_get hx hb hts inMo hown hK hV hn 0 rfl rfl 9 (by decide) w_fl_Mo_29 rfl rfl d_Mo_pieceRow_44 ?_
          refine lv_iload_n hx hb d_Mo_pieceRow_47 rfl (lv_at hl 2 rfl) ?_
          refine lv_iconst (v := 0) hx hb d_Mo_pieceRow_48 (by decide) ?_
          refine e_iadd (v := nI (29 * v_54 + 0)) hx hb d_Mo_pieceRow_49 (nI_add (29 * v_54) 0) ?_
          refine lv_iconst (v := 1) hx hb d_Mo_pieceRow_50 (by decide) ?_
          refine u_iastN hx hb hK hV hn 2 rfl (by omega) (by decide) d_Mo_pieceRow_51 (fun H locs hV hz9 => ?_)
          have hV : vS G.1 cls lo s H locs (vU V [(m, eO 8 [u0, .int (nI n), .ref mt, u3, u4, u5, u6, u7, u8, .ref np, u10, u11, u12, .int (nI q_54), .int ((-1)), u15, u16, u17, u18, u19, u20]), (mt, eI (gI G) 400 g), (np, eI (gI G) 1769 (upd (rowU F v_54 (fun _ => 0)) (29 * v_54 + 0) 1))]) := hV
          replace hz := hz9.trans hz
          rw [rowU_up (k := 0) rfl (by decide)] at hV
          refine lv_aload_n hx hb d_Mo_pieceRow_52 rfl (lv_at hl 0 rfl) ?_
          refine u_get hx hb hts inMo hown hK hV hn 0 rfl rfl 9 (by decide) w_fl_Mo_29 rfl rfl d_Mo_pieceRow_53 ?_
          refine lv_iload_n hx hb d_Mo_pieceRow_56 rfl (lv_at hl 2 rfl) ?_
          refine lv_bipush (v := 19) hx hb d_Mo_pieceRow_57 (by decide) ?_
          refine e_iadd (v := nI (29 * v_54 + 19)) hx hb d_Mo_pieceRow_59 (nI_add (29 * v_54) 19) ?_
          refine lv_iconst (v := (-1)) hx hb d_Mo_pieceRow_60 (by decide) ?_
          refine u_iastN hx hb hK hV hn 2 rfl (by omega) (by decide) d_Mo_pieceRow_61 (fun H locs hV hz9 => ?_)
          have hV : vS G.1 cls lo s H locs (vU V [(m, eO 8 [u0, .int (nI n), .ref mt, u3, u4, u5, u6, u7, u8, .ref np, u10, u11, u12, .int (nI q_54), .int ((-1)), u15, u16, u17, u18, u19, u20]), (mt, eI (gI G) 400 g), (np, eI (gI G) 1769 (upd (rowU F v_54 (upd (fun _ => 0) 0 1)) (29 * v_54 + 19) ((-1))))]) := hV
          replace hz := hz9.trans hz
          rw [rowU_up (k := 19) rfl (by decide)] at hV
          refine lv_aload_n hx hb d_Mo_pieceRow_62 rfl (lv_at hl 0 rfl) ?_
          refine lv_bipush (v := 61) hx hb d_Mo_pieceRow_63 (by decide) ?_
          refine v_call (va_runV (As := [.int 61]) (rest := []) ⟨hx, hb, hml, hown, hts⟩ (c_Mo_take l G lo _ _ m mt u0 u3 u4 u5 u6 u7 u8 (.ref np) u10 u11 u12 u15 u16 u17 u18 u19 u20 g t n q_54 (nd_sub hn [0, 1] (by decide) rfl) hT h4 (by omega) 61 (by decide)) (kwV 1 hts w_co_Mo_take rfl rfl w_it_Mo w_ml_Mo_86 w_im_Mo_take w_se_Mo__Mo_take (by decide +kernel) ⟨(Nat.le_of_ble_eq_true rfl), (Nat.le_of_ble_eq_true rfl)⟩) (u_preV hK hV hn [0, 1] rfl hz 0 rfl rfl) rfl rfl hl.1 rfl (lv_room (Nat.le_of_ble_eq_true rfl)) d_Mo_pieceRow_65 ⟨(Nat.le_of_ble_eq_true rfl), (Nat.le_of_ble_eq_true rfl)⟩) hV (fun r9 V9 H locs hp hV hle => ?_)
          obtain ⟨rfl, rfl, hz⟩ := hp
          replace hV := u_back hV hn [0, 1] rfl
          have hV : vS G.1 cls lo s H locs (vU V [(m, eO 8 [u0, .int (nI n), .ref mt, u3, u4, u5, u6, u7, u8, .ref np, u10, u11, u12, .int (nI (rQ (tk t n 61 q_54))), .int (wI (tk t n 61 q_54)), u15, u16, u17, u18, u19, u20]), (mt, eI (gI G) 400 g), (np, eI (gI G) 1769 (rowU F v_54 (upd (upd (fun _ => 0) 0 1) 19 ((-1)))))]) := hV
          obtain ⟨x_58, hx_58⟩ : ∃ z, tk t n 61 q_54 = z := ⟨_, rfl⟩
          rw [hx_58] at hV
          rcases x_58 with e_58 | q_58
          · have be_58 := tk_er2 hx_58
            have hX : semi t n (pieceR t n q) = .inl e_58 := by simp only [semi, pieceR, hx_54, hx_58, sbd_l, sbd_r]
            have hV : vS G.1 cls lo s H locs (vU V [(m, eO 8 [u0, .int (nI n), .ref mt, u3, u4, u5, u6, u7, u8, .ref np, u10, u11, u12, .int (nI e_58), .int (nI e_58), u15, u16, u17, u18, u19, u20]), (mt, eI (gI G) 400 g), (np, eI (gI G) 1769 (rowU F v_54 (upd (upd (fun _ => 0) 0 1) 19 ((-1)))))]) := hV
            refine W.eq (g2 := F0 mi 68 ls []) rfl ?_
            refine lv_aload_n hx hb d_Mo_pieceRow_68 rfl (lv_at hl 0 rfl) ?_
            refine u_get hx hb hts inMo hown hK hV hn 0 rfl rfl 9 (by decide) w_fl_Mo_29 rfl rfl d_Mo_pieceRow_69 ?_
            refine lv_iload_n hx hb d_Mo_pieceRow_72 rfl (lv_at hl 2 rfl) ?_
            refine lv_iconst (v := 1) hx hb d_Mo_pieceRow_73 (by decide) ?_
            refine e_iadd (v := nI (29 * v_54 + 1)) hx hb d_Mo_pieceRow_74 (nI_add (29 * v_54) 1) ?_
            refine lv_aload_n hx hb d_Mo_pieceRow_75 rfl (lv_at hl 0 rfl) ?_
            refine lv_iconst (v := 1) hx hb d_Mo_pieceRow_76 (by decide) ?_
            refine lv_bipush (v := 40) hx hb d_Mo_pieceRow_77 (by decide) ?_
            refine v_call (va_runV (As := [.int 1, .int 40]) (rest := [.int (nI (29 * v_54 + 1)), .ref np]) ⟨hx, hb, hml, hown, hts⟩ (c_Mo_numberB l G lo _ _ m u0 (.int (nI n)) (.ref mt) u3 u4 u5 u6 u7 u8 (.ref np) u10 u11 u12 (.int (nI e_58)) u15 u16 u17 u18 u19 u20 (by simp) e_58 (by omega) 1 40) (kwV 2 hts w_co_Mo_number rfl rfl w_it_Mo w_ml_Mo_82 w_im_Mo_number w_se_Mo__Mo_number (by decide +kernel) ⟨(Nat.le_of_ble_eq_true rfl), (Nat.le_of_ble_eq_true rfl)⟩) (u_preV hK hV hn [0] rfl hz 0 rfl rfl) rfl rfl hl.1 rfl (lv_room (Nat.le_of_ble_eq_true rfl)) d_Mo_pieceRow_79 ⟨(Nat.le_of_ble_eq_true rfl), (Nat.le_of_ble_eq_true rfl)⟩) hV (fun r9 V9 H locs hp hV hle => ?_)
            obtain ⟨rfl, rfl, hz⟩ := hp
            replace hV := uu_same hV hn [0] rfl
            have hV : vS G.1 cls lo s H locs (vU V [(m, eO 8 [u0, .int (nI n), .ref mt, u3, u4, u5, u6, u7, u8, .ref np, u10, u11, u12, .int (nI e_58), .int (nI e_58), u15, u16, u17, u18, u19, u20]), (mt, eI (gI G) 400 g), (np, eI (gI G) 1769 (rowU F v_54 (upd (upd (fun _ => 0) 0 1) 19 ((-1)))))]) := hV
            refine W.eq (g2 := F0 mi 82 ls [.int 1, .int (nI (29 * v_54 + 1)), .ref np]) rfl ?_
            refine u_iastN hx hb hK hV hn 2 rfl (by omega) (by decide) d_Mo_pieceRow_82 (fun H locs hV hz9 => ?_)
            have hV : vS G.1 cls lo s H locs (vU V [(m, eO 8 [u0, .int (nI n), .ref mt, u3, u4, u5, u6, u7, u8, .ref np, u10, u11, u12, .int (nI e_58), .int (nI e_58), u15, u16, u17, u18, u19, u20]), (mt, eI (gI G) 400 g), (np, eI (gI G) 1769 (upd (rowU F v_54 (upd (upd (fun _ => 0) 0 1) 19 ((-1)))) (29 * v_54 + 1) 1))]) := hV
            replace hz := hz9.trans hz
            refine lv_aload_n hx hb d_Mo_pieceRow_83 rfl (lv_at hl 0 rfl) ?_
            refine u_get hx hb hts inMo hown hK hV hn 0 rfl rfl 14 (by decide) w_fl_Mo_68 rfl rfl d_Mo_pieceRow_84 ?_
            refine lv_if_ge (tgt := 116) hx hb d_Mo_pieceRow_87 (by decide) (fun c_59 => ?_) (fun c_59 => absurd (nI_ge0 (by omega)) c_59)
            replace c_59 : 0 ≤ e_58 := (nI_leI (a := 0) (b := e_58) (by omega) (by omega)).mp c_59
            exact b116 v_54 e_58 e_58 (upd (rowU F v_54 (upd (upd (fun _ => 0) 0 1) 19 ((-1)))) (29 * v_54 + 1) 1) (by omega) (by omega) (by omega) hX H locs ls hz hV (lv_sub hl [0, 2] rfl)
          · obtain ⟨gq_58, bq_58⟩ := tk_ok hx_58
            have hV : vS G.1 cls lo s H locs (vU V [(m, eO 8 [u0, .int (nI n), .ref mt, u3, u4, u5, u6, u7, u8, .ref np, u10, u11, u12, .int (nI q_58), .int ((-1)), u15, u16, u17, u18, u19, u20]), (mt, eI (gI G) 400 g), (np, eI (gI G) 1769 (rowU F v_54 (upd (upd (fun _ => 0) 0 1) 19 ((-1)))))]) := hV
            refine W.eq (g2 := F0 mi 68 ls []) rfl ?_
            refine lv_aload_n hx hb d_Mo_pieceRow_68 rfl (lv_at hl 0 rfl) ?_
            refine u_get hx hb hts inMo hown hK hV hn 0 rfl rfl 9 (by decide) w_fl_Mo_29 rfl rfl d_Mo_pieceRow_69 ?_
            refine lv_iload_n hx hb d_Mo_pieceRow_72 rfl (lv_at hl 2 rfl) ?_
            refine lv_iconst (v := 1) hx hb d_Mo_pieceRow_73 (by decide) ?_
            refine e_iadd (v := nI (29 * v_54 + 1)) hx hb d_Mo_pieceRow_74 (nI_add (29 * v_54) 1) ?_
            refine lv_aload_n hx hb d_Mo_pieceRow_75 rfl (lv_at hl 0 rfl) ?_
            refine lv_iconst (v := 1) hx hb d_Mo_pieceRow_76 (by decide) ?_
            refine lv_bipush (v := 40) hx hb d_Mo_pieceRow_77 (by decide) ?_
            refine v_call (va_runV (As := [.int 1, .int 40]) (rest := [.int (nI (29 * v_54 + 1)), .ref np]) ⟨hx, hb, hml, hown, hts⟩ (c_Mo_number l G lo _ _ m mt u0 u3 u4 u5 u6 u7 u8 (.ref np) u10 u11 u12 u15 u16 u17 u18 u19 u20 g t n q_58 (nd_sub hn [0, 1] (by decide) rfl) hT h4 (by omega) 1 40 (by omega) (by omega)) (kwV 2 hts w_co_Mo_number rfl rfl w_it_Mo w_ml_Mo_82 w_im_Mo_number w_se_Mo__Mo_number (by decide +kernel) ⟨(Nat.le_of_ble_eq_true rfl), (Nat.le_of_ble_eq_true rfl)⟩) (u_preV hK hV hn [0, 1] rfl hz 0 rfl rfl) rfl rfl hl.1 rfl (lv_room (Nat.le_of_ble_eq_true rfl)) d_Mo_pieceRow_79 ⟨(Nat.le_of_ble_eq_true rfl), (Nat.le_of_ble_eq_true rfl)⟩) hV (fun r9 V9 H locs hp hV hle => ?_)
            obtain ⟨rfl, rfl, hz⟩ := hp
            replace hV := u_back hV hn [0, 1] rfl
            have hV : vS G.1 cls lo s H locs (vU V [(m, eO 8 [u0, .int (nI n), .ref mt, u3, u4, u5, u6, u7, u8, .ref np, u10, u11, u12, .int (nI ((dgs t n 4 0 0 (sk t n q_58)).2.2)), .int (wI (num t n 1 40 q_58)), u15, u16, u17, u18, u19, u20]), (mt, eI (gI G) 400 g), (np, eI (gI G) 1769 (rowU F v_54 (upd (upd (fun _ => 0) 0 1) 19 ((-1)))))]) := hV
            obtain ⟨x_60, hx_60⟩ : ∃ z, num t n 1 40 q_58 = z := ⟨_, rfl⟩
            rw [hx_60] at hV
            rcases x_60 with e_60 | ⟨v_60, q_60⟩
            · obtain ⟨ax_60, hax_60⟩ : ∃ z, (dgs t n 4 0 0 (sk t n q_58)).2.2 = z := ⟨_, rfl⟩
              rw [hax_60] at hV
              have be_60 := num_er2 hx_60
              have bax_60 := dgs_le2 hax_60
              have hX : semi t n (pieceR t n q) = .inl e_60 := by simp only [semi, pieceR, nodesR, hx_54, hx_58, hx_60, sbd_l, sbd_r]
              have hV : vS G.1 cls lo s H locs (vU V [(m, eO 8 [u0, .int (nI n), .ref mt, u3, u4, u5, u6, u7, u8, .ref np, u10, u11, u12, .int (nI ax_60), .int (nI e_60), u15, u16, u17, u18, u19, u20]), (mt, eI (gI G) 400 g), (np, eI (gI G) 1769 (rowU F v_54 (upd (upd (fun _ => 0) 0 1) 19 ((-1)))))]) := hV
              refine W.eq (g2 := F0 mi 82 ls [.int 1, .int (nI (29 * v_54 + 1)), .ref np]) (by rw [hx_60]; rfl) ?_
              refine u_iastN hx hb hK hV hn 2 rfl (by omega) (by decide) d_Mo_pieceRow_82 (fun H locs hV hz9 => ?_)
              have hV : vS G.1 cls lo s H locs (vU V [(m, eO 8 [u0, .int (nI n), .ref mt, u3, u4, u5, u6, u7, u8, .ref np, u10, u11, u12, .int (nI ax_60), .int (nI e_60), u15, u16, u17, u18, u19, u20]), (mt, eI (gI G) 400 g), (np, eI (gI G) 1769 (upd (rowU F v_54 (upd (upd (fun _ => 0) 0 1) 19 ((-1)))) (29 * v_54 + 1) 1))]) := hV
              replace hz := hz9.trans hz
              refine lv_aload_n hx hb d_Mo_pieceRow_83 rfl (lv_at hl 0 rfl) ?_
              refine u_get hx hb hts inMo hown hK hV hn 0 rfl rfl 14 (by decide) w_fl_Mo_68 rfl rfl d_Mo_pieceRow_84 ?_
              refine lv_if_ge (tgt := 116) hx hb d_Mo_pieceRow_87 (by decide) (fun c_61 => ?_) (fun c_61 => absurd (nI_ge0 (by omega)) c_61)
              replace c_61 : 0 ≤ e_60 := (nI_leI (a := 0) (b := e_60) (by omega) (by omega)).mp c_61
              exact b116 v_54 e_60 ax_60 (upd (rowU F v_54 (upd (upd (fun _ => 0) 0 1) 19 ((-1)))) (29 * v_54 + 1) 1) (by omega) (by omega) (by omega) hX H locs ls hz hV (lv_sub hl [0, 2] rfl)
            · rw [num_at hx_60] at hV
              obtain ⟨lv_60, uv_60, gq_60, bq_60⟩ := num_ok2 hx_60
              have hV : vS G.1 cls lo s H locs (vU V [(m, eO 8 [u0, .int (nI n), .ref mt, u3, u4, u5, u6, u7, u8, .ref np, u10, u11, u12, .int (nI q_60), .int ((-1)), u15, u16, u17, u18, u19, u20]), (mt, eI (gI G) 400 g), (np, eI (gI G) 1769 (rowU F v_54 (upd (upd (fun _ => 0) 0 1) 19 ((-1)))))]) := hV
              refine W.eq (g2 := F0 mi 82 ls [.int (nI v_60), .int (nI (29 * v_54 + 1)), .ref np]) (by rw [hx_60]; rfl) ?_
              refine u_iastN hx hb hK hV hn 2 rfl (by omega) (by decide) d_Mo_pieceRow_82 (fun H locs hV hz9 => ?_)
              have hV : vS G.1 cls lo s H locs (vU V [(m, eO 8 [u0, .int (nI n), .ref mt, u3, u4, u5, u6, u7, u8, .ref np, u10, u11, u12, .int (nI q_60), .int ((-1)), u15, u16, u17, u18, u19, u20]), (mt, eI (gI G) 400 g), (np, eI (gI G) 1769 (upd (rowU F v_54 (upd (upd (fun _ => 0) 0 1) 19 ((-1)))) (29 * v_54 + 1) (nI v_60)))]) := hV
              replace hz := hz9.trans hz
              rw [rowU_up (k := 1) rfl (by decide)] at hV
              refine lv_aload_n hx hb d_Mo_pieceRow_83 rfl (lv_at hl 0 rfl) ?_
              refine u_get hx hb hts inMo hown hK hV hn 0 rfl rfl 14 (by decide) w_fl_Mo_68 rfl rfl d_Mo_pieceRow_84 ?_
              refine lv_if_ge (tgt := 116) hx hb d_Mo_pieceRow_87 (by decide) (fun c_62 => absurd c_62 (by decide)) (fun _ => ?_)
              refine lv_aload_n hx hb d_Mo_pieceRow_90 rfl (lv_at hl 0 rfl) ?_
              refine v_call (va_runV (As := []) (rest := []) ⟨hx, hb, hml, hown, hts⟩ (c_Mo_see l G lo _ _ m mt u0 u3 u4 u5 u6 u7 u8 (.ref np) u10 u11 u12 (.int ((-1))) u15 u16 u17 u18 u19 u20 g t n q_60 (nd_sub hn [0, 1] (by decide) rfl) hT h4 (by omega)) (kwV 0 hts w_co_Mo_see rfl rfl w_it_Mo w_ml_Mo_71 w_im_Mo_see w_se_Mo__Mo_see (by decide +kernel) ⟨(Nat.le_of_ble_eq_true rfl), (Nat.le_of_ble_eq_true rfl)⟩) (u_preV hK hV hn [0, 1] rfl hz 0 rfl rfl) rfl rfl hl.1 rfl (lv_room (Nat.le_of_ble_eq_true rfl)) d_Mo_pieceRow_91 ⟨(Nat.le_of_ble_eq_true rfl), (Nat.le_of_ble_eq_true rfl)⟩) hV (fun r9 V9 H locs hp hV hle => ?_)
              obtain ⟨rfl, rfl, hz⟩ := hp
              replace hV := u_back hV hn [0, 1] rfl
              have hV : vS G.1 cls lo s H locs (vU V [(m, eO 8 [u0, .int (nI n), .ref mt, u3, u4, u5, u6, u7, u8, .ref np, u10, u11, u12, .int (nI (sk t n q_60)), .int ((-1)), u15, u16, u17, u18, u19, u20]), (mt, eI (gI G) 400 g), (np, eI (gI G) 1769 (rowU F v_54 (upd (upd (upd (fun _ => 0) 0 1) 19 ((-1))) 1 (nI v_60))))]) := hV
              obtain ⟨q_63, hq_63⟩ : ∃ z, sk t n q_60 = z := ⟨_, rfl⟩
              rw [hq_63] at hV
              have gq_63 : q_60 ≤ q_63 := by rw [← hq_63]; exact sk_ge t n q_60
              have bq_63 : q_63 ≤ n ∨ q_63 = q_60 := by rw [← hq_63]; exact sk_le2 t n q_60
              rcases Nat.lt_or_ge q_63 n with l_64 | l_64
              · have kl_64 := (hT q_63 l_64).1
                have hV : vS G.1 cls lo s H locs (vU V [(m, eO 8 [u0, .int (nI n), .ref mt, u3, u4, u5, u6, u7, u8, .ref np, u10, u11, u12, .int (nI q_63), .int ((-1)), u15, u16, u17, u18, u19, u20]), (mt, eI (gI G) 400 g), (np, eI (gI G) 1769 (rowU F v_54 (upd (upd (upd (fun _ => 0) 0 1) 19 ((-1))) 1 (nI v_60))))]) := hV
                refine W.eq (g2 := F0 mi 94 ls [.int (nI (t q_63))]) (by rw [hq_63, rK_in l_64]; rfl) ?_
                refine lv_bipush (v := 45) hx hb d_Mo_pieceRow_94 (by decide) ?_
                refine lv_icmp_eq (tgt := 116) hx hb d_Mo_pieceRow_96 (by decide) (fun c_65 => ?_) (fun c_65 => ?_)
                · replace c_65 : t q_63 = 45 := (nI_eq (a := t q_63) (b := 45) (by omega) (by omega)).mp c_65
                  refine lv_aload_n hx hb d_Mo_pieceRow_116 rfl (lv_at hl 0 rfl) ?_
                  refine u_get hx hb hts inMo hown hK hV hn 0 rfl rfl 9 (by decide) w_fl_Mo_29 rfl rfl d_Mo_pieceRow_117 ?_
                  refine lv_iload_n hx hb d_Mo_pieceRow_120 rfl (lv_at hl 2 rfl) ?_
                  refine lv_iconst (v := 3) hx hb d_Mo_pieceRow_121 (by decide) ?_
                  refine e_iadd (v := nI (29 * v_54 + 3)) hx hb d_Mo_pieceRow_122 (nI_add (29 * v_54) 3) ?_
                  refine lv_aload_n hx hb d_Mo_pieceRow_123 rfl (lv_at hl 0 rfl) ?_
                  refine v_call (va_runV (As := []) (rest := [.int (nI (29 * v_54 + 3)), .ref np]) ⟨hx, hb, hml, hown, hts⟩ (c_Mo_here l G lo _ _ m mt u0 u3 u4 u5 u6 u7 u8 (.ref np) u10 u11 u12 (.int ((-1))) u15 u16 u17 u18 u19 u20 g t n q_63 (nd_sub hn [0, 1] (by decide) rfl) hT h4 (by omega)) (kwV 0 hts w_co_Mo_here rfl rfl w_it_Mo w_ml_Mo_64 w_im_Mo_here w_se_Mo__Mo_here (by decide +kernel) ⟨(Nat.le_of_ble_eq_true rfl), (Nat.le_of_ble_eq_true rfl)⟩) (u_preV hK hV hn [0, 1] rfl hz 0 rfl rfl) rfl rfl hl.1 rfl (lv_room (Nat.le_of_ble_eq_true rfl)) d_Mo_pieceRow_124 ⟨(Nat.le_of_ble_eq_true rfl), (Nat.le_of_ble_eq_true rfl)⟩) hV (fun r9 V9 H locs hp hV hle => ?_)
                  obtain ⟨rfl, rfl, hz⟩ := hp
                  replace hV := uu_same hV hn [0, 1] rfl
                  have hV : vS G.1 cls lo s H locs (vU V [(m, eO 8 [u0, .int (nI n), .ref mt, u3, u4, u5, u6, u7, u8, .ref np, u10, u11, u12, .int (nI q_63), .int ((-1)), u15, u16, u17, u18, u19, u20]), (mt, eI (gI G) 400 g), (np, eI (gI G) 1769 (rowU F v_54 (upd (upd (upd (fun _ => 0) 0 1) 19 ((-1))) 1 (nI v_60))))]) := hV
                  refine W.eq (g2 := F0 mi 127 ls [.int (rK t n q_63), .int (nI (29 * v_54 + 3)), .ref np]) rfl ?_
                  refine W.eq (g2 := F0 mi 127 ls [.int (nI (t q_63)), .int (nI (29 * v_54 + 3)), .ref np]) (by rw [rK_in l_64] <;> rfl) ?_
                  refine lv_bipush (v := 62) hx hb d_Mo_pieceRow_127 (by decide) ?_
                  refine lv_icmp_ne (tgt := 136) hx hb d_Mo_pieceRow_129 (by decide) (fun _ => ?_) (fun c_66 => absurd ((nI_eq (a := t q_63) (b := 62) (by omega) (by omega)).mp c_66) (by omega))
                  refine lv_iconst (v := 0) hx hb d_Mo_pieceRow_136 (by decide) ?_
                  refine u_iastN hx hb hK hV hn 2 rfl (by omega) (by decide) d_Mo_pieceRow_137 (fun H locs hV hz9 => ?_)
                  have hV : vS G.1 cls lo s H locs (vU V [(m, eO 8 [u0, .int (nI n), .ref mt, u3, u4, u5, u6, u7, u8, .ref np, u10, u11, u12, .int (nI q_63), .int ((-1)), u15, u16, u17, u18, u19, u20]), (mt, eI (gI G) 400 g), (np, eI (gI G) 1769 (upd (rowU F v_54 (upd (upd (upd (fun _ => 0) 0 1) 19 ((-1))) 1 (nI v_60))) (29 * v_54 + 3) 0))]) := hV
                  replace hz := hz9.trans hz
                  rw [rowU_up (k := 3) rfl (by decide)] at hV
                  exact g138 v_54 v_60 false _ q_63 (by omega) (by omega) (by omega) (by omega) (by simp [upd]) (by simp [upd]) (pieceR_tl hx_54 hx_58 hx_60 (sgn2 hq_63 (by omega) (by omega)) (decide_eq_false (by rw [hq_63]; omega))) H locs ls hz hV (lv_sub hl [0, 2] rfl)
                · replace c_65 : ¬ t q_63 = 45 := fun z9 => c_65 ((nI_eq (a := t q_63) (b := 45) (by omega) (by omega)).mpr z9)
                  refine lv_aload_n hx hb d_Mo_pieceRow_99 rfl (lv_at hl 0 rfl) ?_
                  refine v_call (va_runV (As := []) (rest := []) ⟨hx, hb, hml, hown, hts⟩ (c_Mo_here l G lo _ _ m mt u0 u3 u4 u5 u6 u7 u8 (.ref np) u10 u11 u12 (.int ((-1))) u15 u16 u17 u18 u19 u20 g t n q_63 (nd_sub hn [0, 1] (by decide) rfl) hT h4 (by omega)) (kwV 0 hts w_co_Mo_here rfl rfl w_it_Mo w_ml_Mo_64 w_im_Mo_here w_se_Mo__Mo_here (by decide +kernel) ⟨(Nat.le_of_ble_eq_true rfl), (Nat.le_of_ble_eq_true rfl)⟩) (u_preV hK hV hn [0, 1] rfl hz 0 rfl rfl) rfl rfl hl.1 rfl (lv_room (Nat.le_of_ble_eq_true rfl)) d_Mo_pieceRow_100 ⟨(Nat.le_of_ble_eq_true rfl), (Nat.le_of_ble_eq_true rfl)⟩) hV (fun r9 V9 H locs hp hV hle => ?_)
                  obtain ⟨rfl, rfl, hz⟩ := hp
                  replace hV := uu_same hV hn [0, 1] rfl
                  have hV : vS G.1 cls lo s H locs (vU V [(m, eO 8 [u0, .int (nI n), .ref mt, u3, u4, u5, u6, u7, u8, .ref np, u10, u11, u12, .int (nI q_63), .int ((-1)), u15, u16, u17, u18, u19, u20]), (mt, eI (gI G) 400 g), (np, eI (gI G) 1769 (rowU F v_54 (upd (upd (upd (fun _ => 0) 0 1) 19 ((-1))) 1 (nI v_60))))]) := hV
                  refine W.eq (g2 := F0 mi 103 ls [.int (rK t n q_63)]) rfl ?_
                  refine W.eq (g2 := F0 mi 103 ls [.int (nI (t q_63))]) (by rw [rK_in l_64] <;> rfl) ?_
                  refine lv_bipush (v := 62) hx hb d_Mo_pieceRow_103 (by decide) ?_
                  refine lv_icmp_eq (tgt := 116) hx hb d_Mo_pieceRow_105 (by decide) (fun c_67 => ?_) (fun c_67 => ?_)
                  · replace c_67 : t q_63 = 62 := (nI_eq (a := t q_63) (b := 62) (by omega) (by omega)).mp c_67
                    refine lv_aload_n hx hb d_Mo_pieceRow_116 rfl (lv_at hl 0 rfl) ?_
                    refine u_get hx hb hts inMo hown hK hV hn 0 rfl rfl 9 (by decide) w_fl_Mo_29 rfl rfl d_Mo_pieceRow_117 ?_
                    refine lv_iload_n hx hb d_Mo_pieceRow_120 rfl (lv_at hl 2 rfl) ?_
                    refine lv_iconst (v := 3) hx hb d_Mo_pieceRow_121 (by decide) ?_
                    refine e_iadd (v := nI (29 * v_54 + 3)) hx hb d_Mo_pieceRow_122 (nI_add (29 * v_54) 3) ?_
                    refine lv_aload_n hx hb d_Mo_pieceRow_123 rfl (lv_at hl 0 rfl) ?_
                    refine v_call (va_runV (As := []) (rest := [.int (nI (29 * v_54 + 3)), .ref np]) ⟨hx, hb, hml, hown, hts⟩ (c_Mo_here l G lo _ _ m mt u0 u3 u4 u5 u6 u7 u8 (.ref np) u10 u11 u12 (.int ((-1))) u15 u16 u17 u18 u19 u20 g t n q_63 (nd_sub hn [0, 1] (by decide) rfl) hT h4 (by omega)) (kwV 0 hts w_co_Mo_here rfl rfl w_it_Mo w_ml_Mo_64 w_im_Mo_here w_se_Mo__Mo_here (by decide +kernel) ⟨(Nat.le_of_ble_eq_true rfl), (Nat.le_of_ble_eq_true rfl)⟩) (u_preV hK hV hn [0, 1] rfl hz 0 rfl rfl) rfl rfl hl.1 rfl (lv_room (Nat.le_of_ble_eq_true rfl)) d_Mo_pieceRow_124 ⟨(Nat.le_of_ble_eq_true rfl), (Nat.le_of_ble_eq_true rfl)⟩) hV (fun r9 V9 H locs hp hV hle => ?_)
                    obtain ⟨rfl, rfl, hz⟩ := hp
                    replace hV := uu_same hV hn [0, 1] rfl
                    have hV : vS G.1 cls lo s H locs (vU V [(m, eO 8 [u0, .int (nI n), .ref mt, u3, u4, u5, u6, u7, u8, .ref np, u10, u11, u12, .int (nI q_63), .int ((-1)), u15, u16, u17, u18, u19, u20]), (mt, eI (gI G) 400 g), (np, eI (gI G) 1769 (rowU F v_54 (upd (upd (upd (fun _ => 0) 0 1) 19 ((-1))) 1 (nI v_60))))]) := hV
                    refine W.eq (g2 := F0 mi 127 ls [.int (rK t n q_63), .int (nI (29 * v_54 + 3)), .ref np]) rfl ?_
                    refine W.eq (g2 := F0 mi 127 ls [.int (nI (t q_63)), .int (nI (29 * v_54 + 3)), .ref np]) (by rw [rK_in l_64] <;> rfl) ?_
                    refine lv_bipush (v := 62) hx hb d_Mo_pieceRow_127 (by decide) ?_
                    refine lv_icmp_ne (tgt := 136) hx hb d_Mo_pieceRow_129 (by decide) (fun c_68 => absurd ((nI_eq (a := t q_63) (b := 62) (by omega) (by omega)).mpr (by omega)) c_68) (fun _ => ?_)
                    refine lv_iconst (v := 1) hx hb d_Mo_pieceRow_132 (by decide) ?_
                    refine lv_goto (tgt := 137) hx hb d_Mo_pieceRow_133 (by decide) ?_
                    refine u_iastN hx hb hK hV hn 2 rfl (by omega) (by decide) d_Mo_pieceRow_137 (fun H locs hV hz9 => ?_)
                    have hV : vS G.1 cls lo s H locs (vU V [(m, eO 8 [u0, .int (nI n), .ref mt, u3, u4, u5, u6, u7, u8, .ref np, u10, u11, u12, .int (nI q_63), .int ((-1)), u15, u16, u17, u18, u19, u20]), (mt, eI (gI G) 400 g), (np, eI (gI G) 1769 (upd (rowU F v_54 (upd (upd (upd (fun _ => 0) 0 1) 19 ((-1))) 1 (nI v_60))) (29 * v_54 + 3) 1))]) := hV
                    replace hz := hz9.trans hz
                    rw [rowU_up (k := 3) rfl (by decide)] at hV
                    exact g138 v_54 v_60 true _ q_63 (by omega) (by omega) (by omega) (by omega) (by simp [upd]) (by simp [upd]) (pieceR_tl hx_54 hx_58 hx_60 (sgn1 hq_63 (by omega) (by omega)) (decide_eq_true (by rw [hq_63]; omega))) H locs ls hz hV (lv_sub hl [0, 2] rfl)
                  · replace c_67 : ¬ t q_63 = 62 := fun z9 => c_67 ((nI_eq (a := t q_63) (b := 62) (by omega) (by omega)).mpr z9)
                    have hX : semi t n (pieceR t n q) = .inl q_63 := by simp only [semi, pieceR, nodesR, hx_54, hx_58, hx_60, sgn3 hq_63 (show ¬ (q_63 < n ∧ (t q_63 = 62 ∨ t q_63 = 45)) by omega), sbd_l, sbd_r]
                    refine lv_aload_n hx hb d_Mo_pieceRow_108 rfl (lv_at hl 0 rfl) ?_
                    refine lv_aload_n hx hb d_Mo_pieceRow_109 rfl (lv_at hl 0 rfl) ?_
                    refine u_get hx hb hts inMo hown hK hV hn 0 rfl rfl 13 (by decide) w_fl_Mo_61 rfl rfl d_Mo_pieceRow_110 ?_
                    refine v_call (va_runV (As := [.int (nI q_63)]) (rest := []) ⟨hx, hb, hml, hown, hts⟩ (c_Mo_fail l G lo _ _ m u0 (.int (nI n)) (.ref mt) u3 u4 u5 u6 u7 u8 (.ref np) u10 u11 u12 (.int (nI q_63)) u15 u16 u17 u18 u19 u20 (by simp) (nI q_63)) (kwV 1 hts w_co_Mo_fail rfl rfl w_it_Mo w_ml_Mo_74 w_im_Mo_fail w_se_Mo__Mo_fail (by decide +kernel) ⟨(Nat.le_of_ble_eq_true rfl), (Nat.le_of_ble_eq_true rfl)⟩) (u_preV hK hV hn [0] rfl hz 0 rfl rfl) rfl rfl hl.1 rfl (lv_room (Nat.le_of_ble_eq_true rfl)) d_Mo_pieceRow_113 ⟨(Nat.le_of_ble_eq_true rfl), (Nat.le_of_ble_eq_true rfl)⟩) hV (fun r9 V9 H locs hp hV hle => ?_)
                    obtain ⟨rfl, rfl, hz⟩ := hp
                    replace hV := u_back hV hn [0] rfl
                    have hV : vS G.1 cls lo s H locs (vU V [(m, eO 8 [u0, .int (nI n), .ref mt, u3, u4, u5, u6, u7, u8, .ref np, u10, u11, u12, .int (nI q_63), .int (nI q_63), u15, u16, u17, u18, u19, u20]), (mt, eI (gI G) 400 g), (np, eI (gI G) 1769 (rowU F v_54 (upd (upd (upd (fun _ => 0) 0 1) 19 ((-1))) 1 (nI v_60))))]) := hV
                    exact b116 v_54 q_63 q_63 (rowU F v_54 (upd (upd (upd (fun _ => 0) 0 1) 19 ((-1))) 1 (nI v_60))) (by omega) (by omega) (by omega) hX H locs ls hz hV (lv_sub hl [0, 2] rfl)
              · have hV : vS G.1 cls lo s H locs (vU V [(m, eO 8 [u0, .int (nI n), .ref mt, u3, u4, u5, u6, u7, u8, .ref np, u10, u11, u12, .int (nI q_63), .int ((-1)), u15, u16, u17, u18, u19, u20]), (mt, eI (gI G) 400 g), (np, eI (gI G) 1769 (rowU F v_54 (upd (upd (upd (fun _ => 0) 0 1) 19 ((-1))) 1 (nI v_60))))]) := hV
                refine W.eq (g2 := F0 mi 94 ls [.int ((-1))]) (by rw [hq_63, rK_out (by omega)]; rfl) ?_
                refine lv_bipush (v := 45) hx hb d_Mo_pieceRow_94 (by decide) ?_
                refine lv_icmp_eq (tgt := 116) hx hb d_Mo_pieceRow_96 (by decide) (fun c_69 => absurd c_69 (by decide)) (fun _ => ?_)
                refine lv_aload_n hx hb d_Mo_pieceRow_99 rfl (lv_at hl 0 rfl) ?_
                refine v_call (va_runV (As := []) (rest := []) ⟨hx, hb, hml, hown, hts⟩ (c_Mo_here l G lo _ _ m mt u0 u3 u4 u5 u6 u7 u8 (.ref np) u10 u11 u12 (.int ((-1))) u15 u16 u17 u18 u19 u20 g t n q_63 (nd_sub hn [0, 1] (by decide) rfl) hT h4 (by omega)) (kwV 0 hts w_co_Mo_here rfl rfl w_it_Mo w_ml_Mo_64 w_im_Mo_here w_se_Mo__Mo_here (by decide +kernel) ⟨(Nat.le_of_ble_eq_true rfl), (Nat.le_of_ble_eq_true rfl)⟩) (u_preV hK hV hn [0, 1] rfl hz 0 rfl rfl) rfl rfl hl.1 rfl (lv_room (Nat.le_of_ble_eq_true rfl)) d_Mo_pieceRow_100 ⟨(Nat.le_of_ble_eq_true rfl), (Nat.le_of_ble_eq_true rfl)⟩) hV (fun r9 V9 H locs hp hV hle => ?_)
                obtain ⟨rfl, rfl, hz⟩ := hp
                replace hV := uu_same hV hn [0, 1] rfl
                have hV : vS G.1 cls lo s H locs (vU V [(m, eO 8 [u0, .int (nI n), .ref mt, u3, u4, u5, u6, u7, u8, .ref np, u10, u11, u12, .int (nI q_63), .int ((-1)), u15, u16, u17, u18, u19, u20]), (mt, eI (gI G) 400 g), (np, eI (gI G) 1769 (rowU F v_54 (upd (upd (upd (fun _ => 0) 0 1) 19 ((-1))) 1 (nI v_60))))]) := hV
                refine W.eq (g2 := F0 mi 103 ls [.int (rK t n q_63)]) rfl ?_
                refine W.eq (g2 := F0 mi 103 ls [.int ((-1))]) (by rw [rK_out (by omega)] <;> rfl) ?_
                refine lv_bipush (v := 62) hx hb d_Mo_pieceRow_103 (by decide) ?_
                refine lv_icmp_eq (tgt := 116) hx hb d_Mo_pieceRow_105 (by decide) (fun c_70 => absurd c_70 (by decide)) (fun _ => ?_)
                have hX : semi t n (pieceR t n q) = .inl q_63 := by simp only [semi, pieceR, nodesR, hx_54, hx_58, hx_60, sgn3 hq_63 (show ¬ (q_63 < n ∧ (t q_63 = 62 ∨ t q_63 = 45)) by omega), sbd_l, sbd_r]
                refine lv_aload_n hx hb d_Mo_pieceRow_108 rfl (lv_at hl 0 rfl) ?_
                refine lv_aload_n hx hb d_Mo_pieceRow_109 rfl (lv_at hl 0 rfl) ?_
                refine u_get hx hb hts inMo hown hK hV hn 0 rfl rfl 13 (by decide) w_fl_Mo_61 rfl rfl d_Mo_pieceRow_110 ?_
                refine v_call (va_runV (As := [.int (nI q_63)]) (rest := []) ⟨hx, hb, hml, hown, hts⟩ (c_Mo_fail l G lo _ _ m u0 (.int (nI n)) (.ref mt) u3 u4 u5 u6 u7 u8 (.ref np) u10 u11 u12 (.int (nI q_63)) u15 u16 u17 u18 u19 u20 (by simp) (nI q_63)) (kwV 1 hts w_co_Mo_fail rfl rfl w_it_Mo w_ml_Mo_74 w_im_Mo_fail w_se_Mo__Mo_fail (by decide +kernel) ⟨(Nat.le_of_ble_eq_true rfl), (Nat.le_of_ble_eq_true rfl)⟩) (u_preV hK hV hn [0] rfl hz 0 rfl rfl) rfl rfl hl.1 rfl (lv_room (Nat.le_of_ble_eq_true rfl)) d_Mo_pieceRow_113 ⟨(Nat.le_of_ble_eq_true rfl), (Nat.le_of_ble_eq_true rfl)⟩) hV (fun r9 V9 H locs hp hV hle => ?_)
                obtain ⟨rfl, rfl, hz⟩ := hp
                replace hV := u_back hV hn [0] rfl
                have hV : vS G.1 cls lo s H locs (vU V [(m, eO 8 [u0, .int (nI n), .ref mt, u3, u4, u5, u6, u7, u8, .ref np, u10, u11, u12, .int (nI q_63), .int (nI q_63), u15, u16, u17, u18, u19, u20]), (mt, eI (gI G) 400 g), (np, eI (gI G) 1769 (rowU F v_54 (upd (upd (upd (fun _ => 0) 0 1) 19 ((-1))) 1 (nI v_60))))]) := hV
                exact b116 v_54 q_63 q_63 (rowU F v_54 (upd (upd (upd (fun _ => 0) 0 1) 19 ((-1))) 1 (nI v_60))) (by omega) (by omega) (by omega) hX H locs ls hz hV (lv_sub hl [0, 2] rfl)
        · replace c_57 : ¬ 29 ≤ k3 := fun z9 => c_57 ((nI_leI (a := 29) (b := k3) (by omega) (by omega)).mpr z9)
          refine lv_aload_n hx hb d_Mo_pieceRow_21 rfl (lv_at hl 0 rfl) ?_
          refine u_get hx hb hts inMo hown hK hV hn 0 rfl rfl 14 (by decide) w_fl_Mo_68 rfl rfl d_Mo_pieceRow_22 ?_
          refine lv_if_ge (tgt := 43) hx hb d_Mo_pieceRow_25 (by decide) (fun c_71 => absurd c_71 (by decide)) (fun _ => ?_)
          refine lv_aload_n hx hb d_Mo_pieceRow_28 rfl (lv_at hl 0 rfl) ?_
          refine u_get hx hb hts inMo hown hK hV hn 0 rfl rfl 9 (by decide) w_fl_Mo_29 rfl rfl d_Mo_pieceRow_29 ?_
          refine lv_iload_n hx hb d_Mo_pieceRow_32 rfl (lv_at hl 2 rfl) ?_
          refine lv_iload_n hx hb d_Mo_pieceRow_33 rfl (lv_at hl 3 rfl) ?_
          refine e_iadd (v := nI (29 * v_54 + k3)) hx hb d_Mo_pieceRow_34 (nI_add (29 * v_54) k3) ?_
          refine lv_iconst (v := 0) hx hb d_Mo_pieceRow_35 (by decide) ?_
          refine u_iastN hx hb hK hV hn 2 rfl (by omega) (by decide) d_Mo_pieceRow_36 (fun H locs hV hz9 => ?_)
          have hV : vS G.1 cls lo s H locs (vU V [(m, eO 8 [u0, .int (nI n), .ref mt, u3, u4, u5, u6, u7, u8, .ref np, u10, u11, u12, .int (nI q_54), .int ((-1)), u15, u16, u17, u18, u19, u20]), (mt, eI (gI G) 400 g), (np, eI (gI G) 1769 (upd (rowZ F v_54 k3) (29 * v_54 + k3) 0))]) := hV
          replace hz := hz9.trans hz
          rw [rowZ_up] at hV
          refine lv_iinc (v := nI (k3 + 1)) (lv' := [(3, .int (nI (k3 + 1))), (0, .ref m), (1, .int (nI v_54)), (2, .int (nI (29 * v_54)))]) hx hb d_Mo_pieceRow_37 hl (k := 3) rfl (nI_add k3 1) (by decide) rfl (fun ls hl => ?_)
          refine lv_goto (tgt := 15) hx hb d_Mo_pieceRow_40 (by decide) ?_
          exact ih (k3 + 1) (by omega) (by omega) H locs ls hz hV (lv_sub hl [1, 2, 3, 0] rfl)
    have hV : vS G.1 cls lo s H locs (vU V [(m, eO 8 [u0, .int (nI n), .ref mt, u3, u4, u5, u6, u7, u8, .ref np, u10, u11, u12, .int (nI q_54), .int ((-1)), u15, u16, u17, u18, u19, u20]), (mt, eI (gI G) 400 g), (np, eI (gI G) 1769 (rowZ F v_54 0))]) := by rw [rowZ_0]; exact hV
    exact zl 30 0 (by decide) (by decide) H locs ls hz hV (lv_sub hl [3, 2, 1, 0] rfl)
