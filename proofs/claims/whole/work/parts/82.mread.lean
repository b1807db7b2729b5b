/-! THE REFERENCE READS -/
def rdA (A : TnA) : Sum Nat TnA → TnA
  | .inl _ => A
  | .inr A2 => A2
def vaT : Sum Nat TnA → Int32
  | .inl _ => 0
  | .inr A2 => nI (cnt (fun j => (A2.1 j).isSome) 60)
def cpT (f g : Nat → Int32) (k : Nat) : Nat → Int32 := fun i => if i < k then g i else f i
theorem cpT_0 (f g : Nat → Int32) : cpT f g 0 = f := by
  funext i
  exact if_neg (by omega)
theorem cpT_up (f g : Nat → Int32) (k : Nat) : upd (cpT f g k) k (g k) = cpT f g (k + 1) := by
  funext i
  by_cases h : i = k
  · subst h
    rw [upd_same]
    exact (if_pos (by omega)).symm
  · rw [upd_ne _ _ h]
    unfold cpT
    by_cases h2 : i < k
    · rw [if_pos h2, if_pos (by omega)]
    · rw [if_neg h2, if_neg (by omega)]
theorem mpA_ext {F F2 : Nat → Int32} {Q : Nat → Option PcR} (h : mpA F Q) (he : ∀ i, i < 1769 → F2 i = F i) : mpA F2 Q := by
  intro j h1 h2
  rcases h j h1 h2 with ⟨g1, g2⟩ | ⟨R, g1, g2, g3⟩
  · exact Or.inl ⟨(he _ (by omega)).trans g1, g2⟩
  · refine Or.inr ⟨R, g1, ?_, g3⟩
    obtain ⟨r0, r1, r2, r3, r4, r5, r6, r7, rh, r17, r18, r19, r20, rl⟩ := g2
    have h3 := g3.2.2.1.1
    have h8 := nm_len g3.2.2.2.2
    refine ⟨(he _ (by omega)).trans r0, (he _ (by omega)).trans r1, (he _ (by omega)).trans r2, (he _ (by omega)).trans r3, (he _ (by omega)).trans r4, (he _ (by omega)).trans r5, (he _ (by omega)).trans r6, (he _ (by omega)).trans r7, fun i hi => ?_, (he _ (by omega)).trans r17, (he _ (by omega)).trans r18, (he _ (by omega)).trans r19, (he _ (by omega)).trans r20, fun i hi => (he _ (by omega)).trans (rl i hi)⟩
    have := rh i hi
    exact ⟨(he _ (by omega)).trans this.1, (he _ (by omega)).trans this.2.1, (he _ (by omega)).trans this.2.2⟩
theorem spOk_ext {f g f2 g2 : Nat → Int32} {B : Nat → Option (Nat × Nat)} (h : spOk f g B) (h1 : ∀ i, 1 ≤ i → i ≤ 30 → f2 i = f i) (h2 : ∀ i, 1 ≤ i → i ≤ 30 → g2 i = g i) : spOk f2 g2 B := by
  intro j a b
  rw [h1 j a b, h2 j a b]
  exact h j a b
theorem msA_ext {s a s2 a2 : Nat → Int32} {B S : Nat → Option (Nat × Nat)} (h : msA s a B S) (h1 : ∀ i, i < 62 → s2 i = s i) (h2 : ∀ i, i < 62 → a2 i = a i) : msA s2 a2 B S :=
  ⟨spOk_ext h.1 (fun i _ _ => h1 i (by omega)) (fun i _ _ => h2 i (by omega)), spOk_ext h.2.1 (fun i _ _ => h1 _ (by omega)) (fun i _ _ => h2 _ (by omega)), (h1 31 (by decide)).trans h.2.2⟩
theorem cpT_in {f g : Nat → Int32} {k i : Nat} (h : i < k) : cpT f g k i = g i := if_pos h
theorem mpA_cp {f F : Nat → Int32} {Q : Nat → Option PcR} (h : mpA F Q) : mpA (cpT f F 1769) Q := mpA_ext h (fun _ hi => cpT_in hi)
theorem msA_cp {f g s a : Nat → Int32} {B S : Nat → Option (Nat × Nat)} (h : msA s a B S) : msA (cpT f s 62) (cpT g a 62) B S := msA_ext h (fun _ hi => cpT_in hi) (fun _ hi => cpT_in hi)
theorem mbA_ext {b b2 : Nat → Int32} {L : List Tri} (h : mbA b L) (he : ∀ i, i < 3 * L.length → b2 i = b i) : mbA b2 L := by
  intro i hi
  rw [he _ (by omega), he _ (by omega), he _ (by omega)]
  exact h i hi
theorem msA_putB {s a : Nat → Int32} {B S : Nat → Option (Nat × Nat)} {i x y : Nat} (h : msA s a B S) (h1 : 1 ≤ i) (h2 : i ≤ 30) (hx1 : 1 ≤ x) (hx2 : x ≤ 60) (hy : y ≤ 9999) : msA (upd s (0 + i) (nI x)) (upd a (0 + i) (nI y)) (va_up B i (some (x, y))) S := by
  rw [Nat.zero_add]
  refine ⟨spOk_put h.1 hx1 hx2 hy, spOk_ext h.2.1 (fun k _ _ => upd_ne _ _ (by omega)) (fun k _ _ => upd_ne _ _ (by omega)), (upd_ne _ _ (by omega)).trans h.2.2⟩
theorem upd_sh (f : Nat → Int32) (i : Nat) (v : Int32) : (fun j => upd f (31 + i) v (31 + j)) = upd (fun j => f (31 + j)) i v := by
  funext j
  by_cases h : j = i
  · subst h
    rw [upd_same, upd_same]
  · rw [upd_ne _ _ h, upd_ne _ _ (by omega)]
theorem msA_putS {s a : Nat → Int32} {B S : Nat → Option (Nat × Nat)} {i x y : Nat} (h : msA s a B S) (h1 : 1 ≤ i) (h2 : i ≤ 30) (hx1 : 1 ≤ x) (hx2 : x ≤ 60) (hy : y ≤ 9999) : msA (upd s (31 + i) (nI x)) (upd a (31 + i) (nI y)) B (va_up S i (some (x, y))) := by
  refine ⟨spOk_ext h.1 (fun k _ _ => upd_ne _ _ (by omega)) (fun k _ _ => upd_ne _ _ (by omega)), ?_, (upd_ne _ _ (by omega)).trans h.2.2⟩
  rw [upd_sh, upd_sh]
  exact spOk_put h.2.1 hx1 hx2 hy
theorem spOk_g0 {fp fm : Nat → Int32} {B : Nat → Option (Nat × Nat)} (h : spOk fp fm B) {i : Nat} : spOk (upd fp i 0) fm (va_up B i none) := by
  intro j h1 h2
  by_cases he : j = i
  · subst he
    exact Or.inl ⟨upd_same _ _ _, by simp [va_up]⟩
  · rw [upd_ne _ _ he]
    have := h j h1 h2
    simpa [va_up, he] using this
theorem msA_goneB {s a : Nat → Int32} {B S : Nat → Option (Nat × Nat)} {i : Nat} (h : msA s a B S) (h1 : 1 ≤ i) (h2 : i ≤ 30) : msA (upd s i 0) a (va_up B i none) S :=
  ⟨spOk_g0 h.1, spOk_ext h.2.1 (fun k _ _ => upd_ne _ _ (by omega)) (fun k _ _ => rfl), (upd_ne _ _ (by omega)).trans h.2.2⟩
theorem msA_goneS {s a : Nat → Int32} {B S : Nat → Option (Nat × Nat)} {i : Nat} (h : msA s a B S) (h1 : 1 ≤ i) (h2 : i ≤ 30) : msA (upd s (31 + i) 0) a B (va_up S i none) := by
  refine ⟨spOk_ext h.1 (fun k _ _ => upd_ne _ _ (by omega)) (fun k _ _ => rfl), ?_, (upd_ne _ _ (by omega)).trans h.2.2⟩
  rw [upd_sh]
  exact spOk_g0 h.2.1
theorem mpA_gone {F : Nat → Int32} {Q : Nat → Option PcR} {j : Nat} (h : mpA F Q) : mpA (upd F (29 * j) 0) (va_up Q j none) := by
  intro i h1 h2
  by_cases he : i = j
  · subst he
    exact Or.inl ⟨upd_same _ _ _, by simp [va_up]⟩
  · have o : ∀ k, k < 29 → upd F (29 * j) 0 (29 * i + k) = F (29 * i + k) := fun k hk => upd_ne _ _ (by omega)
    rcases h i h1 h2 with ⟨g1, g2⟩ | ⟨R, g1, g2, g3⟩
    · exact Or.inl ⟨(o 0 (by decide)).trans g1, by simpa [va_up, he] using g2⟩
    · refine Or.inr ⟨R, by simpa [va_up, he] using g1, ?_, g3⟩
      obtain ⟨r0, r1, r2, r3, r4, r5, r6, r7, rh, r17, r18, r19, r20, rl⟩ := g2
      have h3 := g3.2.2.1.1
      have h8 := nm_len g3.2.2.2.2
      refine ⟨(o 0 (by decide)).trans r0, (o _ (by decide)).trans r1, (o _ (by decide)).trans r2, (o _ (by decide)).trans r3, (o _ (by decide)).trans r4, (o _ (by decide)).trans r5, (o _ (by decide)).trans r6, (o _ (by decide)).trans r7, fun i hi => ?_, (o _ (by decide)).trans r17, (o _ (by decide)).trans r18, (o _ (by decide)).trans r19, (o _ (by decide)).trans r20, fun i hi => (upd_ne _ _ (by omega)).trans (rl i hi)⟩
      have := rh i hi
      exact ⟨(upd_ne _ _ (by omega)).trans this.1, (upd_ne _ _ (by omega)).trans this.2.1, (upd_ne _ _ (by omega)).trans this.2.2⟩
theorem semi_r {α : Type} {t : Nat → Nat} {n : Nat} {X : Sum Nat (α × Nat)} {z : α × Nat} (h : semi t n X = .inr z) : ∃ r, X = .inr (z.1, r) ∧ tk t n 59 r = .inr z.2 := by
  unfold semi at h
  rcases X with e | ⟨x, r⟩
  · cases h
  · rw [sbd_r] at h
    rcases h2 : tk t n 59 r with e | r2
    · rw [h2] at h; cases h
    · rw [h2] at h; cases h; exact ⟨r, rfl, h2⟩
theorem semi_l {α : Type} {t : Nat → Nat} {n e : Nat} {X : Sum Nat (α × Nat)} (h : semi t n X = .inl e) : X = .inl e ∨ ∃ z, X = .inr z ∧ tk t n 59 z.2 = .inl e := by
  unfold semi at h
  rcases X with e | ⟨x, r⟩
  · cases h; exact Or.inl rfl
  · rw [sbd_r] at h
    rcases h2 : tk t n 59 r with e | r2
    · rw [h2] at h; cases h; exact Or.inr ⟨(x, r), rfl, h2⟩
    · rw [h2] at h; cases h
theorem rows_sl {α : Type} {t : Nat → Nat} {n k q q1 e : Nat} {A : TnA} {X : Sum Nat (α × Nat)} {c : α → RowE} (hk : 1 ≤ k) (hq : sk t n q = q1) (h : q1 < n) (hr : rowR t n q1 = sbd X fun z => .inr (c z.1, z.2)) (hs : semi t n X = .inl e) : rowsR t n k A q = .inl e ∧ e ≤ n := by
  have hb := rowR_ok (t := t) (p := q1) (Nat.le_of_lt h)
  rcases semi_l hs with rfl | ⟨⟨x, r⟩, rfl, h2⟩
  · rw [hr] at hb
    exact ⟨rows_bad hk hq h hr, hb⟩
  · rw [hr] at hb
    exact ⟨rows_semi hk hq h hr h2, by rcases tk_er2 h2 with h3 | h3; exact h3; rw [h3]; exact hb.2⟩
theorem rows_sr {α : Type} {t : Nat → Nat} {n k q q1 : Nat} {A : TnA} {X : Sum Nat (α × Nat)} {c : α → RowE} {z : α × Nat} (hk : 1 ≤ k) (hq : sk t n q = q1) (h : q1 < n) (hr : rowR t n q1 = sbd X fun z => .inr (c z.1, z.2)) (hs : semi t n X = .inr z) : rowsR t n k A q = rowsR t n (k - 1) (rowA A (c z.1)) z.2 ∧ q1 < z.2 ∧ z.2 ≤ n := by
  have hb := rowR_ok (t := t) (p := q1) (Nat.le_of_lt h)
  obtain ⟨r, rfl, h2⟩ := semi_r hs
  rw [hr] at hb
  have hb2 : q1 < r ∧ r ≤ n := hb
  have := tk_ok h2
  exact ⟨rows_go hk hq h hr h2, by omega, by omega⟩
theorem row_c {t : Nat → Nat} {n q q1 : Nat} (hq : sk t n q = q1) : sk t n q1 = q1 := by rw [← hq]; exact sk_sk t n q
theorem row_112 {t : Nat → Nat} {n q q1 : Nat} (hq : sk t n q = q1) (h : q1 < n) (hc : t q1 = 112) : rowR t n q1 = sbd (pieceR t n (q1 + 1)) fun z => .inr ((fun y => (.inl y : RowE)) z.1, z.2) := by
  unfold rowR
  rw [row_c hq, if_pos h, if_pos hc]
theorem row_120 {t : Nat → Nat} {n q q1 : Nat} (hq : sk t n q = q1) (h : q1 < n) (hc : t q1 = 120) : rowR t n q1 = sbd (turnR t n (q1 + 1)) fun z => .inr ((fun y => (.inr (.inl y) : RowE)) z.1, z.2) := by
  unfold rowR
  rw [row_c hq, if_pos h, if_neg (by omega), if_pos hc]
theorem row_104 {t : Nat → Nat} {n q q1 : Nat} (hq : sk t n q = q1) (h : q1 < n) (hc : t q1 = 104) : rowR t n q1 = sbd (spotR t n (q1 + 1)) fun z => .inr ((fun y => (.inr (.inr (.inl y)) : RowE)) z.1, z.2) := by
  unfold rowR
  rw [row_c hq, if_pos h, if_neg (by omega), if_neg (by omega), if_pos hc]
theorem row_115 {t : Nat → Nat} {n q q1 : Nat} (hq : sk t n q = q1) (h : q1 < n) (hc : t q1 = 115) : rowR t n q1 = sbd (spotR t n (q1 + 1)) fun z => .inr ((fun y => (.inr (.inr (.inr (.inl y))) : RowE)) z.1, z.2) := by
  unfold rowR
  rw [row_c hq, if_pos h, if_neg (by omega), if_neg (by omega), if_neg (by omega), if_pos hc]
theorem row_103 {t : Nat → Nat} {n q q1 : Nat} (hq : sk t n q = q1) (h : q1 < n) (hc : t q1 = 103) : rowR t n q1 = sbd (goneR t n (q1 + 1)) fun z => .inr ((fun y => (.inr (.inr (.inr (.inr y))) : RowE)) z.1, z.2) := by
  unfold rowR
  rw [row_c hq, if_pos h, if_neg (by omega), if_neg (by omega), if_neg (by omega), if_neg (by omega), if_pos hc]
theorem row_no {t : Nat → Nat} {n q q1 : Nat} (hq : sk t n q = q1) (h : q1 < n) (h1 : ¬ t q1 = 112) (h2 : ¬ t q1 = 120) (h3 : ¬ t q1 = 104) (h4 : ¬ t q1 = 115) (h5 : ¬ t q1 = 103) : rowR t n q1 = .inl q1 := by
  unfold rowR
  rw [row_c hq, if_pos h, if_neg h1, if_neg h2, if_neg h3, if_neg h4, if_neg h5]
theorem sem_piece {t : Nat → Nat} {n p : Nat} {z : (Nat × PcR) × Nat} (hp : p ≤ n) (h : semi t n (pieceR t n p) = .inr z) : pcV z.1.2 := by
  obtain ⟨r, e, -⟩ := semi_r h
  have := pieceR_ok (t := t) hp
  rw [e] at this
  exact this.2.2.2.2
theorem sem_turn {t : Nat → Nat} {n p : Nat} {z : Tri × Nat} (hp : p ≤ n) (h : semi t n (turnR t n p) = .inr z) : p + 6 ≤ z.2 := by
  obtain ⟨r, e, h2⟩ := semi_r h
  have := turnR_ok (t := t) hp
  rw [e] at this
  have := this.2.2.2.2.2
  have := tk_ok h2
  simp only [] at *
  omega
theorem sem_spot {t : Nat → Nat} {n p : Nat} {z : Tri × Nat} (hp : p ≤ n) (h : semi t n (spotR t n p) = .inr z) : 1 ≤ z.1.1 ∧ z.1.1 ≤ 30 ∧ 1 ≤ z.1.2.1 ∧ z.1.2.1 ≤ 60 ∧ z.1.2.2 ≤ 9999 := by
  obtain ⟨r, e, -⟩ := semi_r h
  have := spotR_ok (t := t) hp
  rw [e] at this
  exact this.2.2
theorem sem_gone {t : Nat → Nat} {n p : Nat} {z : (Nat × Nat) × Nat} (hp : p ≤ n) (h : semi t n (goneR t n p) = .inr z) : (z.1.1 = 112 ∨ z.1.1 = 104 ∨ z.1.1 = 115) ∧ 1 ≤ z.1.2 ∧ z.1.2 ≤ (if z.1.1 = 112 then 60 else 30) := by
  obtain ⟨r, e, -⟩ := semi_r h
  have := goneR_ok (t := t) hp
  rw [e] at this
  exact this.2.2
/-- the three arrays after a row that takes something away -/
theorem gone_all {F sp al F2 sp2 : Nat → Int32} {A : TnA} {z : (Nat × Nat) × Nat} (hM : mpA F A.1) (hS : msA sp al A.2.1 A.2.2.1) (hz : (z.1.1 = 112 ∨ z.1.1 = 104 ∨ z.1.1 = 115) ∧ 1 ≤ z.1.2 ∧ z.1.2 ≤ (if z.1.1 = 112 then 60 else 30)) (h1 : z.1.1 = 112 → F2 = upd F (29 * z.1.2) 0 ∧ sp2 = sp) (h2 : z.1.1 = 104 → F2 = F ∧ sp2 = upd sp z.1.2 0) (h3 : z.1.1 = 115 → F2 = F ∧ sp2 = upd sp (31 + z.1.2) 0) : mpA F2 (rowA A (.inr (.inr (.inr (.inr z.1))))).1 ∧ msA sp2 al (rowA A (.inr (.inr (.inr (.inr z.1))))).2.1 (rowA A (.inr (.inr (.inr (.inr z.1))))).2.2.1 ∧ (rowA A (.inr (.inr (.inr (.inr z.1))))).2.2.2 = A.2.2.2 := by
  obtain ⟨⟨a, b⟩, r⟩ := z
  simp only [] at hz h1 h2 h3 ⊢
  obtain ⟨hz, hb1, hb2⟩ := hz
  rcases hz with rfl | rfl | rfl
  · obtain ⟨rfl, rfl⟩ := h1 rfl
    exact ⟨mpA_gone hM, hS, rfl⟩
  · obtain ⟨rfl, rfl⟩ := h2 rfl
    exact ⟨hM, msA_goneB hS hb1 hb2, rfl⟩
  · obtain ⟨rfl, rfl⟩ := h3 rfl
    exact ⟨hM, msA_goneS hS hb1 hb2, rfl⟩

set_option maxHeartbeats 4000000 in
set_option maxRecDepth 100000 in
/-- read -/
theorem c_Mo_read (l : Launch) (G : Gx) (lo : Nat) (V : Vw) (sz : Nat) (m mt pa sa la ba np ns nl : Nat) (u15 u16 u17 u18 u19 u20 : Value) (th pl nb at0 wr : Value) (g P sp al b fN sN lN : Nat → Int32) (t : Nat → Nat) (n : Nat) (A0 : TnA) (hn : [m, mt, pa, sa, la, ba, np, ns, nl].Nodup) (hT : mtOk g t n) (h4 : n ≤ 400) (hM0 : mpA P A0.1) (hS0 : msA sp al A0.2.1 A0.2.2.1) (hB0 : mbA b A0.2.2.2) (hL0 : A0.2.2.2.length ≤ 20) : Met l y_Mo_read ws_Mo_read ({ frames := 5, cells := 0, slots := 0, locals := 150 } : Room) (vPre G lo [.ref m] (vU V [(m, eO 8 [th, .int (nI n), .ref mt, pl, .ref pa, .ref sa, .ref la, .int (nI A0.2.2.2.length), .ref ba, .ref np, .ref ns, .ref nl, nb, at0, wr, u15, u16, u17, u18, u19, u20]), (mt, eI (gI G) 400 g), (pa, eI (gI G) 1769 P), (sa, eI (gI G) 62 sp), (la, eI (gI G) 62 al), (ba, eI (gI G) 600 b), (np, eI (gI G) 1769 fN), (ns, eI (gI G) 62 sN), (nl, eI (gI G) 62 lN)]) sz) (vPost G lo (fun r V' k => r = some (.int (vaT (rdR t n A0))) ∧ (∃ (P2 sp2 al2 b2 F2 s2 l2 : Nat → Int32) (nb2 at2 wr2 : Value), V' = vU V [(m, eO 8 [.int (thI (rdR t n A0)), .int 0, .ref mt, .int (wI (txtR t n A0)), .ref pa, .ref sa, .ref la, .int (nI ((rdA A0 (rdR t n A0)).2.2.2.length)), .ref ba, .ref np, .ref ns, .ref nl, nb2, at2, wr2, u15, u16, u17, u18, u19, u20]), (mt, eI (gI G) 400 g), (pa, eI (gI G) 1769 P2), (sa, eI (gI G) 62 sp2), (la, eI (gI G) 62 al2), (ba, eI (gI G) 600 b2), (np, eI (gI G) 1769 F2), (ns, eI (gI G) 62 s2), (nl, eI (gI G) 62 l2)] ∧ mpA P2 (rdA A0 (rdR t n A0)).1 ∧ msA sp2 al2 (rdA A0 (rdR t n A0)).2.1 (rdA A0 (rdR t n A0)).2.2.1 ∧ mbA b2 (rdA A0 (rdR t n A0)).2.2.2) ∧ k = sz)) 0 0 (vL lo) := by
  refine vMet (R := RMo) (by decide) rfl (Nat.le_of_ble_eq_true rfl) ?_
  intro pg ev s mi args below meth cd hx hb hr hml hlk hnm hts hown hK hz hV ls hl
  have hl : lv_has ls 2 [(0, .ref m)] := hl
  have hV0 := hV
  obtain ⟨H, hH⟩ : ∃ H, H = s.heap := ⟨_, rfl⟩
  obtain ⟨locs, hlocs⟩ : ∃ locs : List Loc, locs = [] := ⟨_, rfl⟩
  rw [← hH, ← hlocs]
  rw [← hH] at hz
  replace hV : vS G.1 cls lo s H locs (vU V [(m, eO 8 [th, .int (nI n), .ref mt, pl, .ref pa, .ref sa, .ref la, .int (nI A0.2.2.2.length), .ref ba, .ref np, .ref ns, .ref nl, nb, at0, wr, u15, u16, u17, u18, u19, u20]), (mt, eI (gI G) 400 g), (pa, eI (gI G) 1769 P), (sa, eI (gI G) 62 sp), (la, eI (gI G) 62 al), (ba, eI (gI G) 600 b), (np, eI (gI G) 1769 fN), (ns, eI (gI G) 62 sN), (nl, eI (gI G) 62 lN)]) := by rw [hH, hlocs]; exact hV
  clear hH hlocs hV0
  have bad : ∀ (F s2 l2 b2 : Nat → Int32) (nb9 a e : Nat), (e ≤ 1000) → (∀ i, i < 3 * A0.2.2.2.length → b2 i = b i) → (txtR t n A0 = .inl e) → ∀ (H : Heap) (locs : List Loc) (ls : Array Slot), H.size = sz → vS G.1 cls lo s H locs (vU V [(m, eO 8 [th, .int (nI n), .ref mt, pl, .ref pa, .ref sa, .ref la, .int (nI A0.2.2.2.length), .ref ba, .ref np, .ref ns, .ref nl, .int (nI nb9), .int (nI a), .int (nI e), u15, u16, u17, u18, u19, u20]), (mt, eI (gI G) 400 g), (pa, eI (gI G) 1769 P), (sa, eI (gI G) 62 sp), (la, eI (gI G) 62 al), (ba, eI (gI G) 600 b2), (np, eI (gI G) 1769 F), (ns, eI (gI G) 62 s2), (nl, eI (gI G) 62 l2)]) → lv_has ls 2 [(0, .ref m)] → W pg l ev ({ frames := 5, cells := 0, slots := 0, locals := 150 } : Room) s mi args below meth cd H locs 0 0 (MQ below (vPost G lo (fun r V' k => r = some (.int (vaT (rdR t n A0))) ∧ (∃ (P2 sp2 al2 b2 F2 s2 l2 : Nat → Int32) (nb2 at2 wr2 : Value), V' = vU V [(m, eO 8 [.int (thI (rdR t n A0)), .int 0, .ref mt, .int (wI (txtR t n A0)), .ref pa, .ref sa, .ref la, .int (nI ((rdA A0 (rdR t n A0)).2.2.2.length)), .ref ba, .ref np, .ref ns, .ref nl, nb2, at2, wr2, u15, u16, u17, u18, u19, u20]), (mt, eI (gI G) 400 g), (pa, eI (gI G) 1769 P2), (sa, eI (gI G) 62 sp2), (la, eI (gI G) 62 al2), (ba, eI (gI G) 600 b2), (np, eI (gI G) 1769 F2), (ns, eI (gI G) 62 s2), (nl, eI (gI G) 62 l2)] ∧ mpA P2 (rdA A0 (rdR t n A0)).1 ∧ msA sp2 al2 (rdA A0 (rdR t n A0)).2.1 (rdA A0 (rdR t n A0)).2.2.1 ∧ mbA b2 (rdA A0 (rdR t n A0)).2.2.2) ∧ k = sz)) args s 0 0 (vL lo)) (F0 mi 193 ls []) := by
    intro F s2 l2 b2 nb9 a e  he9 hb0 hE H locs ls hz hV hl
    have hX : rdR t n A0 = .inl 1 := by unfold rdR; rw [hE]
    refine lv_aload_n hx hb d_Mo_read_193 rfl (lv_at hl 0 rfl) ?_
    refine lv_iconst (v := 0) hx hb d_Mo_read_194 (by decide) ?_
    refine u_put hx hb hts inMo tyMo tyMo_ok nmMo hown hK hV hn 0 rfl rfl 1 (by decide) w_fl_Mo_58 rfl rfl rfl rfl (Nat.le_of_ble_eq_true rfl) d_Mo_read_195 (fun H locs hV hz9 => ?_)
    have hV : vS G.1 cls lo s H locs (vU V [(m, eO 8 [th, .int 0, .ref mt, pl, .ref pa, .ref sa, .ref la, .int (nI A0.2.2.2.length), .ref ba, .ref np, .ref ns, .ref nl, .int (nI nb9), .int (nI a), .int (nI e), u15, u16, u17, u18, u19, u20]), (mt, eI (gI G) 400 g), (pa, eI (gI G) 1769 P), (sa, eI (gI G) 62 sp), (la, eI (gI G) 62 al), (ba, eI (gI G) 600 b2), (np, eI (gI G) 1769 F), (ns, eI (gI G) 62 s2), (nl, eI (gI G) 62 l2)]) := hV
    replace hz := hz9.trans hz
    refine lv_aload_n hx hb d_Mo_read_198 rfl (lv_at hl 0 rfl) ?_
    refine lv_aload_n hx hb d_Mo_read_199 rfl (lv_at hl 0 rfl) ?_
    refine u_get hx hb hts inMo hown hK hV hn 0 rfl rfl 14 (by decide) w_fl_Mo_68 rfl rfl d_Mo_read_200 ?_
    refine u_put hx hb hts inMo tyMo tyMo_ok nmMo hown hK hV hn 0 rfl rfl 3 (by decide) w_fl_Mo_13 rfl rfl rfl rfl (Nat.le_of_ble_eq_true rfl) d_Mo_read_203 (fun H locs hV hz9 => ?_)
    have hV : vS G.1 cls lo s H locs (vU V [(m, eO 8 [th, .int 0, .ref mt, .int (nI e), .ref pa, .ref sa, .ref la, .int (nI A0.2.2.2.length), .ref ba, .ref np, .ref ns, .ref nl, .int (nI nb9), .int (nI a), .int (nI e), u15, u16, u17, u18, u19, u20]), (mt, eI (gI G) 400 g), (pa, eI (gI G) 1769 P), (sa, eI (gI G) 62 sp), (la, eI (gI G) 62 al), (ba, eI (gI G) 600 b2), (np, eI (gI G) 1769 F), (ns, eI (gI G) 62 s2), (nl, eI (gI G) 62 l2)]) := hV
    replace hz := hz9.trans hz
    refine lv_aload_n hx hb d_Mo_read_206 rfl (lv_at hl 0 rfl) ?_
    refine lv_aload_n hx hb d_Mo_read_207 rfl (lv_at hl 0 rfl) ?_
    refine u_get hx hb hts inMo hown hK hV hn 0 rfl rfl 14 (by decide) w_fl_Mo_68 rfl rfl d_Mo_read_208 ?_
    refine lv_if_lt (tgt := 218) hx hb d_Mo_read_211 (by decide) (fun c_1 => absurd c_1 (nI_nlt0 (by omega))) (fun c_1 => ?_)
    replace c_1 : ¬ e < 0 := fun z9 => c_1 ((nI_ltI (a := e) (b := 0) (by omega) (by omega)).mpr z9)
    refine lv_iconst (v := 1) hx hb d_Mo_read_214 (by decide) ?_
    refine lv_goto (tgt := 232) hx hb d_Mo_read_215 (by decide) ?_
    refine u_put hx hb hts inMo tyMo tyMo_ok nmMo hown hK hV hn 0 rfl rfl 0 (by decide) w_fl_Mo_51 rfl rfl rfl rfl (Nat.le_of_ble_eq_true rfl) d_Mo_read_232 (fun H locs hV hz9 => ?_)
    have hV : vS G.1 cls lo s H locs (vU V [(m, eO 8 [.int 1, .int 0, .ref mt, .int (nI e), .ref pa, .ref sa, .ref la, .int (nI A0.2.2.2.length), .ref ba, .ref np, .ref ns, .ref nl, .int (nI nb9), .int (nI a), .int (nI e), u15, u16, u17, u18, u19, u20]), (mt, eI (gI G) 400 g), (pa, eI (gI G) 1769 P), (sa, eI (gI G) 62 sp), (la, eI (gI G) 62 al), (ba, eI (gI G) 600 b2), (np, eI (gI G) 1769 F), (ns, eI (gI G) 62 s2), (nl, eI (gI G) 62 l2)]) := hV
    replace hz := hz9.trans hz
    refine lv_aload_n hx hb d_Mo_read_235 rfl (lv_at hl 0 rfl) ?_
    refine u_get hx hb hts inMo hown hK hV hn 0 rfl rfl 0 (by decide) w_fl_Mo_51 rfl rfl d_Mo_read_236 ?_
    refine lv_if_le (tgt := 244) hx hb d_Mo_read_239 (by decide) (fun c_2 => absurd c_2 (by decide)) (fun _ => ?_)
    refine lv_iconst (v := 0) hx hb d_Mo_read_242 (by decide) ?_
    exact W.iret (v := 0) hx hb hr (v_end hV ⟨by rw [hX]; rfl, ⟨_, _, _, _, _, _, _, _, _, _, by rw [hX, hE]; rfl, by rw [hX]; exact hM0, by rw [hX]; exact hS0, by rw [hX]; exact (mbA_ext hB0 hb0)⟩, hz⟩) hV.2.1.2.2 d_Mo_read_243
  have e2 : ∀ (k : Nat) (F s2 l2 b2 : Nat → Int32) (A : TnA) (a : Nat) (i : Nat), 62 - i < k → (i ≤ 62) → (mpA F A.1) → (msA s2 l2 A.2.1 A.2.2.1) → (mbA b2 A.2.2.2) → (rdR t n A0 = .inr A) → (txtR t n A0 = .inr A) → ∀ (H : Heap) (locs : List Loc) (ls : Array Slot), H.size = sz → vS G.1 cls lo s H locs (vU V [(m, eO 8 [.int 0, .int 0, .ref mt, .int ((-1)), .ref pa, .ref sa, .ref la, .int (nI A0.2.2.2.length), .ref ba, .ref np, .ref ns, .ref nl, .int (nI A.2.2.2.length), .int (nI a), .int ((-1)), u15, u16, u17, u18, u19, u20]), (mt, eI (gI G) 400 g), (pa, eI (gI G) 1769 (cpT P F 1769)), (sa, eI (gI G) 62 (cpT sp s2 i)), (la, eI (gI G) 62 (cpT al l2 i)), (ba, eI (gI G) 600 b2), (np, eI (gI G) 1769 F), (ns, eI (gI G) 62 s2), (nl, eI (gI G) 62 l2)]) → lv_has ls 2 [(0, .ref m), (1, .int (nI i))] → W pg l ev ({ frames := 5, cells := 0, slots := 0, locals := 150 } : Room) s mi args below meth cd H locs 0 0 (MQ below (vPost G lo (fun r V' k => r = some (.int (vaT (rdR t n A0))) ∧ (∃ (P2 sp2 al2 b2 F2 s2 l2 : Nat → Int32) (nb2 at2 wr2 : Value), V' = vU V [(m, eO 8 [.int (thI (rdR t n A0)), .int 0, .ref mt, .int (wI (txtR t n A0)), .ref pa, .ref sa, .ref la, .int (nI ((rdA A0 (rdR t n A0)).2.2.2.length)), .ref ba, .ref np, .ref ns, .ref nl, nb2, at2, wr2, u15, u16, u17, u18, u19, u20]), (mt, eI (gI G) 400 g), (pa, eI (gI G) 1769 P2), (sa, eI (gI G) 62 sp2), (la, eI (gI G) 62 al2), (ba, eI (gI G) 600 b2), (np, eI (gI G) 1769 F2), (ns, eI (gI G) 62 s2), (nl, eI (gI G) 62 l2)] ∧ mpA P2 (rdA A0 (rdR t n A0)).1 ∧ msA sp2 al2 (rdA A0 (rdR t n A0)).2.1 (rdA A0 (rdR t n A0)).2.2.1 ∧ mbA b2 (rdA A0 (rdR t n A0)).2.2.2) ∧ k = sz)) args s 0 0 (vL lo)) (F0 mi 273 ls []) := by
    intro k
    induction k with
    | zero => intro F s2 l2 b2 A a i hk; exact absurd hk (by omega)
    | succ k ih =>
      intro F s2 l2 b2 A a i hk hi hM hS hB hX hE H locs ls hz hV hl
      refine lv_iload_n hx hb d_Mo_read_273 rfl (lv_at hl 1 rfl) ?_
      refine lv_bipush (v := 62) hx hb d_Mo_read_274 (by decide) ?_
      refine lv_icmp_ge (tgt := 309) hx hb d_Mo_read_276 (by decide) (fun c_3 => ?_) (fun c_3 => ?_)
      · replace c_3 : 62 ≤ i := (nI_leI (a := 62) (b := i) (by omega) (by omega)).mp c_3
        have i62 : 62 = i := by omega
        refine lv_aload_n hx hb d_Mo_read_309 rfl (lv_at hl 0 rfl) ?_
        refine lv_aload_n hx hb d_Mo_read_310 rfl (lv_at hl 0 rfl) ?_
        refine u_get hx hb hts inMo hown hK hV hn 0 rfl rfl 12 (by decide) w_fl_Mo_104 rfl rfl d_Mo_read_311 ?_
        refine u_put hx hb hts inMo tyMo tyMo_ok nmMo hown hK hV hn 0 rfl rfl 7 (by decide) w_fl_Mo_111 rfl rfl rfl rfl (Nat.le_of_ble_eq_true rfl) d_Mo_read_314 (fun H locs hV hz9 => ?_)
        have hV : vS G.1 cls lo s H locs (vU V [(m, eO 8 [.int 0, .int 0, .ref mt, .int ((-1)), .ref pa, .ref sa, .ref la, .int (nI A.2.2.2.length), .ref ba, .ref np, .ref ns, .ref nl, .int (nI A.2.2.2.length), .int (nI a), .int ((-1)), u15, u16, u17, u18, u19, u20]), (mt, eI (gI G) 400 g), (pa, eI (gI G) 1769 (cpT P F 1769)), (sa, eI (gI G) 62 (cpT sp s2 i)), (la, eI (gI G) 62 (cpT al l2 i)), (ba, eI (gI G) 600 b2), (np, eI (gI G) 1769 F), (ns, eI (gI G) 62 s2), (nl, eI (gI G) 62 l2)]) := hV
        replace hz := hz9.trans hz
        refine lv_aload_n hx hb d_Mo_read_317 rfl (lv_at hl 0 rfl) ?_
        refine v_call (va_runV (As := []) (rest := []) ⟨hx, hb, hml, hown, hts⟩ (c_Mo_pieces l G lo _ _ m pa (.int 0) (.int 0) (.ref mt) (.int ((-1))) (.ref sa) (.ref la) (.int (nI A.2.2.2.length)) (.ref ba) (.ref np) (.ref ns) (.ref nl) (.int (nI A.2.2.2.length)) (.int (nI a)) (.int ((-1))) u15 u16 u17 u18 u19 u20 (cpT P F 1769) A.1 (nd_sub hn [0, 2] (by decide) rfl) (mpA_cp hM)) (kwV 0 hts w_co_Mo_pieces rfl rfl w_it_Mo w_ml_Mo_126 w_im_Mo_pieces w_se_Mo__Mo_pieces (by decide +kernel) ⟨(Nat.le_of_ble_eq_true rfl), (Nat.le_of_ble_eq_true rfl)⟩) (u_preV hK hV hn [0, 2] rfl hz 0 rfl rfl) rfl rfl hl.1 rfl (lv_room (Nat.le_of_ble_eq_true rfl)) d_Mo_read_318 ⟨(Nat.le_of_ble_eq_true rfl), (Nat.le_of_ble_eq_true rfl)⟩) hV (fun r9 V9 H locs hp hV hle => ?_)
        obtain ⟨rfl, rfl, hz⟩ := hp
        replace hV := uu_same hV hn [0, 2] rfl
        have hV : vS G.1 cls lo s H locs (vU V [(m, eO 8 [.int 0, .int 0, .ref mt, .int ((-1)), .ref pa, .ref sa, .ref la, .int (nI A.2.2.2.length), .ref ba, .ref np, .ref ns, .ref nl, .int (nI A.2.2.2.length), .int (nI a), .int ((-1)), u15, u16, u17, u18, u19, u20]), (mt, eI (gI G) 400 g), (pa, eI (gI G) 1769 (cpT P F 1769)), (sa, eI (gI G) 62 (cpT sp s2 i)), (la, eI (gI G) 62 (cpT al l2 i)), (ba, eI (gI G) 600 b2), (np, eI (gI G) 1769 F), (ns, eI (gI G) 62 s2), (nl, eI (gI G) 62 l2)]) := hV
        refine W.eq (g2 := F0 mi 321 ls [.int (nI (cnt (fun j => (A.1 j).isSome) 60))]) rfl ?_
        exact W.iret (v := nI (cnt (fun j => (A.1 j).isSome) 60)) hx hb hr (v_end hV ⟨by rw [hX]; rfl, ⟨_, _, _, _, _, _, _, _, _, _, by rw [hX, hE]; rfl, by rw [hX]; exact mpA_cp hM, by rw [hX]; exact i62 ▸ msA_cp hS, by rw [hX]; exact hB⟩, hz⟩) hV.2.1.2.2 d_Mo_read_321
      · replace c_3 : ¬ 62 ≤ i := fun z9 => c_3 ((nI_leI (a := 62) (b := i) (by omega) (by omega)).mpr z9)
        refine lv_aload_n hx hb d_Mo_read_279 rfl (lv_at hl 0 rfl) ?_
        refine u_get hx hb hts inMo hown hK hV hn 0 rfl rfl 5 (by decide) w_fl_Mo_20 rfl rfl d_Mo_read_280 ?_
        refine lv_iload_n hx hb d_Mo_read_283 rfl (lv_at hl 1 rfl) ?_
        refine lv_aload_n hx hb d_Mo_read_284 rfl (lv_at hl 0 rfl) ?_
        refine u_get hx hb hts inMo hown hK hV hn 0 rfl rfl 10 (by decide) w_fl_Mo_32 rfl rfl d_Mo_read_285 ?_
        refine lv_iload_n hx hb d_Mo_read_288 rfl (lv_at hl 1 rfl) ?_
        refine u_ialdN hx hb hK hV hn 7 rfl (by omega) (by decide) d_Mo_read_289 ?_
        refine u_iastN hx hb hK hV hn 3 rfl (by omega) (by decide) d_Mo_read_290 (fun H locs hV hz9 => ?_)
        have hV : vS G.1 cls lo s H locs (vU V [(m, eO 8 [.int 0, .int 0, .ref mt, .int ((-1)), .ref pa, .ref sa, .ref la, .int (nI A0.2.2.2.length), .ref ba, .ref np, .ref ns, .ref nl, .int (nI A.2.2.2.length), .int (nI a), .int ((-1)), u15, u16, u17, u18, u19, u20]), (mt, eI (gI G) 400 g), (pa, eI (gI G) 1769 (cpT P F 1769)), (sa, eI (gI G) 62 (upd (cpT sp s2 i) i (s2 i))), (la, eI (gI G) 62 (cpT al l2 i)), (ba, eI (gI G) 600 b2), (np, eI (gI G) 1769 F), (ns, eI (gI G) 62 s2), (nl, eI (gI G) 62 l2)]) := hV
        replace hz := hz9.trans hz
        rw [cpT_up] at hV
        refine lv_aload_n hx hb d_Mo_read_291 rfl (lv_at hl 0 rfl) ?_
        refine u_get hx hb hts inMo hown hK hV hn 0 rfl rfl 6 (by decide) w_fl_Mo_23 rfl rfl d_Mo_read_292 ?_
        refine lv_iload_n hx hb d_Mo_read_295 rfl (lv_at hl 1 rfl) ?_
        refine lv_aload_n hx hb d_Mo_read_296 rfl (lv_at hl 0 rfl) ?_
        refine u_get hx hb hts inMo hown hK hV hn 0 rfl rfl 11 (by decide) w_fl_Mo_35 rfl rfl d_Mo_read_297 ?_
        refine lv_iload_n hx hb d_Mo_read_300 rfl (lv_at hl 1 rfl) ?_
        refine u_ialdN hx hb hK hV hn 8 rfl (by omega) (by decide) d_Mo_read_301 ?_
        refine u_iastN hx hb hK hV hn 4 rfl (by omega) (by decide) d_Mo_read_302 (fun H locs hV hz9 => ?_)
        have hV : vS G.1 cls lo s H locs (vU V [(m, eO 8 [.int 0, .int 0, .ref mt, .int ((-1)), .ref pa, .ref sa, .ref la, .int (nI A0.2.2.2.length), .ref ba, .ref np, .ref ns, .ref nl, .int (nI A.2.2.2.length), .int (nI a), .int ((-1)), u15, u16, u17, u18, u19, u20]), (mt, eI (gI G) 400 g), (pa, eI (gI G) 1769 (cpT P F 1769)), (sa, eI (gI G) 62 (cpT sp s2 (i + 1))), (la, eI (gI G) 62 (upd (cpT al l2 i) i (l2 i))), (ba, eI (gI G) 600 b2), (np, eI (gI G) 1769 F), (ns, eI (gI G) 62 s2), (nl, eI (gI G) 62 l2)]) := hV
        replace hz := hz9.trans hz
        rw [cpT_up] at hV
        refine lv_iinc (v := nI (i + 1)) (lv' := [(1, .int (nI (i + 1))), (0, .ref m)]) hx hb d_Mo_read_303 hl (k := 1) rfl (nI_add i 1) (by decide) rfl (fun ls hl => ?_)
        refine lv_goto (tgt := 273) hx hb d_Mo_read_306 (by decide) ?_
        exact ih F s2 l2 b2 A a (i + 1) (by omega) (by omega) hM hS hB hX hE H locs ls hz hV (lv_sub hl [1, 0] rfl)
  have e1 : ∀ (k : Nat) (F s2 l2 b2 : Nat → Int32) (A : TnA) (a : Nat) (i : Nat), 1769 - i < k → (i ≤ 1769) → (mpA F A.1) → (msA s2 l2 A.2.1 A.2.2.1) → (mbA b2 A.2.2.2) → (rdR t n A0 = .inr A) → (txtR t n A0 = .inr A) → ∀ (H : Heap) (locs : List Loc) (ls : Array Slot), H.size = sz → vS G.1 cls lo s H locs (vU V [(m, eO 8 [.int 0, .int 0, .ref mt, .int ((-1)), .ref pa, .ref sa, .ref la, .int (nI A0.2.2.2.length), .ref ba, .ref np, .ref ns, .ref nl, .int (nI A.2.2.2.length), .int (nI a), .int ((-1)), u15, u16, u17, u18, u19, u20]), (mt, eI (gI G) 400 g), (pa, eI (gI G) 1769 (cpT P F i)), (sa, eI (gI G) 62 sp), (la, eI (gI G) 62 al), (ba, eI (gI G) 600 b2), (np, eI (gI G) 1769 F), (ns, eI (gI G) 62 s2), (nl, eI (gI G) 62 l2)]) → lv_has ls 2 [(0, .ref m), (1, .int (nI i))] → W pg l ev ({ frames := 5, cells := 0, slots := 0, locals := 150 } : Room) s mi args below meth cd H locs 0 0 (MQ below (vPost G lo (fun r V' k => r = some (.int (vaT (rdR t n A0))) ∧ (∃ (P2 sp2 al2 b2 F2 s2 l2 : Nat → Int32) (nb2 at2 wr2 : Value), V' = vU V [(m, eO 8 [.int (thI (rdR t n A0)), .int 0, .ref mt, .int (wI (txtR t n A0)), .ref pa, .ref sa, .ref la, .int (nI ((rdA A0 (rdR t n A0)).2.2.2.length)), .ref ba, .ref np, .ref ns, .ref nl, nb2, at2, wr2, u15, u16, u17, u18, u19, u20]), (mt, eI (gI G) 400 g), (pa, eI (gI G) 1769 P2), (sa, eI (gI G) 62 sp2), (la, eI (gI G) 62 al2), (ba, eI (gI G) 600 b2), (np, eI (gI G) 1769 F2), (ns, eI (gI G) 62 s2), (nl, eI (gI G) 62 l2)] ∧ mpA P2 (rdA A0 (rdR t n A0)).1 ∧ msA sp2 al2 (rdA A0 (rdR t n A0)).2.1 (rdA A0 (rdR t n A0)).2.2.1 ∧ mbA b2 (rdA A0 (rdR t n A0)).2.2.2) ∧ k = sz)) args s 0 0 (vL lo)) (F0 mi 246 ls []) := by
    intro k
    induction k with
    | zero => intro F s2 l2 b2 A a i hk; exact absurd hk (by omega)
    | succ k ih =>
      intro F s2 l2 b2 A a i hk hi hM hS hB hX hE H locs ls hz hV hl
      refine lv_iload_n hx hb d_Mo_read_246 rfl (lv_at hl 1 rfl) ?_
      refine lv_sipush (v := 1769) hx hb d_Mo_read_247 (by decide) ?_
      refine lv_icmp_ge (tgt := 271) hx hb d_Mo_read_250 (by decide) (fun c_4 => ?_) (fun c_4 => ?_)
      · replace c_4 : 1769 ≤ i := (nI_leI (a := 1769) (b := i) (by omega) (by omega)).mp c_4
        refine lv_iconst (v := 0) hx hb d_Mo_read_271 (by decide) ?_
        refine lv_istore_n (lv' := [(1, .int 0), (0, .ref m)]) hx hb d_Mo_read_272 rfl hl (by decide) rfl (fun ls hl => ?_)
        have hV : vS G.1 cls lo s H locs (vU V [(m, eO 8 [.int 0, .int 0, .ref mt, .int ((-1)), .ref pa, .ref sa, .ref la, .int (nI A0.2.2.2.length), .ref ba, .ref np, .ref ns, .ref nl, .int (nI A.2.2.2.length), .int (nI a), .int ((-1)), u15, u16, u17, u18, u19, u20]), (mt, eI (gI G) 400 g), (pa, eI (gI G) 1769 (cpT P F 1769)), (sa, eI (gI G) 62 (cpT sp s2 0)), (la, eI (gI G) 62 (cpT al l2 0)), (ba, eI (gI G) 600 b2), (np, eI (gI G) 1769 F), (ns, eI (gI G) 62 s2), (nl, eI (gI G) 62 l2)]) := by rw [cpT_0, cpT_0]; rw [show i = 1769 by omega] at hV; exact hV
        exact e2 63 F s2 l2 b2 A a 0 (by decide) (by decide) hM hS hB hX hE H locs ls hz hV (lv_sub hl [1, 0] rfl)
      · replace c_4 : ¬ 1769 ≤ i := fun z9 => c_4 ((nI_leI (a := 1769) (b := i) (by omega) (by omega)).mpr z9)
        refine lv_aload_n hx hb d_Mo_read_253 rfl (lv_at hl 0 rfl) ?_
        refine u_get hx hb hts inMo hown hK hV hn 0 rfl rfl 4 (by decide) w_fl_Mo_17 rfl rfl d_Mo_read_254 ?_
        refine lv_iload_n hx hb d_Mo_read_257 rfl (lv_at hl 1 rfl) ?_
        refine lv_aload_n hx hb d_Mo_read_258 rfl (lv_at hl 0 rfl) ?_
        refine u_get hx hb hts inMo hown hK hV hn 0 rfl rfl 9 (by decide) w_fl_Mo_29 rfl rfl d_Mo_read_259 ?_
        refine lv_iload_n hx hb d_Mo_read_262 rfl (lv_at hl 1 rfl) ?_
        refine u_ialdN hx hb hK hV hn 6 rfl (by omega) (by decide) d_Mo_read_263 ?_
        refine u_iastN hx hb hK hV hn 2 rfl (by omega) (by decide) d_Mo_read_264 (fun H locs hV hz9 => ?_)
        have hV : vS G.1 cls lo s H locs (vU V [(m, eO 8 [.int 0, .int 0, .ref mt, .int ((-1)), .ref pa, .ref sa, .ref la, .int (nI A0.2.2.2.length), .ref ba, .ref np, .ref ns, .ref nl, .int (nI A.2.2.2.length), .int (nI a), .int ((-1)), u15, u16, u17, u18, u19, u20]), (mt, eI (gI G) 400 g), (pa, eI (gI G) 1769 (upd (cpT P F i) i (F i))), (sa, eI (gI G) 62 sp), (la, eI (gI G) 62 al), (ba, eI (gI G) 600 b2), (np, eI (gI G) 1769 F), (ns, eI (gI G) 62 s2), (nl, eI (gI G) 62 l2)]) := hV
        replace hz := hz9.trans hz
        rw [cpT_up] at hV
        refine lv_iinc (v := nI (i + 1)) (lv' := [(1, .int (nI (i + 1))), (0, .ref m)]) hx hb d_Mo_read_265 hl (k := 1) rfl (nI_add i 1) (by decide) rfl (fun ls hl => ?_)
        refine lv_goto (tgt := 246) hx hb d_Mo_read_268 (by decide) ?_
        exact ih F s2 l2 b2 A a (i + 1) (by omega) (by omega) hM hS hB hX hE H locs ls hz hV (lv_sub hl [1, 0] rfl)
  have loop : ∀ (k : Nat) (F s2 l2 b2 : Nat → Int32) (A : TnA) (q k2 : Nat), n - q < k → (mpA F A.1) → (msA s2 l2 A.2.1 A.2.2.1) → (mbA b2 A.2.2.2) → (∀ i, i < 3 * A0.2.2.2.length → b2 i = b i) → (A0.2.2.2.length ≤ A.2.2.2.length) → (7 * A.2.2.2.length ≤ 140 + q) → (q ≤ n) → (n - q < k2) → (txtR t n A0 = rowsR t n k2 A q) → ∀ (H : Heap) (locs : List Loc) (ls : Array Slot), H.size = sz → vS G.1 cls lo s H locs (vU V [(m, eO 8 [th, .int (nI n), .ref mt, pl, .ref pa, .ref sa, .ref la, .int (nI A0.2.2.2.length), .ref ba, .ref np, .ref ns, .ref nl, .int (nI A.2.2.2.length), .int (nI q), .int ((-1)), u15, u16, u17, u18, u19, u20]), (mt, eI (gI G) 400 g), (pa, eI (gI G) 1769 P), (sa, eI (gI G) 62 sp), (la, eI (gI G) 62 al), (ba, eI (gI G) 600 b2), (np, eI (gI G) 1769 F), (ns, eI (gI G) 62 s2), (nl, eI (gI G) 62 l2)]) → lv_has ls 2 [(0, .ref m)] → W pg l ev ({ frames := 5, cells := 0, slots := 0, locals := 150 } : Room) s mi args below meth cd H locs 0 0 (MQ below (vPost G lo (fun r V' k => r = some (.int (vaT (rdR t n A0))) ∧ (∃ (P2 sp2 al2 b2 F2 s2 l2 : Nat → Int32) (nb2 at2 wr2 : Value), V' = vU V [(m, eO 8 [.int (thI (rdR t n A0)), .int 0, .ref mt, .int (wI (txtR t n A0)), .ref pa, .ref sa, .ref la, .int (nI ((rdA A0 (rdR t n A0)).2.2.2.length)), .ref ba, .ref np, .ref ns, .ref nl, nb2, at2, wr2, u15, u16, u17, u18, u19, u20]), (mt, eI (gI G) 400 g), (pa, eI (gI G) 1769 P2), (sa, eI (gI G) 62 sp2), (la, eI (gI G) 62 al2), (ba, eI (gI G) 600 b2), (np, eI (gI G) 1769 F2), (ns, eI (gI G) 62 s2), (nl, eI (gI G) 62 l2)] ∧ mpA P2 (rdA A0 (rdR t n A0)).1 ∧ msA sp2 al2 (rdA A0 (rdR t n A0)).2.1 (rdA A0 (rdR t n A0)).2.2.1 ∧ mbA b2 (rdA A0 (rdR t n A0)).2.2.2) ∧ k = sz)) args s 0 0 (vL lo)) (F0 mi 83 ls []) := by
    intro k
    induction k with
    | zero => intro F s2 l2 b2 A q k2 hk; exact absurd hk (by omega)
    | succ k ih =>
      intro F s2 l2 b2 A q k2 hk hM hS hB hb0 hlen hl7 hqn hk2 hR H locs ls hz hV hl
      refine lv_aload_n hx hb d_Mo_read_83 rfl (lv_at hl 0 rfl) ?_
      refine u_get hx hb hts inMo hown hK hV hn 0 rfl rfl 14 (by decide) w_fl_Mo_68 rfl rfl d_Mo_read_84 ?_
      refine lv_if_ge (tgt := 193) hx hb d_Mo_read_87 (by decide) (fun c_5 => absurd c_5 (by decide)) (fun _ => ?_)
      refine lv_aload_n hx hb d_Mo_read_90 rfl (lv_at hl 0 rfl) ?_
      refine v_call (va_runV (As := []) (rest := []) ⟨hx, hb, hml, hown, hts⟩ (c_Mo_see l G lo _ _ m mt th pl (.ref pa) (.ref sa) (.ref la) (.int (nI A0.2.2.2.length)) (.ref ba) (.ref np) (.ref ns) (.ref nl) (.int (nI A.2.2.2.length)) (.int ((-1))) u15 u16 u17 u18 u19 u20 g t n q (nd_sub hn [0, 1] (by decide) rfl) hT h4 (by omega)) (kwV 0 hts w_co_Mo_see rfl rfl w_it_Mo w_ml_Mo_71 w_im_Mo_see w_se_Mo__Mo_see (by decide +kernel) ⟨(Nat.le_of_ble_eq_true rfl), (Nat.le_of_ble_eq_true rfl)⟩) (u_preV hK hV hn [0, 1] rfl hz 0 rfl rfl) rfl rfl hl.1 rfl (lv_room (Nat.le_of_ble_eq_true rfl)) d_Mo_read_91 ⟨(Nat.le_of_ble_eq_true rfl), (Nat.le_of_ble_eq_true rfl)⟩) hV (fun r9 V9 H locs hp hV hle => ?_)
      obtain ⟨rfl, rfl, hz⟩ := hp
      replace hV := u_back hV hn [0, 1] rfl
      have hV : vS G.1 cls lo s H locs (vU V [(m, eO 8 [th, .int (nI n), .ref mt, pl, .ref pa, .ref sa, .ref la, .int (nI A0.2.2.2.length), .ref ba, .ref np, .ref ns, .ref nl, .int (nI A.2.2.2.length), .int (nI (sk t n q)), .int ((-1)), u15, u16, u17, u18, u19, u20]), (mt, eI (gI G) 400 g), (pa, eI (gI G) 1769 P), (sa, eI (gI G) 62 sp), (la, eI (gI G) 62 al), (ba, eI (gI G) 600 b2), (np, eI (gI G) 1769 F), (ns, eI (gI G) 62 s2), (nl, eI (gI G) 62 l2)]) := hV
      obtain ⟨q_6, hq_6⟩ : ∃ z, sk t n q = z := ⟨_, rfl⟩
      rw [hq_6] at hV
      have gq_6 : q ≤ q_6 := by rw [← hq_6]; exact sk_ge t n q
      have bq_6 : q_6 ≤ n ∨ q_6 = q := by rw [← hq_6]; exact sk_le2 t n q
      rcases Nat.lt_or_ge q_6 n with l_7 | l_7
      · have kl_7 := (hT q_6 l_7).1
        have hV : vS G.1 cls lo s H locs (vU V [(m, eO 8 [th, .int (nI n), .ref mt, pl, .ref pa, .ref sa, .ref la, .int (nI A0.2.2.2.length), .ref ba, .ref np, .ref ns, .ref nl, .int (nI A.2.2.2.length), .int (nI q_6), .int ((-1)), u15, u16, u17, u18, u19, u20]), (mt, eI (gI G) 400 g), (pa, eI (gI G) 1769 P), (sa, eI (gI G) 62 sp), (la, eI (gI G) 62 al), (ba, eI (gI G) 600 b2), (np, eI (gI G) 1769 F), (ns, eI (gI G) 62 s2), (nl, eI (gI G) 62 l2)]) := hV
        refine W.eq (g2 := F0 mi 94 ls [.int (nI (t q_6))]) (by rw [hq_6, rK_in l_7]; rfl) ?_
        refine lv_if_lt (tgt := 193) hx hb d_Mo_read_94 (by decide) (fun c_8 => absurd c_8 (nI_nlt0 (show t q_6 < 2 ^ 31 by omega))) (fun c_8 => ?_)
        replace c_8 : ¬ t q_6 < 0 := fun z9 => c_8 ((nI_ltI (a := t q_6) (b := 0) (by omega) (by omega)).mpr z9)
        refine lv_aload_n hx hb d_Mo_read_97 rfl (lv_at hl 0 rfl) ?_
        refine v_call (va_runV (As := []) (rest := []) ⟨hx, hb, hml, hown, hts⟩ (c_Mo_here l G lo _ _ m mt th pl (.ref pa) (.ref sa) (.ref la) (.int (nI A0.2.2.2.length)) (.ref ba) (.ref np) (.ref ns) (.ref nl) (.int (nI A.2.2.2.length)) (.int ((-1))) u15 u16 u17 u18 u19 u20 g t n q_6 (nd_sub hn [0, 1] (by decide) rfl) hT h4 (by omega)) (kwV 0 hts w_co_Mo_here rfl rfl w_it_Mo w_ml_Mo_64 w_im_Mo_here w_se_Mo__Mo_here (by decide +kernel) ⟨(Nat.le_of_ble_eq_true rfl), (Nat.le_of_ble_eq_true rfl)⟩) (u_preV hK hV hn [0, 1] rfl hz 0 rfl rfl) rfl rfl hl.1 rfl (lv_room (Nat.le_of_ble_eq_true rfl)) d_Mo_read_98 ⟨(Nat.le_of_ble_eq_true rfl), (Nat.le_of_ble_eq_true rfl)⟩) hV (fun r9 V9 H locs hp hV hle => ?_)
        obtain ⟨rfl, rfl, hz⟩ := hp
        replace hV := uu_same hV hn [0, 1] rfl
        have hV : vS G.1 cls lo s H locs (vU V [(m, eO 8 [th, .int (nI n), .ref mt, pl, .ref pa, .ref sa, .ref la, .int (nI A0.2.2.2.length), .ref ba, .ref np, .ref ns, .ref nl, .int (nI A.2.2.2.length), .int (nI q_6), .int ((-1)), u15, u16, u17, u18, u19, u20]), (mt, eI (gI G) 400 g), (pa, eI (gI G) 1769 P), (sa, eI (gI G) 62 sp), (la, eI (gI G) 62 al), (ba, eI (gI G) 600 b2), (np, eI (gI G) 1769 F), (ns, eI (gI G) 62 s2), (nl, eI (gI G) 62 l2)]) := hV
        refine W.eq (g2 := F0 mi 101 ls [.int (rK t n q_6)]) rfl ?_
        refine W.eq (g2 := F0 mi 101 ls [.int (nI (t q_6))]) (by rw [rK_in l_7] <;> rfl) ?_
        refine lv_istore_n (lv' := [(1, .int (nI (t q_6))), (0, .ref m)]) hx hb d_Mo_read_101 rfl hl (by decide) rfl (fun ls hl => ?_)
        refine lv_aload_n hx hb d_Mo_read_102 rfl (lv_at hl 1 rfl) ?_
        refine lv_dup hx hb d_Mo_read_103 rfl ?_
        refine u_get hx hb hts inMo hown hK hV hn 0 rfl rfl 13 (by decide) w_fl_Mo_61 rfl rfl d_Mo_read_104 ?_
        refine lv_iconst (v := 1) hx hb d_Mo_read_107 (by decide) ?_
        refine e_iadd (v := nI (q_6 + 1)) hx hb d_Mo_read_108 (nI_add q_6 1) ?_
        refine u_put hx hb hts inMo tyMo tyMo_ok nmMo hown hK hV hn 0 rfl rfl 13 (by decide) w_fl_Mo_61 rfl rfl rfl rfl (Nat.le_of_ble_eq_true rfl) d_Mo_read_109 (fun H locs hV hz9 => ?_)
        have hV : vS G.1 cls lo s H locs (vU V [(m, eO 8 [th, .int (nI n), .ref mt, pl, .ref pa, .ref sa, .ref la, .int (nI A0.2.2.2.length), .ref ba, .ref np, .ref ns, .ref nl, .int (nI A.2.2.2.length), .int (nI (q_6 + 1)), .int ((-1)), u15, u16, u17, u18, u19, u20]), (mt, eI (gI G) 400 g), (pa, eI (gI G) 1769 P), (sa, eI (gI G) 62 sp), (la, eI (gI G) 62 al), (ba, eI (gI G) 600 b2), (np, eI (gI G) 1769 F), (ns, eI (gI G) 62 s2), (nl, eI (gI G) 62 l2)]) := hV
        replace hz := hz9.trans hz
        refine lv_iload_n hx hb d_Mo_read_112 rfl (lv_at hl 0 rfl) ?_
        refine lv_bipush (v := 112) hx hb d_Mo_read_113 (by decide) ?_
        refine lv_icmp_ne (tgt := 125) hx hb d_Mo_read_115 (by decide) (fun c_9 => ?_) (fun c_9 => ?_)
        · replace c_9 : ¬ t q_6 = 112 := fun z9 => c_9 ((nI_eq (a := t q_6) (b := 112) (by omega) (by omega)).mpr z9)
          refine lv_iload_n hx hb d_Mo_read_125 rfl (lv_at hl 0 rfl) ?_
          refine lv_bipush (v := 120) hx hb d_Mo_read_126 (by decide) ?_
          refine lv_icmp_ne (tgt := 138) hx hb d_Mo_read_128 (by decide) (fun c_10 => ?_) (fun c_10 => ?_)
          · replace c_10 : ¬ t q_6 = 120 := fun z9 => c_10 ((nI_eq (a := t q_6) (b := 120) (by omega) (by omega)).mpr z9)
            refine lv_iload_n hx hb d_Mo_read_138 rfl (lv_at hl 0 rfl) ?_
            refine lv_bipush (v := 104) hx hb d_Mo_read_139 (by decide) ?_
            refine lv_icmp_ne (tgt := 152) hx hb d_Mo_read_141 (by decide) (fun c_11 => ?_) (fun c_11 => ?_)
            · replace c_11 : ¬ t q_6 = 104 := fun z9 => c_11 ((nI_eq (a := t q_6) (b := 104) (by omega) (by omega)).mpr z9)
              refine lv_iload_n hx hb d_Mo_read_152 rfl (lv_at hl 0 rfl) ?_
              refine lv_bipush (v := 115) hx hb d_Mo_read_153 (by decide) ?_
              refine lv_icmp_ne (tgt := 167) hx hb d_Mo_read_155 (by decide) (fun c_12 => ?_) (fun c_12 => ?_)
              · replace c_12 : ¬ t q_6 = 115 := fun z9 => c_12 ((nI_eq (a := t q_6) (b := 115) (by omega) (by omega)).mpr z9)
                refine lv_iload_n hx hb d_Mo_read_167 rfl (lv_at hl 0 rfl) ?_
                refine lv_bipush (v := 103) hx hb d_Mo_read_168 (by decide) ?_
                refine lv_icmp_ne (tgt := 180) hx hb d_Mo_read_170 (by decide) (fun c_13 => ?_) (fun c_13 => ?_)
                · replace c_13 : ¬ t q_6 = 103 := fun z9 => c_13 ((nI_eq (a := t q_6) (b := 103) (by omega) (by omega)).mpr z9)
                  have hE : txtR t n A0 = .inl q_6 := by rw [hR]; exact rows_bad (by omega) hq_6 l_7 (row_no hq_6 l_7 (by omega) (by omega) (by omega) (by omega) (by omega))
                  refine lv_aload_n hx hb d_Mo_read_180 rfl (lv_at hl 1 rfl) ?_
                  refine lv_aload_n hx hb d_Mo_read_181 rfl (lv_at hl 1 rfl) ?_
                  refine u_get hx hb hts inMo hown hK hV hn 0 rfl rfl 13 (by decide) w_fl_Mo_61 rfl rfl d_Mo_read_182 ?_
                  refine lv_iconst (v := 1) hx hb d_Mo_read_185 (by decide) ?_
                  refine e_isub (v := nI q_6) hx hb d_Mo_read_186 ((pk_sub (a := q_6 + 1) (b := 1) (by omega)).trans (by rw [Nat.add_sub_cancel])) ?_
                  refine v_call (va_runV (As := [.int (nI q_6)]) (rest := []) ⟨hx, hb, hml, hown, hts⟩ (c_Mo_fail l G lo _ _ m th (.int (nI n)) (.ref mt) pl (.ref pa) (.ref sa) (.ref la) (.int (nI A0.2.2.2.length)) (.ref ba) (.ref np) (.ref ns) (.ref nl) (.int (nI A.2.2.2.length)) (.int (nI (q_6 + 1))) u15 u16 u17 u18 u19 u20 (by simp) (nI q_6)) (kwV 1 hts w_co_Mo_fail rfl rfl w_it_Mo w_ml_Mo_74 w_im_Mo_fail w_se_Mo__Mo_fail (by decide +kernel) ⟨(Nat.le_of_ble_eq_true rfl), (Nat.le_of_ble_eq_true rfl)⟩) (u_preV hK hV hn [0] rfl hz 0 rfl rfl) rfl rfl hl.1 rfl (lv_room (Nat.le_of_ble_eq_true rfl)) d_Mo_read_187 ⟨(Nat.le_of_ble_eq_true rfl), (Nat.le_of_ble_eq_true rfl)⟩) hV (fun r9 V9 H locs hp hV hle => ?_)
                  obtain ⟨rfl, rfl, hz⟩ := hp
                  replace hV := u_back hV hn [0] rfl
                  have hV : vS G.1 cls lo s H locs (vU V [(m, eO 8 [th, .int (nI n), .ref mt, pl, .ref pa, .ref sa, .ref la, .int (nI A0.2.2.2.length), .ref ba, .ref np, .ref ns, .ref nl, .int (nI A.2.2.2.length), .int (nI (q_6 + 1)), .int (nI q_6), u15, u16, u17, u18, u19, u20]), (mt, eI (gI G) 400 g), (pa, eI (gI G) 1769 P), (sa, eI (gI G) 62 sp), (la, eI (gI G) 62 al), (ba, eI (gI G) 600 b2), (np, eI (gI G) 1769 F), (ns, eI (gI G) 62 s2), (nl, eI (gI G) 62 l2)]) := hV
                  refine lv_goto (tgt := 83) hx hb d_Mo_read_190 (by decide) ?_
                  refine lv_aload_n hx hb d_Mo_read_83 rfl (lv_at hl 1 rfl) ?_
                  refine u_get hx hb hts inMo hown hK hV hn 0 rfl rfl 14 (by decide) w_fl_Mo_68 rfl rfl d_Mo_read_84 ?_
                  refine lv_if_ge (tgt := 193) hx hb d_Mo_read_87 (by decide) (fun c_14 => ?_) (fun c_14 => absurd (nI_ge0 (by omega)) c_14)
                  replace c_14 : 0 ≤ q_6 := (nI_leI (a := 0) (b := q_6) (by omega) (by omega)).mp c_14
                  exact bad F s2 l2 b2 A.2.2.2.length (q_6 + 1) q_6 (by omega) hb0 hE H locs ls hz hV (lv_sub hl [1] rfl)
                · replace c_13 : t q_6 = 103 := (nI_eq (a := t q_6) (b := 103) (by omega) (by omega)).mp c_13
                  refine lv_aload_n hx hb d_Mo_read_173 rfl (lv_at hl 1 rfl) ?_
                  refine v_call (va_runV (As := []) (rest := []) ⟨hx, hb, hml, hown, hts⟩ (c_Mo_goneRow l G lo _ _ m mt ns np th pl (.ref pa) (.ref sa) (.ref la) (.int (nI A0.2.2.2.length)) (.ref ba) (.ref nl) (.int (nI A.2.2.2.length)) u15 u16 u17 u18 u19 u20 g s2 F t n (q_6 + 1) (nd_sub hn [0, 1, 7, 6] (by decide) rfl) hT h4 (by omega)) (kwV 0 hts w_co_Mo_goneRow rfl rfl w_it_Mo w_ml_Mo_123 w_im_Mo_goneRow w_se_Mo__Mo_goneRow (by decide +kernel) ⟨(Nat.le_of_ble_eq_true rfl), (Nat.le_of_ble_eq_true rfl)⟩) (u_preV hK hV hn [0, 1, 7, 6] rfl hz 0 rfl rfl) rfl rfl hl.1 rfl (lv_room (Nat.le_of_ble_eq_true rfl)) d_Mo_read_174 ⟨(Nat.le_of_ble_eq_true rfl), (Nat.le_of_ble_eq_true rfl)⟩) hV (fun r9 V9 H locs hp hV hle => ?_)
                  obtain ⟨rfl, ⟨ax_15, sx_15, Fx_15, rfl, hpx_15⟩, hz⟩ := hp
                  replace hV := u_back hV hn [0, 1, 7, 6] rfl
                  rcases x_15 : semi t n (goneR t n (q_6 + 1)) with e_15 | z_15
                  · rw [x_15] at hV
                    obtain ⟨hE1, be_15⟩ := rows_sl (A := A) (k := k2) (c := fun y => (.inr (.inr (.inr (.inr y))) : RowE)) (by omega) hq_6 l_7 (row_103 hq_6 l_7 (by omega)) x_15
                    have hE : txtR t n A0 = .inl e_15 := hR.trans hE1
                    have hV : vS G.1 cls lo s H locs (vU V [(m, eO 8 [th, .int (nI n), .ref mt, pl, .ref pa, .ref sa, .ref la, .int (nI A0.2.2.2.length), .ref ba, .ref np, .ref ns, .ref nl, .int (nI A.2.2.2.length), .int (nI ax_15), .int (nI e_15), u15, u16, u17, u18, u19, u20]), (mt, eI (gI G) 400 g), (pa, eI (gI G) 1769 P), (sa, eI (gI G) 62 sp), (la, eI (gI G) 62 al), (ba, eI (gI G) 600 b2), (np, eI (gI G) 1769 Fx_15), (ns, eI (gI G) 62 sx_15), (nl, eI (gI G) 62 l2)]) := hV
                    refine W.eq (g2 := F0 mi 177 ls []) rfl ?_
                    refine lv_goto (tgt := 190) hx hb d_Mo_read_177 (by decide) ?_
                    refine lv_goto (tgt := 83) hx hb d_Mo_read_190 (by decide) ?_
                    refine lv_aload_n hx hb d_Mo_read_83 rfl (lv_at hl 1 rfl) ?_
                    refine u_get hx hb hts inMo hown hK hV hn 0 rfl rfl 14 (by decide) w_fl_Mo_68 rfl rfl d_Mo_read_84 ?_
                    refine lv_if_ge (tgt := 193) hx hb d_Mo_read_87 (by decide) (fun c_16 => ?_) (fun c_16 => absurd (nI_ge0 (by omega)) c_16)
                    replace c_16 : 0 ≤ e_15 := (nI_leI (a := 0) (b := e_15) (by omega) (by omega)).mp c_16
                    exact bad Fx_15 sx_15 l2 b2 A.2.2.2.length ax_15 e_15 (by omega) hb0 hE H locs ls hz hV (lv_sub hl [1] rfl)
                  · rw [x_15] at hV
                    obtain ⟨hG, gz_15, bz_15⟩ := rows_sr (A := A) (k := k2) (c := fun y => (.inr (.inr (.inr (.inr y))) : RowE)) (by omega) hq_6 l_7 (row_103 hq_6 l_7 (by omega)) x_15
                    obtain ⟨eax_15, h1x_15, h2x_15, h3x_15⟩ := hpx_15 _ x_15
                    rw [eax_15] at hV
                    obtain ⟨y1, y2, y3⟩ := gone_all hM hS (sem_gone (by omega) x_15) h1x_15 h2x_15 h3x_15
                    have hV : vS G.1 cls lo s H locs (vU V [(m, eO 8 [th, .int (nI n), .ref mt, pl, .ref pa, .ref sa, .ref la, .int (nI A0.2.2.2.length), .ref ba, .ref np, .ref ns, .ref nl, .int (nI A.2.2.2.length), .int (nI z_15.2), .int ((-1)), u15, u16, u17, u18, u19, u20]), (mt, eI (gI G) 400 g), (pa, eI (gI G) 1769 P), (sa, eI (gI G) 62 sp), (la, eI (gI G) 62 al), (ba, eI (gI G) 600 b2), (np, eI (gI G) 1769 Fx_15), (ns, eI (gI G) 62 sx_15), (nl, eI (gI G) 62 l2)]) := hV
                    refine W.eq (g2 := F0 mi 177 ls []) rfl ?_
                    refine lv_goto (tgt := 190) hx hb d_Mo_read_177 (by decide) ?_
                    refine lv_goto (tgt := 83) hx hb d_Mo_read_190 (by decide) ?_
                    have hV : vS G.1 cls lo s H locs (vU V [(m, eO 8 [th, .int (nI n), .ref mt, pl, .ref pa, .ref sa, .ref la, .int (nI A0.2.2.2.length), .ref ba, .ref np, .ref ns, .ref nl, .int (nI ((rowA A (.inr (.inr (.inr (.inr z_15.1))))).2.2.2.length)), .int (nI z_15.2), .int ((-1)), u15, u16, u17, u18, u19, u20]), (mt, eI (gI G) 400 g), (pa, eI (gI G) 1769 P), (sa, eI (gI G) 62 sp), (la, eI (gI G) 62 al), (ba, eI (gI G) 600 b2), (np, eI (gI G) 1769 Fx_15), (ns, eI (gI G) 62 sx_15), (nl, eI (gI G) 62 l2)]) := by rw [y3]; exact hV
                    exact ih _ _ l2 b2 (rowA A (.inr (.inr (.inr (.inr z_15.1))))) z_15.2 (k2 - 1) (by omega) y1 y2 (y3 ▸ hB) hb0 (y3 ▸ hlen) (by rw [y3]; omega) (by omega) (by omega) (hR.trans hG) H locs ls hz hV (lv_sub hl [1] rfl)
              · replace c_12 : t q_6 = 115 := (nI_eq (a := t q_6) (b := 115) (by omega) (by omega)).mp c_12
                refine lv_aload_n hx hb d_Mo_read_158 rfl (lv_at hl 1 rfl) ?_
                refine lv_bipush (v := 31) hx hb d_Mo_read_159 (by decide) ?_
                refine v_call (va_runV (As := [.int 31]) (rest := []) ⟨hx, hb, hml, hown, hts⟩ (c_Mo_spotRow l G lo _ _ m mt ns nl th pl (.ref pa) (.ref sa) (.ref la) (.int (nI A0.2.2.2.length)) (.ref ba) (.ref np) (.int (nI A.2.2.2.length)) u15 u16 u17 u18 u19 u20 g s2 l2 t n (q_6 + 1) 31 (nd_sub hn [0, 1, 7, 8] (by decide) rfl) hT h4 (by omega) (by decide)) (kwV 1 hts w_co_Mo_spotRow rfl rfl w_it_Mo w_ml_Mo_120 w_im_Mo_spotRow w_se_Mo__Mo_spotRow (by decide +kernel) ⟨(Nat.le_of_ble_eq_true rfl), (Nat.le_of_ble_eq_true rfl)⟩) (u_preV hK hV hn [0, 1, 7, 8] rfl hz 0 rfl rfl) rfl rfl hl.1 rfl (lv_room (Nat.le_of_ble_eq_true rfl)) d_Mo_read_161 ⟨(Nat.le_of_ble_eq_true rfl), (Nat.le_of_ble_eq_true rfl)⟩) hV (fun r9 V9 H locs hp hV hle => ?_)
                obtain ⟨rfl, ⟨ax_17, sx_17, lx_17, rfl, hpx_17⟩, hz⟩ := hp
                replace hV := u_back hV hn [0, 1, 7, 8] rfl
                rcases x_17 : semi t n (spotR t n (q_6 + 1)) with e_17 | z_17
                · rw [x_17] at hV
                  obtain ⟨hE1, be_17⟩ := rows_sl (A := A) (k := k2) (c := fun y => (.inr (.inr (.inr (.inl y))) : RowE)) (by omega) hq_6 l_7 (row_115 hq_6 l_7 (by omega)) x_17
                  have hE : txtR t n A0 = .inl e_17 := hR.trans hE1
                  have hV : vS G.1 cls lo s H locs (vU V [(m, eO 8 [th, .int (nI n), .ref mt, pl, .ref pa, .ref sa, .ref la, .int (nI A0.2.2.2.length), .ref ba, .ref np, .ref ns, .ref nl, .int (nI A.2.2.2.length), .int (nI ax_17), .int (nI e_17), u15, u16, u17, u18, u19, u20]), (mt, eI (gI G) 400 g), (pa, eI (gI G) 1769 P), (sa, eI (gI G) 62 sp), (la, eI (gI G) 62 al), (ba, eI (gI G) 600 b2), (np, eI (gI G) 1769 F), (ns, eI (gI G) 62 sx_17), (nl, eI (gI G) 62 lx_17)]) := hV
                  refine W.eq (g2 := F0 mi 164 ls []) rfl ?_
                  refine lv_goto (tgt := 190) hx hb d_Mo_read_164 (by decide) ?_
                  refine lv_goto (tgt := 83) hx hb d_Mo_read_190 (by decide) ?_
                  refine lv_aload_n hx hb d_Mo_read_83 rfl (lv_at hl 1 rfl) ?_
                  refine u_get hx hb hts inMo hown hK hV hn 0 rfl rfl 14 (by decide) w_fl_Mo_68 rfl rfl d_Mo_read_84 ?_
                  refine lv_if_ge (tgt := 193) hx hb d_Mo_read_87 (by decide) (fun c_18 => ?_) (fun c_18 => absurd (nI_ge0 (by omega)) c_18)
                  replace c_18 : 0 ≤ e_17 := (nI_leI (a := 0) (b := e_17) (by omega) (by omega)).mp c_18
                  exact bad F sx_17 lx_17 b2 A.2.2.2.length ax_17 e_17 (by omega) hb0 hE H locs ls hz hV (lv_sub hl [1] rfl)
                · rw [x_17] at hV
                  obtain ⟨hG, gz_17, bz_17⟩ := rows_sr (A := A) (k := k2) (c := fun y => (.inr (.inr (.inr (.inl y))) : RowE)) (by omega) hq_6 l_7 (row_115 hq_6 l_7 (by omega)) x_17
                  obtain ⟨eax_17, esx_17, elx_17⟩ := hpx_17 _ x_17
                  rw [eax_17, esx_17, elx_17] at hV
                  obtain ⟨t1, t2, t3, t4, t5⟩ := sem_spot (by omega) x_17
                  have hV : vS G.1 cls lo s H locs (vU V [(m, eO 8 [th, .int (nI n), .ref mt, pl, .ref pa, .ref sa, .ref la, .int (nI A0.2.2.2.length), .ref ba, .ref np, .ref ns, .ref nl, .int (nI A.2.2.2.length), .int (nI z_17.2), .int ((-1)), u15, u16, u17, u18, u19, u20]), (mt, eI (gI G) 400 g), (pa, eI (gI G) 1769 P), (sa, eI (gI G) 62 sp), (la, eI (gI G) 62 al), (ba, eI (gI G) 600 b2), (np, eI (gI G) 1769 F), (ns, eI (gI G) 62 (upd s2 (31 + z_17.1.1) (nI z_17.1.2.1))), (nl, eI (gI G) 62 (upd l2 (31 + z_17.1.1) (nI z_17.1.2.2)))]) := hV
                  refine W.eq (g2 := F0 mi 164 ls []) rfl ?_
                  refine lv_goto (tgt := 190) hx hb d_Mo_read_164 (by decide) ?_
                  refine lv_goto (tgt := 83) hx hb d_Mo_read_190 (by decide) ?_
                  exact ih F _ _ b2 (rowA A (.inr (.inr (.inr (.inl z_17.1))))) z_17.2 (k2 - 1) (by omega) hM (msA_putS hS t1 t2 t3 t4 t5) hB hb0 hlen (by show 7 * A.2.2.2.length ≤ _; omega) (by omega) (by omega) (hR.trans hG) H locs ls hz hV (lv_sub hl [1] rfl)
            · replace c_11 : t q_6 = 104 := (nI_eq (a := t q_6) (b := 104) (by omega) (by omega)).mp c_11
              refine lv_aload_n hx hb d_Mo_read_144 rfl (lv_at hl 1 rfl) ?_
              refine lv_iconst (v := 0) hx hb d_Mo_read_145 (by decide) ?_
              refine v_call (va_runV (As := [.int 0]) (rest := []) ⟨hx, hb, hml, hown, hts⟩ (c_Mo_spotRow l G lo _ _ m mt ns nl th pl (.ref pa) (.ref sa) (.ref la) (.int (nI A0.2.2.2.length)) (.ref ba) (.ref np) (.int (nI A.2.2.2.length)) u15 u16 u17 u18 u19 u20 g s2 l2 t n (q_6 + 1) 0 (nd_sub hn [0, 1, 7, 8] (by decide) rfl) hT h4 (by omega) (by decide)) (kwV 1 hts w_co_Mo_spotRow rfl rfl w_it_Mo w_ml_Mo_120 w_im_Mo_spotRow w_se_Mo__Mo_spotRow (by decide +kernel) ⟨(Nat.le_of_ble_eq_true rfl), (Nat.le_of_ble_eq_true rfl)⟩) (u_preV hK hV hn [0, 1, 7, 8] rfl hz 0 rfl rfl) rfl rfl hl.1 rfl (lv_room (Nat.le_of_ble_eq_true rfl)) d_Mo_read_146 ⟨(Nat.le_of_ble_eq_true rfl), (Nat.le_of_ble_eq_true rfl)⟩) hV (fun r9 V9 H locs hp hV hle => ?_)
              obtain ⟨rfl, ⟨ax_19, sx_19, lx_19, rfl, hpx_19⟩, hz⟩ := hp
              replace hV := u_back hV hn [0, 1, 7, 8] rfl
              rcases x_19 : semi t n (spotR t n (q_6 + 1)) with e_19 | z_19
              · rw [x_19] at hV
                obtain ⟨hE1, be_19⟩ := rows_sl (A := A) (k := k2) (c := fun y => (.inr (.inr (.inl y)) : RowE)) (by omega) hq_6 l_7 (row_104 hq_6 l_7 (by omega)) x_19
                have hE : txtR t n A0 = .inl e_19 := hR.trans hE1
                have hV : vS G.1 cls lo s H locs (vU V [(m, eO 8 [th, .int (nI n), .ref mt, pl, .ref pa, .ref sa, .ref la, .int (nI A0.2.2.2.length), .ref ba, .ref np, .ref ns, .ref nl, .int (nI A.2.2.2.length), .int (nI ax_19), .int (nI e_19), u15, u16, u17, u18, u19, u20]), (mt, eI (gI G) 400 g), (pa, eI (gI G) 1769 P), (sa, eI (gI G) 62 sp), (la, eI (gI G) 62 al), (ba, eI (gI G) 600 b2), (np, eI (gI G) 1769 F), (ns, eI (gI G) 62 sx_19), (nl, eI (gI G) 62 lx_19)]) := hV
                refine W.eq (g2 := F0 mi 149 ls []) rfl ?_
                refine lv_goto (tgt := 190) hx hb d_Mo_read_149 (by decide) ?_
                refine lv_goto (tgt := 83) hx hb d_Mo_read_190 (by decide) ?_
                refine lv_aload_n hx hb d_Mo_read_83 rfl (lv_at hl 1 rfl) ?_
                refine u_get hx hb hts inMo hown hK hV hn 0 rfl rfl 14 (by decide) w_fl_Mo_68 rfl rfl d_Mo_read_84 ?_
                refine lv_if_ge (tgt := 193) hx hb d_Mo_read_87 (by decide) (fun c_20 => ?_) (fun c_20 => absurd (nI_ge0 (by omega)) c_20)
                replace c_20 : 0 ≤ e_19 := (nI_leI (a := 0) (b := e_19) (by omega) (by omega)).mp c_20
                exact bad F sx_19 lx_19 b2 A.2.2.2.length ax_19 e_19 (by omega) hb0 hE H locs ls hz hV (lv_sub hl [1] rfl)
              · rw [x_19] at hV
                obtain ⟨hG, gz_19, bz_19⟩ := rows_sr (A := A) (k := k2) (c := fun y => (.inr (.inr (.inl y)) : RowE)) (by omega) hq_6 l_7 (row_104 hq_6 l_7 (by omega)) x_19
                obtain ⟨eax_19, esx_19, elx_19⟩ := hpx_19 _ x_19
                rw [eax_19, esx_19, elx_19] at hV
                obtain ⟨t1, t2, t3, t4, t5⟩ := sem_spot (by omega) x_19
                have hV : vS G.1 cls lo s H locs (vU V [(m, eO 8 [th, .int (nI n), .ref mt, pl, .ref pa, .ref sa, .ref la, .int (nI A0.2.2.2.length), .ref ba, .ref np, .ref ns, .ref nl, .int (nI A.2.2.2.length), .int (nI z_19.2), .int ((-1)), u15, u16, u17, u18, u19, u20]), (mt, eI (gI G) 400 g), (pa, eI (gI G) 1769 P), (sa, eI (gI G) 62 sp), (la, eI (gI G) 62 al), (ba, eI (gI G) 600 b2), (np, eI (gI G) 1769 F), (ns, eI (gI G) 62 (upd s2 (0 + z_19.1.1) (nI z_19.1.2.1))), (nl, eI (gI G) 62 (upd l2 (0 + z_19.1.1) (nI z_19.1.2.2)))]) := hV
                refine W.eq (g2 := F0 mi 149 ls []) rfl ?_
                refine lv_goto (tgt := 190) hx hb d_Mo_read_149 (by decide) ?_
                refine lv_goto (tgt := 83) hx hb d_Mo_read_190 (by decide) ?_
                exact ih F _ _ b2 (rowA A (.inr (.inr (.inl z_19.1)))) z_19.2 (k2 - 1) (by omega) hM (msA_putB hS t1 t2 t3 t4 t5) hB hb0 hlen (by show 7 * A.2.2.2.length ≤ _; omega) (by omega) (by omega) (hR.trans hG) H locs ls hz hV (lv_sub hl [1] rfl)
          · replace c_10 : t q_6 = 120 := (nI_eq (a := t q_6) (b := 120) (by omega) (by omega)).mp c_10
            refine lv_aload_n hx hb d_Mo_read_131 rfl (lv_at hl 1 rfl) ?_
            refine v_call (va_runV (As := []) (rest := []) ⟨hx, hb, hml, hown, hts⟩ (c_Mo_barRow l G lo _ _ m mt ba th pl (.ref pa) (.ref sa) (.ref la) (.int (nI A0.2.2.2.length)) (.ref np) (.ref ns) (.ref nl) u15 u16 u17 u18 u19 u20 g b2 A.2.2.2 t n (q_6 + 1) (nd_sub hn [0, 1, 5] (by decide) rfl) hT h4 (by omega) hB (by omega)) (kwV 0 hts w_co_Mo_barRow rfl rfl w_it_Mo w_ml_Mo_117 w_im_Mo_barRow w_se_Mo__Mo_barRow (by decide +kernel) ⟨(Nat.le_of_ble_eq_true rfl), (Nat.le_of_ble_eq_true rfl)⟩) (u_preV hK hV hn [0, 1, 5] rfl hz 0 rfl rfl) rfl rfl hl.1 rfl (lv_room (Nat.le_of_ble_eq_true rfl)) d_Mo_read_132 ⟨(Nat.le_of_ble_eq_true rfl), (Nat.le_of_ble_eq_true rfl)⟩) hV (fun r9 V9 H locs hp hV hle => ?_)
            obtain ⟨rfl, ⟨ax_21, bx_21, Lx_21, rfl, hBx_21, hagx_21, hl1x_21, hl2x_21, hpx_21⟩, hz⟩ := hp
            replace hV := u_back hV hn [0, 1, 5] rfl
            rcases x_21 : semi t n (turnR t n (q_6 + 1)) with e_21 | z_21
            · rw [x_21] at hV
              obtain ⟨hE1, be_21⟩ := rows_sl (A := A) (k := k2) (c := fun y => (.inr (.inl y) : RowE)) (by omega) hq_6 l_7 (row_120 hq_6 l_7 (by omega)) x_21
              have hE : txtR t n A0 = .inl e_21 := hR.trans hE1
              have hV : vS G.1 cls lo s H locs (vU V [(m, eO 8 [th, .int (nI n), .ref mt, pl, .ref pa, .ref sa, .ref la, .int (nI A0.2.2.2.length), .ref ba, .ref np, .ref ns, .ref nl, .int (nI Lx_21.length), .int (nI ax_21), .int (nI e_21), u15, u16, u17, u18, u19, u20]), (mt, eI (gI G) 400 g), (pa, eI (gI G) 1769 P), (sa, eI (gI G) 62 sp), (la, eI (gI G) 62 al), (ba, eI (gI G) 600 bx_21), (np, eI (gI G) 1769 F), (ns, eI (gI G) 62 s2), (nl, eI (gI G) 62 l2)]) := hV
              refine W.eq (g2 := F0 mi 135 ls []) rfl ?_
              refine lv_goto (tgt := 190) hx hb d_Mo_read_135 (by decide) ?_
              refine lv_goto (tgt := 83) hx hb d_Mo_read_190 (by decide) ?_
              refine lv_aload_n hx hb d_Mo_read_83 rfl (lv_at hl 1 rfl) ?_
              refine u_get hx hb hts inMo hown hK hV hn 0 rfl rfl 14 (by decide) w_fl_Mo_68 rfl rfl d_Mo_read_84 ?_
              refine lv_if_ge (tgt := 193) hx hb d_Mo_read_87 (by decide) (fun c_22 => ?_) (fun c_22 => absurd (nI_ge0 (by omega)) c_22)
              replace c_22 : 0 ≤ e_21 := (nI_leI (a := 0) (b := e_21) (by omega) (by omega)).mp c_22
              exact bad F s2 l2 bx_21 Lx_21.length ax_21 e_21 (by omega) (fun i hi => (hagx_21 i (by omega)).trans (hb0 i hi)) hE H locs ls hz hV (lv_sub hl [1] rfl)
            · rw [x_21] at hV
              obtain ⟨hG, gz_21, bz_21⟩ := rows_sr (A := A) (k := k2) (c := fun y => (.inr (.inl y) : RowE)) (by omega) hq_6 l_7 (row_120 hq_6 l_7 (by omega)) x_21
              obtain ⟨eax_21, eLx_21⟩ := hpx_21 _ x_21
              rw [eax_21] at hV
              have t6 := sem_turn (by omega) x_21
              have hV : vS G.1 cls lo s H locs (vU V [(m, eO 8 [th, .int (nI n), .ref mt, pl, .ref pa, .ref sa, .ref la, .int (nI A0.2.2.2.length), .ref ba, .ref np, .ref ns, .ref nl, .int (nI Lx_21.length), .int (nI z_21.2), .int ((-1)), u15, u16, u17, u18, u19, u20]), (mt, eI (gI G) 400 g), (pa, eI (gI G) 1769 P), (sa, eI (gI G) 62 sp), (la, eI (gI G) 62 al), (ba, eI (gI G) 600 bx_21), (np, eI (gI G) 1769 F), (ns, eI (gI G) 62 s2), (nl, eI (gI G) 62 l2)]) := hV
              refine W.eq (g2 := F0 mi 135 ls []) rfl ?_
              refine lv_goto (tgt := 190) hx hb d_Mo_read_135 (by decide) ?_
              refine lv_goto (tgt := 83) hx hb d_Mo_read_190 (by decide) ?_
              have hV : vS G.1 cls lo s H locs (vU V [(m, eO 8 [th, .int (nI n), .ref mt, pl, .ref pa, .ref sa, .ref la, .int (nI A0.2.2.2.length), .ref ba, .ref np, .ref ns, .ref nl, .int (nI ((rowA A (.inr (.inl z_21.1))).2.2.2.length)), .int (nI z_21.2), .int ((-1)), u15, u16, u17, u18, u19, u20]), (mt, eI (gI G) 400 g), (pa, eI (gI G) 1769 P), (sa, eI (gI G) 62 sp), (la, eI (gI G) 62 al), (ba, eI (gI G) 600 bx_21), (np, eI (gI G) 1769 F), (ns, eI (gI G) 62 s2), (nl, eI (gI G) 62 l2)]) := by rw [eLx_21] at hV; exact hV
              exact ih F s2 l2 _ (rowA A (.inr (.inl z_21.1))) z_21.2 (k2 - 1) (by omega) hM hS (show mbA _ (if _ then _ else _) from eLx_21 ▸ hBx_21) (fun i hi => (hagx_21 i (by omega)).trans (hb0 i hi)) (by show _ ≤ (if _ then _ else _ : List Tri).length; rw [← eLx_21]; omega) (by show 7 * (if _ then _ else _ : List Tri).length ≤ _; rw [← eLx_21]; omega) (by omega) (by omega) (hR.trans hG) H locs ls hz hV (lv_sub hl [1] rfl)
        · replace c_9 : t q_6 = 112 := (nI_eq (a := t q_6) (b := 112) (by omega) (by omega)).mp c_9
          refine lv_aload_n hx hb d_Mo_read_118 rfl (lv_at hl 1 rfl) ?_
          refine v_call (va_runV (As := []) (rest := []) ⟨hx, hb, hml, hown, hts⟩ (c_Mo_pieceRow l G lo _ _ m mt np th pl (.ref pa) (.ref sa) (.ref la) (.int (nI A0.2.2.2.length)) (.ref ba) (.ref ns) (.ref nl) (.int (nI A.2.2.2.length)) u15 u16 u17 u18 u19 u20 g F t n (q_6 + 1) (nd_sub hn [0, 1, 6] (by decide) rfl) hT h4 (by omega)) (kwV 0 hts w_co_Mo_pieceRow rfl rfl w_it_Mo w_ml_Mo_114 w_im_Mo_pieceRow w_se_Mo__Mo_pieceRow (by decide +kernel) ⟨(Nat.le_of_ble_eq_true rfl), (Nat.le_of_ble_eq_true rfl)⟩) (u_preV hK hV hn [0, 1, 6] rfl hz 0 rfl rfl) rfl rfl hl.1 rfl (lv_room (Nat.le_of_ble_eq_true rfl)) d_Mo_read_119 ⟨(Nat.le_of_ble_eq_true rfl), (Nat.le_of_ble_eq_true rfl)⟩) hV (fun r9 V9 H locs hp hV hle => ?_)
          obtain ⟨rfl, ⟨ax_23, Fx_23, rfl, hpx_23⟩, hz⟩ := hp
          replace hV := u_back hV hn [0, 1, 6] rfl
          rcases x_23 : semi t n (pieceR t n (q_6 + 1)) with e_23 | z_23
          · rw [x_23] at hV
            obtain ⟨hE1, be_23⟩ := rows_sl (A := A) (k := k2) (c := fun y => (.inl y : RowE)) (by omega) hq_6 l_7 (row_112 hq_6 l_7 (by omega)) x_23
            have hE : txtR t n A0 = .inl e_23 := hR.trans hE1
            have hV : vS G.1 cls lo s H locs (vU V [(m, eO 8 [th, .int (nI n), .ref mt, pl, .ref pa, .ref sa, .ref la, .int (nI A0.2.2.2.length), .ref ba, .ref np, .ref ns, .ref nl, .int (nI A.2.2.2.length), .int (nI ax_23), .int (nI e_23), u15, u16, u17, u18, u19, u20]), (mt, eI (gI G) 400 g), (pa, eI (gI G) 1769 P), (sa, eI (gI G) 62 sp), (la, eI (gI G) 62 al), (ba, eI (gI G) 600 b2), (np, eI (gI G) 1769 Fx_23), (ns, eI (gI G) 62 s2), (nl, eI (gI G) 62 l2)]) := hV
            refine W.eq (g2 := F0 mi 122 ls []) rfl ?_
            refine lv_goto (tgt := 190) hx hb d_Mo_read_122 (by decide) ?_
            refine lv_goto (tgt := 83) hx hb d_Mo_read_190 (by decide) ?_
            refine lv_aload_n hx hb d_Mo_read_83 rfl (lv_at hl 1 rfl) ?_
            refine u_get hx hb hts inMo hown hK hV hn 0 rfl rfl 14 (by decide) w_fl_Mo_68 rfl rfl d_Mo_read_84 ?_
            refine lv_if_ge (tgt := 193) hx hb d_Mo_read_87 (by decide) (fun c_24 => ?_) (fun c_24 => absurd (nI_ge0 (by omega)) c_24)
            replace c_24 : 0 ≤ e_23 := (nI_leI (a := 0) (b := e_23) (by omega) (by omega)).mp c_24
            exact bad Fx_23 s2 l2 b2 A.2.2.2.length ax_23 e_23 (by omega) hb0 hE H locs ls hz hV (lv_sub hl [1] rfl)
          · rw [x_23] at hV
            obtain ⟨hG, gz_23, bz_23⟩ := rows_sr (A := A) (k := k2) (c := fun y => (.inl y : RowE)) (by omega) hq_6 l_7 (row_112 hq_6 l_7 (by omega)) x_23
            obtain ⟨eax_23, fx_23, eFx_23, hpR⟩ := hpx_23 _ x_23
            rw [eax_23, eFx_23] at hV
            have hV : vS G.1 cls lo s H locs (vU V [(m, eO 8 [th, .int (nI n), .ref mt, pl, .ref pa, .ref sa, .ref la, .int (nI A0.2.2.2.length), .ref ba, .ref np, .ref ns, .ref nl, .int (nI A.2.2.2.length), .int (nI z_23.2), .int ((-1)), u15, u16, u17, u18, u19, u20]), (mt, eI (gI G) 400 g), (pa, eI (gI G) 1769 P), (sa, eI (gI G) 62 sp), (la, eI (gI G) 62 al), (ba, eI (gI G) 600 b2), (np, eI (gI G) 1769 (rowU F z_23.1.1 fx_23)), (ns, eI (gI G) 62 s2), (nl, eI (gI G) 62 l2)]) := hV
            refine W.eq (g2 := F0 mi 122 ls []) rfl ?_
            refine lv_goto (tgt := 190) hx hb d_Mo_read_122 (by decide) ?_
            refine lv_goto (tgt := 83) hx hb d_Mo_read_190 (by decide) ?_
            exact ih _ s2 l2 b2 (rowA A (.inl z_23.1)) z_23.2 (k2 - 1) (by omega) (by show mpA _ (va_up A.1 _ _); exact mpA_put hM hpR (sem_piece (by omega) x_23)) hS hB hb0 hlen (by show 7 * A.2.2.2.length ≤ _; omega) (by omega) (by omega) (hR.trans hG) H locs ls hz hV (lv_sub hl [1] rfl)
      · have hE : txtR t n A0 = .inr A := by rw [hR]; exact rows_end (by rw [hq_6]; omega)
        have hV : vS G.1 cls lo s H locs (vU V [(m, eO 8 [th, .int (nI n), .ref mt, pl, .ref pa, .ref sa, .ref la, .int (nI A0.2.2.2.length), .ref ba, .ref np, .ref ns, .ref nl, .int (nI A.2.2.2.length), .int (nI q_6), .int ((-1)), u15, u16, u17, u18, u19, u20]), (mt, eI (gI G) 400 g), (pa, eI (gI G) 1769 P), (sa, eI (gI G) 62 sp), (la, eI (gI G) 62 al), (ba, eI (gI G) 600 b2), (np, eI (gI G) 1769 F), (ns, eI (gI G) 62 s2), (nl, eI (gI G) 62 l2)]) := hV
        refine W.eq (g2 := F0 mi 94 ls [.int ((-1))]) (by rw [hq_6, rK_out (by omega)]; rfl) ?_
        refine lv_if_lt (tgt := 193) hx hb d_Mo_read_94 (by decide) (fun _ => ?_) (fun c_25 => absurd c_25 (by decide))
        refine lv_aload_n hx hb d_Mo_read_193 rfl (lv_at hl 0 rfl) ?_
        refine lv_iconst (v := 0) hx hb d_Mo_read_194 (by decide) ?_
        refine u_put hx hb hts inMo tyMo tyMo_ok nmMo hown hK hV hn 0 rfl rfl 1 (by decide) w_fl_Mo_58 rfl rfl rfl rfl (Nat.le_of_ble_eq_true rfl) d_Mo_read_195 (fun H locs hV hz9 => ?_)
        have hV : vS G.1 cls lo s H locs (vU V [(m, eO 8 [th, .int 0, .ref mt, pl, .ref pa, .ref sa, .ref la, .int (nI A0.2.2.2.length), .ref ba, .ref np, .ref ns, .ref nl, .int (nI A.2.2.2.length), .int (nI q_6), .int ((-1)), u15, u16, u17, u18, u19, u20]), (mt, eI (gI G) 400 g), (pa, eI (gI G) 1769 P), (sa, eI (gI G) 62 sp), (la, eI (gI G) 62 al), (ba, eI (gI G) 600 b2), (np, eI (gI G) 1769 F), (ns, eI (gI G) 62 s2), (nl, eI (gI G) 62 l2)]) := hV
        replace hz := hz9.trans hz
        refine lv_aload_n hx hb d_Mo_read_198 rfl (lv_at hl 0 rfl) ?_
        refine lv_aload_n hx hb d_Mo_read_199 rfl (lv_at hl 0 rfl) ?_
        refine u_get hx hb hts inMo hown hK hV hn 0 rfl rfl 14 (by decide) w_fl_Mo_68 rfl rfl d_Mo_read_200 ?_
        refine u_put hx hb hts inMo tyMo tyMo_ok nmMo hown hK hV hn 0 rfl rfl 3 (by decide) w_fl_Mo_13 rfl rfl rfl rfl (Nat.le_of_ble_eq_true rfl) d_Mo_read_203 (fun H locs hV hz9 => ?_)
        have hV : vS G.1 cls lo s H locs (vU V [(m, eO 8 [th, .int 0, .ref mt, .int ((-1)), .ref pa, .ref sa, .ref la, .int (nI A0.2.2.2.length), .ref ba, .ref np, .ref ns, .ref nl, .int (nI A.2.2.2.length), .int (nI q_6), .int ((-1)), u15, u16, u17, u18, u19, u20]), (mt, eI (gI G) 400 g), (pa, eI (gI G) 1769 P), (sa, eI (gI G) 62 sp), (la, eI (gI G) 62 al), (ba, eI (gI G) 600 b2), (np, eI (gI G) 1769 F), (ns, eI (gI G) 62 s2), (nl, eI (gI G) 62 l2)]) := hV
        replace hz := hz9.trans hz
        refine lv_aload_n hx hb d_Mo_read_206 rfl (lv_at hl 0 rfl) ?_
        refine lv_aload_n hx hb d_Mo_read_207 rfl (lv_at hl 0 rfl) ?_
        refine u_get hx hb hts inMo hown hK hV hn 0 rfl rfl 14 (by decide) w_fl_Mo_68 rfl rfl d_Mo_read_208 ?_
        refine lv_if_lt (tgt := 218) hx hb d_Mo_read_211 (by decide) (fun _ => ?_) (fun c_26 => absurd c_26 (by decide))
        refine lv_aload_n hx hb d_Mo_read_218 rfl (lv_at hl 0 rfl) ?_
        refine u_get hx hb hts inMo hown hK hV hn 0 rfl rfl 12 (by decide) w_fl_Mo_104 rfl rfl d_Mo_read_219 ?_
        refine lv_bipush (v := 20) hx hb d_Mo_read_222 (by decide) ?_
        refine lv_icmp_le (tgt := 231) hx hb d_Mo_read_224 (by decide) (fun c_27 => ?_) (fun c_27 => ?_)
        · replace c_27 : A.2.2.2.length ≤ 20 := (nI_leI (a := A.2.2.2.length) (b := 20) (by omega) (by omega)).mp c_27
          have hX : rdR t n A0 = .inr A := by unfold rdR; rw [hE]; exact if_neg (by omega)
          refine lv_iconst (v := 0) hx hb d_Mo_read_231 (by decide) ?_
          refine u_put hx hb hts inMo tyMo tyMo_ok nmMo hown hK hV hn 0 rfl rfl 0 (by decide) w_fl_Mo_51 rfl rfl rfl rfl (Nat.le_of_ble_eq_true rfl) d_Mo_read_232 (fun H locs hV hz9 => ?_)
          have hV : vS G.1 cls lo s H locs (vU V [(m, eO 8 [.int 0, .int 0, .ref mt, .int ((-1)), .ref pa, .ref sa, .ref la, .int (nI A0.2.2.2.length), .ref ba, .ref np, .ref ns, .ref nl, .int (nI A.2.2.2.length), .int (nI q_6), .int ((-1)), u15, u16, u17, u18, u19, u20]), (mt, eI (gI G) 400 g), (pa, eI (gI G) 1769 P), (sa, eI (gI G) 62 sp), (la, eI (gI G) 62 al), (ba, eI (gI G) 600 b2), (np, eI (gI G) 1769 F), (ns, eI (gI G) 62 s2), (nl, eI (gI G) 62 l2)]) := hV
          replace hz := hz9.trans hz
          refine lv_aload_n hx hb d_Mo_read_235 rfl (lv_at hl 0 rfl) ?_
          refine u_get hx hb hts inMo hown hK hV hn 0 rfl rfl 0 (by decide) w_fl_Mo_51 rfl rfl d_Mo_read_236 ?_
          refine lv_if_le (tgt := 244) hx hb d_Mo_read_239 (by decide) (fun _ => ?_) (fun c_28 => absurd c_28 (by decide))
          refine lv_iconst (v := 0) hx hb d_Mo_read_244 (by decide) ?_
          refine lv_istore_n (lv' := [(1, .int 0), (0, .ref m)]) hx hb d_Mo_read_245 rfl hl (by decide) rfl (fun ls hl => ?_)
          have hV : vS G.1 cls lo s H locs (vU V [(m, eO 8 [.int 0, .int 0, .ref mt, .int ((-1)), .ref pa, .ref sa, .ref la, .int (nI A0.2.2.2.length), .ref ba, .ref np, .ref ns, .ref nl, .int (nI A.2.2.2.length), .int (nI q_6), .int ((-1)), u15, u16, u17, u18, u19, u20]), (mt, eI (gI G) 400 g), (pa, eI (gI G) 1769 (cpT P F 0)), (sa, eI (gI G) 62 sp), (la, eI (gI G) 62 al), (ba, eI (gI G) 600 b2), (np, eI (gI G) 1769 F), (ns, eI (gI G) 62 s2), (nl, eI (gI G) 62 l2)]) := by rw [cpT_0]; exact hV
          exact e1 1770 F s2 l2 b2 A q_6 0 (by decide) (by decide) hM hS hB hX hE H locs ls hz hV (lv_sub hl [1, 0] rfl)
        · replace c_27 : ¬ A.2.2.2.length ≤ 20 := fun z9 => c_27 ((nI_leI (a := A.2.2.2.length) (b := 20) (by omega) (by omega)).mpr z9)
          have hX : rdR t n A0 = .inl 2 := by unfold rdR; rw [hE]; exact if_pos (by omega)
          refine lv_iconst (v := 2) hx hb d_Mo_read_227 (by decide) ?_
          refine lv_goto (tgt := 232) hx hb d_Mo_read_228 (by decide) ?_
          refine u_put hx hb hts inMo tyMo tyMo_ok nmMo hown hK hV hn 0 rfl rfl 0 (by decide) w_fl_Mo_51 rfl rfl rfl rfl (Nat.le_of_ble_eq_true rfl) d_Mo_read_232 (fun H locs hV hz9 => ?_)
          have hV : vS G.1 cls lo s H locs (vU V [(m, eO 8 [.int 2, .int 0, .ref mt, .int ((-1)), .ref pa, .ref sa, .ref la, .int (nI A0.2.2.2.length), .ref ba, .ref np, .ref ns, .ref nl, .int (nI A.2.2.2.length), .int (nI q_6), .int ((-1)), u15, u16, u17, u18, u19, u20]), (mt, eI (gI G) 400 g), (pa, eI (gI G) 1769 P), (sa, eI (gI G) 62 sp), (la, eI (gI G) 62 al), (ba, eI (gI G) 600 b2), (np, eI (gI G) 1769 F), (ns, eI (gI G) 62 s2), (nl, eI (gI G) 62 l2)]) := hV
          replace hz := hz9.trans hz
          refine lv_aload_n hx hb d_Mo_read_235 rfl (lv_at hl 0 rfl) ?_
          refine u_get hx hb hts inMo hown hK hV hn 0 rfl rfl 0 (by decide) w_fl_Mo_51 rfl rfl d_Mo_read_236 ?_
          refine lv_if_le (tgt := 244) hx hb d_Mo_read_239 (by decide) (fun c_29 => absurd c_29 (by decide)) (fun _ => ?_)
          refine lv_iconst (v := 0) hx hb d_Mo_read_242 (by decide) ?_
          exact W.iret (v := 0) hx hb hr (v_end hV ⟨by rw [hX]; rfl, ⟨_, _, _, _, _, _, _, _, _, _, by rw [hX, hE]; rfl, by rw [hX]; exact hM0, by rw [hX]; exact hS0, by rw [hX]; exact (mbA_ext hB0 hb0)⟩, hz⟩) hV.2.1.2.2 d_Mo_read_243
  have i2 : ∀ (k : Nat) (i : Nat), 62 - i < k → (i ≤ 62) → ∀ (H : Heap) (locs : List Loc) (ls : Array Slot), H.size = sz → vS G.1 cls lo s H locs (vU V [(m, eO 8 [th, .int (nI n), .ref mt, pl, .ref pa, .ref sa, .ref la, .int (nI A0.2.2.2.length), .ref ba, .ref np, .ref ns, .ref nl, nb, at0, wr, u15, u16, u17, u18, u19, u20]), (mt, eI (gI G) 400 g), (pa, eI (gI G) 1769 P), (sa, eI (gI G) 62 sp), (la, eI (gI G) 62 al), (ba, eI (gI G) 600 b), (np, eI (gI G) 1769 (cpT fN P 1769)), (ns, eI (gI G) 62 (cpT sN sp i)), (nl, eI (gI G) 62 (cpT lN al i))]) → lv_has ls 2 [(0, .ref m), (1, .int (nI i))] → W pg l ev ({ frames := 5, cells := 0, slots := 0, locals := 150 } : Room) s mi args below meth cd H locs 0 0 (MQ below (vPost G lo (fun r V' k => r = some (.int (vaT (rdR t n A0))) ∧ (∃ (P2 sp2 al2 b2 F2 s2 l2 : Nat → Int32) (nb2 at2 wr2 : Value), V' = vU V [(m, eO 8 [.int (thI (rdR t n A0)), .int 0, .ref mt, .int (wI (txtR t n A0)), .ref pa, .ref sa, .ref la, .int (nI ((rdA A0 (rdR t n A0)).2.2.2.length)), .ref ba, .ref np, .ref ns, .ref nl, nb2, at2, wr2, u15, u16, u17, u18, u19, u20]), (mt, eI (gI G) 400 g), (pa, eI (gI G) 1769 P2), (sa, eI (gI G) 62 sp2), (la, eI (gI G) 62 al2), (ba, eI (gI G) 600 b2), (np, eI (gI G) 1769 F2), (ns, eI (gI G) 62 s2), (nl, eI (gI G) 62 l2)] ∧ mpA P2 (rdA A0 (rdR t n A0)).1 ∧ msA sp2 al2 (rdA A0 (rdR t n A0)).2.1 (rdA A0 (rdR t n A0)).2.2.1 ∧ mbA b2 (rdA A0 (rdR t n A0)).2.2.2) ∧ k = sz)) args s 0 0 (vL lo)) (F0 mi 29 ls []) := by
    intro k
    induction k with
    | zero => intro i hk; exact absurd hk (by omega)
    | succ k ih =>
      intro i hk hi H locs ls hz hV hl
      refine lv_iload_n hx hb d_Mo_read_29 rfl (lv_at hl 1 rfl) ?_
      refine lv_bipush (v := 62) hx hb d_Mo_read_30 (by decide) ?_
      refine lv_icmp_ge (tgt := 65) hx hb d_Mo_read_32 (by decide) (fun c_30 => ?_) (fun c_30 => ?_)
      · replace c_30 : 62 ≤ i := (nI_leI (a := 62) (b := i) (by omega) (by omega)).mp c_30
        rw [show i = 62 by omega] at hV
        refine lv_aload_n hx hb d_Mo_read_65 rfl (lv_at hl 0 rfl) ?_
        refine lv_aload_n hx hb d_Mo_read_66 rfl (lv_at hl 0 rfl) ?_
        refine u_get hx hb hts inMo hown hK hV hn 0 rfl rfl 7 (by decide) w_fl_Mo_111 rfl rfl d_Mo_read_67 ?_
        refine u_put hx hb hts inMo tyMo tyMo_ok nmMo hown hK hV hn 0 rfl rfl 12 (by decide) w_fl_Mo_104 rfl rfl rfl rfl (Nat.le_of_ble_eq_true rfl) d_Mo_read_70 (fun H locs hV hz9 => ?_)
        have hV : vS G.1 cls lo s H locs (vU V [(m, eO 8 [th, .int (nI n), .ref mt, pl, .ref pa, .ref sa, .ref la, .int (nI A0.2.2.2.length), .ref ba, .ref np, .ref ns, .ref nl, .int (nI A0.2.2.2.length), at0, wr, u15, u16, u17, u18, u19, u20]), (mt, eI (gI G) 400 g), (pa, eI (gI G) 1769 P), (sa, eI (gI G) 62 sp), (la, eI (gI G) 62 al), (ba, eI (gI G) 600 b), (np, eI (gI G) 1769 (cpT fN P 1769)), (ns, eI (gI G) 62 (cpT sN sp 62)), (nl, eI (gI G) 62 (cpT lN al 62))]) := hV
        replace hz := hz9.trans hz
        refine lv_aload_n hx hb d_Mo_read_73 rfl (lv_at hl 0 rfl) ?_
        refine lv_iconst (v := 0) hx hb d_Mo_read_74 (by decide) ?_
        refine u_put hx hb hts inMo tyMo tyMo_ok nmMo hown hK hV hn 0 rfl rfl 13 (by decide) w_fl_Mo_61 rfl rfl rfl rfl (Nat.le_of_ble_eq_true rfl) d_Mo_read_75 (fun H locs hV hz9 => ?_)
        have hV : vS G.1 cls lo s H locs (vU V [(m, eO 8 [th, .int (nI n), .ref mt, pl, .ref pa, .ref sa, .ref la, .int (nI A0.2.2.2.length), .ref ba, .ref np, .ref ns, .ref nl, .int (nI A0.2.2.2.length), .int 0, wr, u15, u16, u17, u18, u19, u20]), (mt, eI (gI G) 400 g), (pa, eI (gI G) 1769 P), (sa, eI (gI G) 62 sp), (la, eI (gI G) 62 al), (ba, eI (gI G) 600 b), (np, eI (gI G) 1769 (cpT fN P 1769)), (ns, eI (gI G) 62 (cpT sN sp 62)), (nl, eI (gI G) 62 (cpT lN al 62))]) := hV
        replace hz := hz9.trans hz
        refine lv_aload_n hx hb d_Mo_read_78 rfl (lv_at hl 0 rfl) ?_
        refine lv_iconst (v := (-1)) hx hb d_Mo_read_79 (by decide) ?_
        refine u_put hx hb hts inMo tyMo tyMo_ok nmMo hown hK hV hn 0 rfl rfl 14 (by decide) w_fl_Mo_68 rfl rfl rfl rfl (Nat.le_of_ble_eq_true rfl) d_Mo_read_80 (fun H locs hV hz9 => ?_)
        have hV : vS G.1 cls lo s H locs (vU V [(m, eO 8 [th, .int (nI n), .ref mt, pl, .ref pa, .ref sa, .ref la, .int (nI A0.2.2.2.length), .ref ba, .ref np, .ref ns, .ref nl, .int (nI A0.2.2.2.length), .int 0, .int ((-1)), u15, u16, u17, u18, u19, u20]), (mt, eI (gI G) 400 g), (pa, eI (gI G) 1769 P), (sa, eI (gI G) 62 sp), (la, eI (gI G) 62 al), (ba, eI (gI G) 600 b), (np, eI (gI G) 1769 (cpT fN P 1769)), (ns, eI (gI G) 62 (cpT sN sp 62)), (nl, eI (gI G) 62 (cpT lN al 62))]) := hV
        replace hz := hz9.trans hz
        have hV : vS G.1 cls lo s H locs (vU V [(m, eO 8 [th, .int (nI n), .ref mt, pl, .ref pa, .ref sa, .ref la, .int (nI A0.2.2.2.length), .ref ba, .ref np, .ref ns, .ref nl, .int (nI A0.2.2.2.length), .int (nI 0), .int ((-1)), u15, u16, u17, u18, u19, u20]), (mt, eI (gI G) 400 g), (pa, eI (gI G) 1769 P), (sa, eI (gI G) 62 sp), (la, eI (gI G) 62 al), (ba, eI (gI G) 600 b), (np, eI (gI G) 1769 (cpT fN P 1769)), (ns, eI (gI G) 62 (cpT sN sp 62)), (nl, eI (gI G) 62 (cpT lN al 62))]) := hV
        exact loop (n + 1) _ _ _ _ A0 0 (n + 1) (by omega) (mpA_cp hM0) (msA_cp hS0) hB0 (fun _ _ => rfl) (Nat.le_refl _) (by omega) (by omega) (by omega) rfl H locs ls hz hV (lv_sub hl [0] rfl)
      · replace c_30 : ¬ 62 ≤ i := fun z9 => c_30 ((nI_leI (a := 62) (b := i) (by omega) (by omega)).mpr z9)
        refine lv_aload_n hx hb d_Mo_read_35 rfl (lv_at hl 0 rfl) ?_
        refine u_get hx hb hts inMo hown hK hV hn 0 rfl rfl 10 (by decide) w_fl_Mo_32 rfl rfl d_Mo_read_36 ?_
        refine lv_iload_n hx hb d_Mo_read_39 rfl (lv_at hl 1 rfl) ?_
        refine lv_aload_n hx hb d_Mo_read_40 rfl (lv_at hl 0 rfl) ?_
        refine u_get hx hb hts inMo hown hK hV hn 0 rfl rfl 5 (by decide) w_fl_Mo_20 rfl rfl d_Mo_read_41 ?_
        refine lv_iload_n hx hb d_Mo_read_44 rfl (lv_at hl 1 rfl) ?_
        refine u_ialdN hx hb hK hV hn 3 rfl (by omega) (by decide) d_Mo_read_45 ?_
        refine u_iastN hx hb hK hV hn 7 rfl (by omega) (by decide) d_Mo_read_46 (fun H locs hV hz9 => ?_)
        have hV : vS G.1 cls lo s H locs (vU V [(m, eO 8 [th, .int (nI n), .ref mt, pl, .ref pa, .ref sa, .ref la, .int (nI A0.2.2.2.length), .ref ba, .ref np, .ref ns, .ref nl, nb, at0, wr, u15, u16, u17, u18, u19, u20]), (mt, eI (gI G) 400 g), (pa, eI (gI G) 1769 P), (sa, eI (gI G) 62 sp), (la, eI (gI G) 62 al), (ba, eI (gI G) 600 b), (np, eI (gI G) 1769 (cpT fN P 1769)), (ns, eI (gI G) 62 (upd (cpT sN sp i) i (sp i))), (nl, eI (gI G) 62 (cpT lN al i))]) := hV
        replace hz := hz9.trans hz
        rw [cpT_up] at hV
        refine lv_aload_n hx hb d_Mo_read_47 rfl (lv_at hl 0 rfl) ?_
        refine u_get hx hb hts inMo hown hK hV hn 0 rfl rfl 11 (by decide) w_fl_Mo_35 rfl rfl d_Mo_read_48 ?_
        refine lv_iload_n hx hb d_Mo_read_51 rfl (lv_at hl 1 rfl) ?_
        refine lv_aload_n hx hb d_Mo_read_52 rfl (lv_at hl 0 rfl) ?_
        refine u_get hx hb hts inMo hown hK hV hn 0 rfl rfl 6 (by decide) w_fl_Mo_23 rfl rfl d_Mo_read_53 ?_
        refine lv_iload_n hx hb d_Mo_read_56 rfl (lv_at hl 1 rfl) ?_
        refine u_ialdN hx hb hK hV hn 4 rfl (by omega) (by decide) d_Mo_read_57 ?_
        refine u_iastN hx hb hK hV hn 8 rfl (by omega) (by decide) d_Mo_read_58 (fun H locs hV hz9 => ?_)
        have hV : vS G.1 cls lo s H locs (vU V [(m, eO 8 [th, .int (nI n), .ref mt, pl, .ref pa, .ref sa, .ref la, .int (nI A0.2.2.2.length), .ref ba, .ref np, .ref ns, .ref nl, nb, at0, wr, u15, u16, u17, u18, u19, u20]), (mt, eI (gI G) 400 g), (pa, eI (gI G) 1769 P), (sa, eI (gI G) 62 sp), (la, eI (gI G) 62 al), (ba, eI (gI G) 600 b), (np, eI (gI G) 1769 (cpT fN P 1769)), (ns, eI (gI G) 62 (cpT sN sp (i + 1))), (nl, eI (gI G) 62 (upd (cpT lN al i) i (al i)))]) := hV
        replace hz := hz9.trans hz
        rw [cpT_up] at hV
        refine lv_iinc (v := nI (i + 1)) (lv' := [(1, .int (nI (i + 1))), (0, .ref m)]) hx hb d_Mo_read_59 hl (k := 1) rfl (nI_add i 1) (by decide) rfl (fun ls hl => ?_)
        refine lv_goto (tgt := 29) hx hb d_Mo_read_62 (by decide) ?_
        exact ih (i + 1) (by omega) (by omega) H locs ls hz hV (lv_sub hl [1, 0] rfl)
  have i1 : ∀ (k : Nat) (i : Nat), 1769 - i < k → (i ≤ 1769) → ∀ (H : Heap) (locs : List Loc) (ls : Array Slot), H.size = sz → vS G.1 cls lo s H locs (vU V [(m, eO 8 [th, .int (nI n), .ref mt, pl, .ref pa, .ref sa, .ref la, .int (nI A0.2.2.2.length), .ref ba, .ref np, .ref ns, .ref nl, nb, at0, wr, u15, u16, u17, u18, u19, u20]), (mt, eI (gI G) 400 g), (pa, eI (gI G) 1769 P), (sa, eI (gI G) 62 sp), (la, eI (gI G) 62 al), (ba, eI (gI G) 600 b), (np, eI (gI G) 1769 (cpT fN P i)), (ns, eI (gI G) 62 sN), (nl, eI (gI G) 62 lN)]) → lv_has ls 2 [(0, .ref m), (1, .int (nI i))] → W pg l ev ({ frames := 5, cells := 0, slots := 0, locals := 150 } : Room) s mi args below meth cd H locs 0 0 (MQ below (vPost G lo (fun r V' k => r = some (.int (vaT (rdR t n A0))) ∧ (∃ (P2 sp2 al2 b2 F2 s2 l2 : Nat → Int32) (nb2 at2 wr2 : Value), V' = vU V [(m, eO 8 [.int (thI (rdR t n A0)), .int 0, .ref mt, .int (wI (txtR t n A0)), .ref pa, .ref sa, .ref la, .int (nI ((rdA A0 (rdR t n A0)).2.2.2.length)), .ref ba, .ref np, .ref ns, .ref nl, nb2, at2, wr2, u15, u16, u17, u18, u19, u20]), (mt, eI (gI G) 400 g), (pa, eI (gI G) 1769 P2), (sa, eI (gI G) 62 sp2), (la, eI (gI G) 62 al2), (ba, eI (gI G) 600 b2), (np, eI (gI G) 1769 F2), (ns, eI (gI G) 62 s2), (nl, eI (gI G) 62 l2)] ∧ mpA P2 (rdA A0 (rdR t n A0)).1 ∧ msA sp2 al2 (rdA A0 (rdR t n A0)).2.1 (rdA A0 (rdR t n A0)).2.2.1 ∧ mbA b2 (rdA A0 (rdR t n A0)).2.2.2) ∧ k = sz)) args s 0 0 (vL lo)) (F0 mi 2 ls []) := by
    intro k
    induction k with
    | zero => intro i hk; exact absurd hk (by omega)
    | succ k ih =>
      intro i hk hi H locs ls hz hV hl
      refine lv_iload_n hx hb d_Mo_read_2 rfl (lv_at hl 1 rfl) ?_
      refine lv_sipush (v := 1769) hx hb d_Mo_read_3 (by decide) ?_
      refine lv_icmp_ge (tgt := 27) hx hb d_Mo_read_6 (by decide) (fun c_31 => ?_) (fun c_31 => ?_)
      · replace c_31 : 1769 ≤ i := (nI_leI (a := 1769) (b := i) (by omega) (by omega)).mp c_31
        refine lv_iconst (v := 0) hx hb d_Mo_read_27 (by decide) ?_
        refine lv_istore_n (lv' := [(1, .int 0), (0, .ref m)]) hx hb d_Mo_read_28 rfl hl (by decide) rfl (fun ls hl => ?_)
        have hV : vS G.1 cls lo s H locs (vU V [(m, eO 8 [th, .int (nI n), .ref mt, pl, .ref pa, .ref sa, .ref la, .int (nI A0.2.2.2.length), .ref ba, .ref np, .ref ns, .ref nl, nb, at0, wr, u15, u16, u17, u18, u19, u20]), (mt, eI (gI G) 400 g), (pa, eI (gI G) 1769 P), (sa, eI (gI G) 62 sp), (la, eI (gI G) 62 al), (ba, eI (gI G) 600 b), (np, eI (gI G) 1769 (cpT fN P 1769)), (ns, eI (gI G) 62 (cpT sN sp 0)), (nl, eI (gI G) 62 (cpT lN al 0))]) := by rw [cpT_0, cpT_0]; rw [show i = 1769 by omega] at hV; exact hV
        exact i2 63 0 (by decide) (by decide) H locs ls hz hV (lv_sub hl [1, 0] rfl)
      · replace c_31 : ¬ 1769 ≤ i := fun z9 => c_31 ((nI_leI (a := 1769) (b := i) (by omega) (by omega)).mpr z9)
        refine lv_aload_n hx hb d_Mo_read_9 rfl (lv_at hl 0 rfl) ?_
        refine u_get hx hb hts inMo hown hK hV hn 0 rfl rfl 9 (by decide) w_fl_Mo_29 rfl rfl d_Mo_read_10 ?_
        refine lv_iload_n hx hb d_Mo_read_13 rfl (lv_at hl 1 rfl) ?_
        refine lv_aload_n hx hb d_Mo_read_14 rfl (lv_at hl 0 rfl) ?_
        refine u_get hx hb hts inMo hown hK hV hn 0 rfl rfl 4 (by decide) w_fl_Mo_17 rfl rfl d_Mo_read_15 ?_
        refine lv_iload_n hx hb d_Mo_read_18 rfl (lv_at hl 1 rfl) ?_
        refine u_ialdN hx hb hK hV hn 2 rfl (by omega) (by decide) d_Mo_read_19 ?_
        refine u_iastN hx hb hK hV hn 6 rfl (by omega) (by decide) d_Mo_read_20 (fun H locs hV hz9 => ?_)
        have hV : vS G.1 cls lo s H locs (vU V [(m, eO 8 [th, .int (nI n), .ref mt, pl, .ref pa, .ref sa, .ref la, .int (nI A0.2.2.2.length), .ref ba, .ref np, .ref ns, .ref nl, nb, at0, wr, u15, u16, u17, u18, u19, u20]), (mt, eI (gI G) 400 g), (pa, eI (gI G) 1769 P), (sa, eI (gI G) 62 sp), (la, eI (gI G) 62 al), (ba, eI (gI G) 600 b), (np, eI (gI G) 1769 (upd (cpT fN P i) i (P i))), (ns, eI (gI G) 62 sN), (nl, eI (gI G) 62 lN)]) := hV
        replace hz := hz9.trans hz
        rw [cpT_up] at hV
        refine lv_iinc (v := nI (i + 1)) (lv' := [(1, .int (nI (i + 1))), (0, .ref m)]) hx hb d_Mo_read_21 hl (k := 1) rfl (nI_add i 1) (by decide) rfl (fun ls hl => ?_)
        refine lv_goto (tgt := 2) hx hb d_Mo_read_24 (by decide) ?_
        exact ih (i + 1) (by omega) (by omega) H locs ls hz hV (lv_sub hl [1, 0] rfl)
  refine lv_iconst (v := 0) hx hb d_Mo_read_0 (by decide) ?_
  refine lv_istore_n (lv' := [(1, .int 0), (0, .ref m)]) hx hb d_Mo_read_1 rfl hl (by decide) rfl (fun ls hl => ?_)
  have hV : vS G.1 cls lo s H locs (vU V [(m, eO 8 [th, .int (nI n), .ref mt, pl, .ref pa, .ref sa, .ref la, .int (nI A0.2.2.2.length), .ref ba, .ref np, .ref ns, .ref nl, nb, at0, wr, u15, u16, u17, u18, u19, u20]), (mt, eI (gI G) 400 g), (pa, eI (gI G) 1769 P), (sa, eI (gI G) 62 sp), (la, eI (gI G) 62 al), (ba, eI (gI G) 600 b), (np, eI (gI G) 1769 (cpT fN P 0)), (ns, eI (gI G) 62 sN), (nl, eI (gI G) 62 lN)]) := by rw [cpT_0]; exact hV
  exact i1 1770 0 (by decide) (by decide) H locs ls hz hV (lv_sub hl [1, 0] rfl)
