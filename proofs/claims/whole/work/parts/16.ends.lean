theorem turnR_ok {t : Nat → Nat} {n p : Nat} (hp : p ≤ n) : match turnR t n p with
    | .inl e => e ≤ n
    | .inr z => p < z.2 ∧ z.2 ≤ n ∧ z.1.1 < 41 ∧ z.1.2.1 < 41 ∧ z.1.2.2 < 41 ∧ p + 5 ≤ z.2 := by
  unfold turnR
  rcases h1 : num t n 1 40 p with e | ⟨v1, p1⟩
  · simp only [h1, sbd_l, sbd_r]; exact num_er h1 (by omega)
  have g1 := num_ok h1 (by omega)
  rcases h2 : tk t n 45 p1 with e | p2
  · simp only [h1, h2, sbd_l, sbd_r]; exact tk_er h2 (by omega)
  have g2 := tk_ok h2
  rcases h3 : num t n 1 40 p2 with e | ⟨v3, p3⟩
  · simp only [h1, h2, h3, sbd_l, sbd_r]; exact num_er h3 (by omega)
  have g3 := num_ok h3 (by omega)
  rcases h4 : tk t n 45 p3 with e | p4
  · simp only [h1, h2, h3, h4, sbd_l, sbd_r]; exact tk_er h4 (by omega)
  have g4 := tk_ok h4
  rcases h5 : num t n 1 40 p4 with e | ⟨v5, p5⟩
  · simp only [h1, h2, h3, h4, h5, sbd_l, sbd_r]; exact num_er h5 (by omega)
  have g5 := num_ok h5 (by omega)
  simp only [h1, h2, h3, h4, h5, sbd_r]
  omega
theorem spotR_ok {t : Nat → Nat} {n p : Nat} (hp : p ≤ n) : match spotR t n p with
    | .inl e => e ≤ n
    | .inr z => p < z.2 ∧ z.2 ≤ n ∧ 1 ≤ z.1.1 ∧ z.1.1 ≤ 30 ∧ 1 ≤ z.1.2.1 ∧ z.1.2.1 ≤ 60 ∧ z.1.2.2 ≤ 9999 := by
  unfold spotR
  rcases h1 : num t n 1 30 p with e | ⟨v1, p1⟩
  · simp only [h1, sbd_l, sbd_r]; exact num_er h1 (by omega)
  have g1 := num_ok h1 (by omega)
  rcases h2 : tk t n 64 p1 with e | p2
  · simp only [h1, h2, sbd_l, sbd_r]; exact tk_er h2 (by omega)
  have g2 := tk_ok h2
  rcases h3 : num t n 1 60 p2 with e | ⟨v3, p3⟩
  · simp only [h1, h2, h3, sbd_l, sbd_r]; exact num_er h3 (by omega)
  have g3 := num_ok h3 (by omega)
  rcases h4 : tk t n 43 p3 with e | p4
  · simp only [h1, h2, h3, h4, sbd_l, sbd_r]; exact tk_er h4 (by omega)
  have g4 := tk_ok h4
  rcases h5 : num t n 0 9999 p4 with e | ⟨v5, p5⟩
  · simp only [h1, h2, h3, h4, h5, sbd_l, sbd_r]; exact num_er h5 (by omega)
  have g5 := num_ok h5 (by omega)
  simp only [h1, h2, h3, h4, h5, sbd_r]
  omega
theorem hourR_ok {t : Nat → Nat} {n p : Nat} (hp : p ≤ n) : match hourR t n p with
    | .inl e => e ≤ n
    | .inr z => p < z.2 ∧ z.2 ≤ n ∧ z.1.1 ≤ 23 ∧ z.1.2.1 ≤ 23 ∧ 1 ≤ z.1.2.2 ∧ z.1.2.2 ≤ 99 := by
  unfold hourR
  rcases h1 : num t n 0 23 p with e | ⟨v1, p1⟩
  · simp only [h1, sbd_l, sbd_r]; exact num_er h1 (by omega)
  have g1 := num_ok h1 (by omega)
  rcases h2 : tk t n 45 p1 with e | p2
  · simp only [h1, h2, sbd_l, sbd_r]; exact tk_er h2 (by omega)
  have g2 := tk_ok h2
  rcases h3 : num t n v1 23 p2 with e | ⟨v3, p3⟩
  · simp only [h1, h2, h3, sbd_l, sbd_r]; exact num_er h3 (by omega)
  have g3 := num_ok h3 (by omega)
  rcases h4 : tk t n 58 p3 with e | p4
  · simp only [h1, h2, h3, h4, sbd_l, sbd_r]; exact tk_er h4 (by omega)
  have g4 := tk_ok h4
  rcases h5 : num t n 1 99 p4 with e | ⟨v5, p5⟩
  · simp only [h1, h2, h3, h4, h5, sbd_l, sbd_r]; exact num_er h5 (by omega)
  have g5 := num_ok h5 (by omega)
  rcases h6 : tk t n 93 p5 with e | p6
  · simp only [h1, h2, h3, h4, h5, h6, sbd_l, sbd_r]; exact tk_er h6 (by omega)
  have g6 := tk_ok h6
  simp only [h1, h2, h3, h4, h5, h6, sbd_r]
  omega
theorem goneR_ok {t : Nat → Nat} {n p : Nat} (hp : p ≤ n) : match goneR t n p with
    | .inl e => e ≤ n
    | .inr z => p < z.2 ∧ z.2 ≤ n ∧ (z.1.1 = 112 ∨ z.1.1 = 104 ∨ z.1.1 = 115) ∧ 1 ≤ z.1.2 ∧ z.1.2 ≤ (if z.1.1 = 112 then 60 else 30) := by
  have s1 := sk_ge t n p
  have s2 : sk t n p ≤ n := sk_le hp
  unfold goneR
  by_cases h : sk t n p < n ∧ (t (sk t n p) = 112 ∨ t (sk t n p) = 104 ∨ t (sk t n p) = 115)
  · rw [if_pos h]
    rcases h1 : num t n 1 (if t (sk t n p) = 112 then 60 else 30) (sk t n p + 1) with e | ⟨v, q⟩
    · simp only [sbd_l]; exact num_er h1 (by omega)
    · have g := num_ok h1 (by omega)
      simp only [sbd_r]
      exact ⟨by omega, by omega, h.2, by omega, g.2.1⟩
  · rw [if_neg h]
    exact s2
theorem nodesR_ok {t : Nat → Nat} {n p : Nat} (hp : p ≤ n) : match nodesR t n p with
    | .inl e => e ≤ n
    | .inr z => p < z.2 ∧ z.2 ≤ n ∧ 1 ≤ z.1.1 ∧ z.1.1 ≤ 40 ∧ 1 ≤ z.1.2.2 ∧ z.1.2.2 ≤ 40 := by
  unfold nodesR
  rcases h1 : num t n 1 40 p with e | ⟨v1, p1⟩
  · simp only [sbd_l]; exact num_er h1 hp
  have g1 := num_ok h1 hp
  simp only [sbd_r]
  have s1 := sk_ge t n p1
  have s2 : sk t n p1 ≤ n := sk_le (by omega)
  rcases h2 : tk t n (if sk t n p1 < n ∧ t (sk t n p1) = 62 then 62 else 45) (sk t n p1) with e | p2
  · simp only [sbd_l]; exact tk_er h2 s2
  have g2 := tk_ok h2
  simp only [sbd_r]
  rcases h3 : num t n 1 40 p2 with e | ⟨v3, p3⟩
  · simp only [sbd_l]; exact num_er h3 (by omega)
  have g3 := num_ok h3 (by omega)
  simp only [sbd_r]
  by_cases he : v3 = v1
  · rw [if_pos he]
    show _ - 1 ≤ n
    omega
  · rw [if_neg he]
    show p < p3 ∧ p3 ≤ n ∧ 1 ≤ v1 ∧ v1 ≤ 40 ∧ 1 ≤ v3 ∧ v3 ≤ 40
    omega
theorem kindC_lt5 {c k : Nat} (h : kindC c = some k) : k < 5 := by
  unfold kindC at h
  repeat' split at h
  all_goals first | (cases h; decide) | cases h
theorem lksR_ok {t : Nat → Nat} {n p : Nat} (hp : p ≤ n) : match lksR t n p with
    | .inl e => e ≤ n
    | .inr z => p < z.2 ∧ z.2 ≤ n ∧ 1 ≤ z.1.1 ∧ z.1.1 ≤ 9999 ∧ z.1.2.1 ≤ 4 ∧ 1 ≤ z.1.2.2 ∧ z.1.2.2 ≤ 99 := by
  unfold lksR
  rcases h1 : tk t n 58 p with e | p1
  · simp only [sbd_l]; exact tk_er h1 hp
  have g1 := tk_ok h1
  simp only [sbd_r]
  rcases h2 : num t n 1 9999 p1 with e | ⟨v2, p2⟩
  · simp only [sbd_l]; exact num_er h2 (by omega)
  have g2 := num_ok h2 (by omega)
  simp only [sbd_r]
  have s1 := sk_ge t n p2
  have s2 : sk t n p2 ≤ n := sk_le (by omega)
  rcases h3 : kindAt t n (sk t n p2) with _ | k
  · exact s2
  · have hk : sk t n p2 < n ∧ k < 5 := by
      unfold kindAt at h3
      split at h3
      · next hlt => exact ⟨hlt, kindC_lt5 h3⟩
      · cases h3
    simp only []
    rcases h4 : num t n 1 99 (sk t n p2 + 1) with e | ⟨v4, p4⟩
    · simp only [sbd_l]; exact num_er h4 (by omega)
    have g4 := num_ok h4 (by omega)
    simp only [sbd_r]
    omega
theorem hrsR_ok {t : Nat → Nat} {n : Nat} : ∀ (k : Nat) (hs : List Tri) (p : Nat), p ≤ n → hs.length + k ≤ 3 → hrV hs → match hrsR t n k hs p with
    | .inl e => e ≤ n
    | .inr z => p ≤ z.2 ∧ z.2 ≤ n ∧ hrV z.1
  | 0, hs, p, hp, hl, hv => ⟨Nat.le_refl p, hp, hv⟩
  | k + 1, hs, p, hp, hl, hv => by
    have s1 := sk_ge t n p
    have s2 : sk t n p ≤ n := sk_le hp
    unfold hrsR
    by_cases h : sk t n p < n ∧ t (sk t n p) = 91
    · rw [if_pos h]
      have g := hourR_ok (t := t) (n := n) (p := sk t n p + 1) (by omega)
      rcases h1 : hourR t n (sk t n p + 1) with e | ⟨x, q⟩
      · rw [h1] at g
        simp only [sbd_l]; exact g
      · rw [h1] at g
        simp only [sbd_r]
        simp only [] at g
        have hv2 : hrV (hs ++ [x]) := by
          refine ⟨by simp; omega, fun i hi => ?_⟩
          rw [List.length_append, List.length_singleton] at hi
          by_cases he : i = hs.length
          · subst he
            rw [getD_app_r]
            omega
          · rw [getD_app_l (by omega)]
            exact hv.2 i (by omega)
        have ih := hrsR_ok (t := t) (n := n) k (hs ++ [x]) q (by omega) (by simp; omega) hv2
        rcases h2 : hrsR t n k (hs ++ [x]) q with e | ⟨y, q2⟩
        · rw [h2] at ih; exact ih
        · rw [h2] at ih
          simp only [] at ih
          exact ⟨by show p ≤ q2; omega, ih.2⟩
    · rw [if_neg h]
      exact ⟨s1, s2, hv⟩
theorem lim1_ok {t : Nat → Nat} {n c p : Nat} (hp : p ≤ n) : match lim1 t n c p with
    | .inl e => e ≤ n
    | .inr z => p ≤ z.2 ∧ z.2 ≤ n ∧ z.1 ≤ 99 := by
  have s1 := sk_ge t n p
  have s2 : sk t n p ≤ n := sk_le hp
  unfold lim1
  by_cases h : sk t n p < n ∧ t (sk t n p) = c
  · rw [if_pos h]
    rcases h1 : num t n 1 99 (sk t n p + 1) with e | ⟨v, q⟩
    · exact num_er h1 (by omega)
    · have g := num_ok h1 (by omega)
      exact ⟨by show p ≤ q; omega, g.2.2.2, by show v ≤ 99; omega⟩
  · rw [if_neg h]
    exact ⟨s1, s2, Nat.zero_le _⟩
theorem limR_ok {t : Nat → Nat} {n p : Nat} (hp : p ≤ n) : match limR t n p with
    | .inl e => e ≤ n
    | .inr z => p ≤ z.2 ∧ z.2 ≤ n ∧ z.1.1 ≤ 99 ∧ z.1.2 ≤ 99 := by
  have g1 := lim1_ok (t := t) (c := 94) hp
  unfold limR
  rcases h1 : lim1 t n 94 p with e | ⟨v1, p1⟩
  · rw [h1] at g1; simp only [sbd_l]; exact g1
  · rw [h1] at g1
    simp only [] at g1
    have g2 := lim1_ok (t := t) (c := 33) (n := n) (p := p1) (by omega)
    simp only [sbd_r]
    rcases h2 : lim1 t n 33 p1 with e | ⟨v2, p2⟩
    · rw [h2] at g2; simp only [sbd_l]; exact g2
    · rw [h2] at g2
      simp only [] at g2
      simp only [sbd_r]
      exact ⟨by show p ≤ p2; omega, g2.2.1, g1.2.2, g2.2.2⟩
theorem letR_ok {t : Nat → Nat} {n : Nat} : ∀ (k : Nat) (ls : List Nat) (r : Nat), r ≤ n → ls.length + k ≤ 8 → (∀ c ∈ ls, 97 ≤ c ∧ c ≤ 122) → r ≤ (letR t n k ls r).2 ∧ (letR t n k ls r).2 ≤ n ∧ (letR t n k ls r).1.length ≤ 8 ∧ ∀ c ∈ (letR t n k ls r).1, 97 ≤ c ∧ c ≤ 122
  | 0, ls, r, hr, hl, hc => ⟨Nat.le_refl r, hr, by show ls.length ≤ 8; omega, hc⟩
  | k + 1, ls, r, hr, hl, hc => by
    unfold letR
    by_cases h : isL t n r = true
    · rw [if_pos h]
      have hi := isL_spec h
      have ih := letR_ok (t := t) (n := n) k (ls ++ [t r]) (r + 1) (by omega) (by simp; omega) (by intro c hcc; rcases List.mem_append.mp hcc with z | z; exact hc c z; simp at z; omega)
      exact ⟨by omega, ih.2⟩
    · rw [if_neg h]
      exact ⟨Nat.le_refl r, hr, by show ls.length ≤ 8; omega, hc⟩
theorem namR_ok {t : Nat → Nat} {n p : Nat} (hp : p ≤ n) : match namR t n p with
    | .inl e => e ≤ n
    | .inr z => p ≤ z.2 ∧ z.2 ≤ n ∧ nmV z.1 := by
  have s1 := sk_ge t n p
  have s2 : sk t n p ≤ n := sk_le hp
  unfold namR
  by_cases h : sk t n p < n ∧ t (sk t n p) = 34
  · rw [if_pos h]
    obtain ⟨l1, l2, l3, l4⟩ := letR_ok (t := t) (n := n) 8 [] (sk t n p + 1) (by omega) (by decide) (fun c hc => absurd hc (by simp))
    generalize letR t n 8 [] (sk t n p + 1) = x at l1 l2 l3 l4
    obtain ⟨ls, r⟩ := x
    simp only [] at l1 l2 l3 l4
    unfold namX
    by_cases hb : ls = [] ∨ ¬ (r < n ∧ t r = 34)
    · rw [if_pos hb]
      exact l2
    · rw [if_neg hb]
      have hr : r < n := by
        rcases Nat.lt_or_ge r n with q | q
        · exact q
        · exact absurd (Or.inr (fun z => by have := z.1; omega)) hb
      have hls : 1 ≤ ls.length := by
        cases ls with
        | nil => exact absurd (Or.inl rfl) hb
        | cons x xs => simp
      rcases h1 : tk t n 35 (r + 1) with e | p1
      · simp only [h1, sbd_l]; exact tk_er h1 (by omega)
      have g1 := tk_ok h1
      rcases h2 : num t n 0 9 p1 with e | ⟨v2, p2⟩
      · simp only [h1, h2, sbd_l, sbd_r]; exact num_er h2 (by omega)
      have g2 := num_ok h2 (by omega)
      simp only [h1, h2, sbd_r]
      exact ⟨by show p ≤ p2; omega, g2.2.2.2, hls, l3, l4, g2.2.1⟩
  · rw [if_neg h]
    exact ⟨s1, s2, trivial⟩
theorem pieceR_ok {t : Nat → Nat} {n p : Nat} (hp : p ≤ n) : match pieceR t n p with
    | .inl e => e ≤ n
    | .inr z => p < z.2 ∧ z.2 ≤ n ∧ 1 ≤ z.1.1 ∧ z.1.1 ≤ 60 ∧ pcV z.1.2 := by
  unfold pieceR
  rcases h1 : num t n 1 60 p with e | ⟨v1, p1⟩
  · simp only [sbd_l]; exact num_er h1 hp
  have g1 := num_ok h1 hp
  simp only [sbd_r]
  rcases h2 : tk t n 61 p1 with e | p2
  · simp only [sbd_l]; exact tk_er h2 (by omega)
  have g2 := tk_ok h2
  simp only [sbd_r]
  have g3 := nodesR_ok (t := t) (n := n) (p := p2) (by omega)
  rcases h3 : nodesR t n p2 with e | ⟨a3, p3⟩
  · rw [h3] at g3; simp only [sbd_l]; exact g3
  rw [h3] at g3
  simp only [] at g3
  simp only [sbd_r]
  have g4 := lksR_ok (t := t) (n := n) (p := p3) (by omega)
  rcases h4 : lksR t n p3 with e | ⟨a4, p4⟩
  · rw [h4] at g4; simp only [sbd_l]; exact g4
  rw [h4] at g4
  simp only [] at g4
  simp only [sbd_r]
  have g5 := hrsR_ok (t := t) (n := n) 3 [] p4 (by omega) (by decide) ⟨by decide, fun i hi => absurd hi (by simp)⟩
  rcases h5 : hrsR t n 3 [] p4 with e | ⟨a5, p5⟩
  · rw [h5] at g5; simp only [sbd_l]; exact g5
  rw [h5] at g5
  simp only [] at g5
  simp only [sbd_r]
  have g6 := limR_ok (t := t) (n := n) (p := p5) (by omega)
  rcases h6 : limR t n p5 with e | ⟨a6, p6⟩
  · rw [h6] at g6; simp only [sbd_l]; exact g6
  rw [h6] at g6
  simp only [] at g6
  simp only [sbd_r]
  have g7 := namR_ok (t := t) (n := n) (p := p6) (by omega)
  rcases h7 : namR t n p6 with e | ⟨a7, p7⟩
  · rw [h7] at g7; simp only [sbd_l]; exact g7
  rw [h7] at g7
  simp only [] at g7
  simp only [sbd_r]
  exact ⟨by show p < p7; omega, g7.2.1, g1.1, g1.2.1, g3.2.2, g4.2.2, g5.2.2, g6.2.2, g7.2.2⟩
theorem vU_swap {W : Vw} : ∀ {ns ds : va_W}, (∀ x ∈ ns, x.1 ∉ ds.map Prod.fst) → vU (vU W ds) ns = vU (vU W ns) ds := by
  intro ns ds h
  funext q
  by_cases hq : q ∈ ns.map Prod.fst
  · have hd : q ∉ ds.map Prod.fst := by
      obtain ⟨x, hx, rfl⟩ := List.mem_map.mp hq
      exact h x hx
    rw [vU_out (vU W ns) ds q hd]
    clear h
    induction ns with
    | nil => simp at hq
    | cons x ns ih =>
      show va_up (vU (vU W ds) ns) x.1 (some x.2) q = va_up (vU W ns) x.1 (some x.2) q
      by_cases he : q = x.1
      · rw [he, vup_self, vup_self]
      · rw [vup_ne _ he, vup_ne _ he]
        exact ih (by simpa [he] using hq)
  · rw [vU_out (vU W ds) ns q hq]
    induction ds with
    | nil => exact (vU_out W ns q hq).symm
    | cons y ds ih =>
      show va_up (vU W ds) y.1 (some y.2) q = va_up (vU (vU W ns) ds) y.1 (some y.2) q
      by_cases he : q = y.1
      · rw [he, vup_self, vup_self]
      · rw [vup_ne _ he, vup_ne _ he]
        exact ih (fun x hx hd => h x hx (List.mem_cons_of_mem _ hd))
