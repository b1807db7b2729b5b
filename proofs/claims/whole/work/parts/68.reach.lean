/-! WHAT IS REACHED: the class's rounds and the reference's marks both end with the least set that holds the ends and is closed -/
def bsub (a b : Nat) : Prop := ∀ j, a.testBit j = true → b.testBit j = true
theorem bsub_rfl (a : Nat) : bsub a a := fun _ h => h
theorem bsub_tr {a b c : Nat} (h1 : bsub a b) (h2 : bsub b c) : bsub a c := fun j h => h2 j (h1 j h)
theorem bsub_eq {a b : Nat} (h1 : bsub a b) (h2 : bsub b a) : a = b := Nat.eq_of_testBit_eq fun j => by
  cases ha : a.testBit j with
  | true => exact (h1 j ha).symm
  | false =>
    cases hb : b.testBit j with
    | false => rfl
    | true => rw [h2 j hb] at ha; cases ha
theorem bsub_orl (a b : Nat) : bsub a (a ||| b) := fun j h => by rw [Nat.testBit_or, h]; rfl
theorem bsub_or {a b c : Nat} (h1 : bsub a c) (h2 : bsub b c) : bsub (a ||| b) c := fun j h => by
  rw [Nat.testBit_or, Bool.or_eq_true] at h
  exact h.elim (h1 j) (h2 j)
def pcsV (Q : Nat → Option PcR) : Prop := ∀ j R, 1 ≤ j → j ≤ 60 → Q j = some R → pcV R
theorem whQ_sub (R : PcR) (m : Nat) : bsub m (whQ R m) := by
  unfold whQ
  split
  · exact bsub_orl _ _
  · exact bsub_rfl _
theorem rnd_step (Q : Nat → Option PcR) (m k : Nat) : bsub (rnd Q m k) (rnd Q m (k + 1)) := by
  rcases h : Q (k + 1) with _ | R
  · rw [rnd_n h]; exact bsub_rfl _
  · rw [rnd_s h]; exact whQ_sub _ _
theorem rnd_sub (Q : Nat → Option PcR) (m i : Nat) : ∀ k, i ≤ k → bsub (rnd Q m i) (rnd Q m k)
  | 0, h => by rw [show i = 0 by omega]; exact bsub_rfl _
  | k + 1, h => by
    by_cases he : i = k + 1
    · rw [he]; exact bsub_rfl _
    · exact bsub_tr (rnd_sub Q m i k (by omega)) (rnd_step Q m k)
/-- closed under the pieces for wheels -/
def pclo (Q : Nat → Option PcR) (C : Nat) : Prop := ∀ j R, 1 ≤ j → j ≤ 60 → Q j = some R → whl R.2.1.2.1 = true → ¬ fromN R &&& C = 0 → bsub (toN R) C
theorem pclo_fix {Q : Nat → Option PcR} {C : Nat} (h : rnd Q C 60 = C) : pclo Q C := by
  intro j R h1 h2 hQ hw hf
  obtain ⟨k, rfl⟩ : ∃ k, j = k + 1 := ⟨j - 1, by omega⟩
  have e1 : rnd Q C k = C := bsub_eq (by have := rnd_sub Q C k 60 (by omega); rw [h] at this; exact this) (rnd_sub Q C 0 k (by omega))
  have e2 := rnd_sub Q C (k + 1) 60 h2
  rw [rnd_s hQ, e1, h] at e2
  unfold whQ at e2
  rw [hw, decide_eq_false hf] at e2
  exact fun j hj => e2 j (by simp only [Bool.not_false, Bool.and_self, if_true]; rw [Nat.testBit_or, hj, Bool.or_true])
theorem rnds_sub (Q : Nat → Option PcR) (m : Nat) : ∀ r, bsub m (rnds Q m r)
  | 0 => bsub_rfl _
  | r + 1 => bsub_tr (rnds_sub Q m r) (rnd_sub Q (rnds Q m r) 0 60 (by omega))
theorem rnd_lt9 {Q : Nat → Option PcR} (hP : pcsV Q) {m : Nat} (hm : m < 2 ^ 41) : ∀ k, k ≤ 60 → rnd Q m k < 2 ^ 41
  | 0, _ => hm
  | k + 1, h => by
    rcases hq : Q (k + 1) with _ | R
    · rw [rnd_n hq]; exact rnd_lt9 hP hm k (by omega)
    · rw [rnd_s hq]; exact whQ_lt (hP _ _ (by omega) h hq) (rnd_lt9 hP hm k (by omega))
theorem rnds_lt9 {Q : Nat → Option PcR} (hP : pcsV Q) {m : Nat} (hm : m < 2 ^ 41) : ∀ r, rnds Q m r < 2 ^ 41
  | 0 => hm
  | r + 1 => rnd_lt9 hP (rnds_lt9 hP hm r) 60 (by omega)
theorem cnt_mono {f g : Nat → Bool} (h : ∀ j, f j = true → g j = true) : ∀ k, cnt f k ≤ cnt g k
  | 0 => Nat.le_refl _
  | k + 1 => by
    have ih := cnt_mono h k
    unfold cnt
    cases hf : f (k + 1) with
    | false => simp; exact Nat.le_trans ih (Nat.le_add_right _ _)
    | true => rw [h _ hf]; simp; exact ih
theorem cnt_lt {f g : Nat → Bool} (h : ∀ j, f j = true → g j = true) {i : Nat} (h1 : 1 ≤ i) (hf : f i = false) (hg : g i = true) : ∀ k, i ≤ k → cnt f k < cnt g k
  | 0, hk => by omega
  | k + 1, hk => by
    unfold cnt
    by_cases he : i = k + 1
    · have ih := cnt_mono h k
      subst he
      rw [hf, hg]
      simp
      omega
    · have ih := cnt_lt h h1 hf hg k (by omega)
      cases hf2 : f (k + 1) with
      | false => simp; exact Nat.lt_of_lt_of_le ih (Nat.le_add_right _ _)
      | true => rw [h _ hf2]; simp; exact ih
theorem toN_0 {R : PcR} (h : pcV R) : (toN R).testBit 0 = false := by
  have z : ∀ i, 1 ≤ i → (2 ^ i).testBit 0 = false := fun i hi => by
    rw [Nat.testBit_two_pow]
    exact decide_eq_false (by omega)
  unfold toN
  split
  · exact z _ h.1.2.2.1
  · unfold endsN
    rw [Nat.testBit_or, z _ h.1.1, z _ h.1.2.2.1]; rfl
theorem rnd_0 {Q : Nat → Option PcR} (hP : pcsV Q) {m : Nat} (hm : m.testBit 0 = false) : ∀ k, k ≤ 60 → (rnd Q m k).testBit 0 = false
  | 0, _ => hm
  | k + 1, h => by
    have ih := rnd_0 hP hm k (by omega)
    rcases hq : Q (k + 1) with _ | R
    · rw [rnd_n hq]; exact ih
    · rw [rnd_s hq]
      unfold whQ
      split
      · rw [Nat.testBit_or, ih, toN_0 (hP _ _ (by omega) h hq)]; rfl
      · exact ih
theorem rnds_0 {Q : Nat → Option PcR} (hP : pcsV Q) {m : Nat} (hm : m.testBit 0 = false) : ∀ r, (rnds Q m r).testBit 0 = false
  | 0 => hm
  | r + 1 => rnd_0 hP (rnds_0 hP hm r) 60 (by omega)
theorem bit_hi {M j : Nat} (h : M < 2 ^ 41) (hj : 41 ≤ j) : M.testBit j = false := Nat.testBit_lt_two_pow (Nat.lt_of_lt_of_le h (Nat.pow_le_pow_right (n := 2) (by decide) hj))
theorem ne_bit {a b : Nat} (h : bsub a b) (hne : ¬ b = a) (hb : b < 2 ^ 41) (h0 : b.testBit 0 = false) : ∃ i, 1 ≤ i ∧ i ≤ 40 ∧ a.testBit i = false ∧ b.testBit i = true := by
  by_cases hx : ∃ i, a.testBit i = false ∧ b.testBit i = true
  · obtain ⟨i, h1, h2⟩ := hx
    refine ⟨i, ?_, ?_, h1, h2⟩
    · rcases Nat.eq_zero_or_pos i with z | z
      · rw [z, h0] at h2; cases h2
      · exact z
    · rcases Nat.lt_or_ge i 41 with z | z
      · omega
      · rw [bit_hi hb z] at h2; cases h2
  · exact absurd (bsub_eq (fun j hj => by
      cases hc : a.testBit j with
      | true => rfl
      | false => exact absurd ⟨j, hc, hj⟩ hx) h) hne
theorem rnds_all {Q : Nat → Option PcR} (hP : pcsV Q) {m : Nat} (hm : m < 2 ^ 41) (h0 : m.testBit 0 = false) : rnd Q (rnds Q m 40) 60 = rnds Q m 40 := by
  by_cases hx : ∃ r, r ≤ 40 ∧ rnds Q m (r + 1) = rnds Q m r
  · obtain ⟨r, h1, h2⟩ := hx
    have e1 := rnds_fix h2 40 h1
    have e2 := rnds_fix h2 41 (by omega)
    show rnds Q m 41 = _
    rw [e1, e2]
  · have key : ∀ r, r ≤ 41 → r ≤ cnt (fun j => (rnds Q m r).testBit j) 40 := by
      intro r
      induction r with
      | zero => intro _; exact Nat.zero_le _
      | succ r ih =>
        intro hr
        have h1 := ih (by omega)
        obtain ⟨i, g1, g2, g3, g4⟩ := ne_bit (rnd_sub Q (rnds Q m r) 0 60 (by omega)) (fun z => hx ⟨r, by omega, z⟩) (rnds_lt9 hP hm (r + 1)) (rnds_0 hP h0 (r + 1))
        have h2 := cnt_lt (f := fun j => (rnds Q m r).testBit j) (g := fun j => (rnds Q m (r + 1)).testBit j) (fun j hj => rnd_sub Q (rnds Q m r) 0 60 (by omega) j hj) g1 g3 g4 40 g2
        omega
    have h1 := key 41 (Nat.le_refl _)
    have h2 := cnt_le (fun j => (rnds Q m 41).testBit j) 40
    omega
theorem goQ_ex {Q : Nat → Option PcR} {w a b : Nat} : ∀ k, goQ Q w a b k = true → ∃ j R, 1 ≤ j ∧ j ≤ k ∧ Q j = some R ∧ (decide (w = 0) || whl R.2.1.2.1) = true ∧ gmt R a b = true
  | 0, h => by cases h
  | k + 1, h => by
    rcases hq : Q (k + 1) with _ | R
    · rw [goQ_n hq] at h
      obtain ⟨j, R, h1, h2, h3⟩ := goQ_ex k h
      exact ⟨j, R, h1, by omega, h3⟩
    · rw [goQ_s hq, Bool.or_eq_true, Bool.and_eq_true] at h
      rcases h with h | h
      · obtain ⟨j, R, h1, h2, h3⟩ := goQ_ex k h
        exact ⟨j, R, h1, by omega, h3⟩
      · exact ⟨k + 1, R, by omega, Nat.le_refl _, hq, h.1, h.2⟩
theorem goQ_in {Q : Nat → Option PcR} {w a b j k : Nat} {R : PcR} (h1 : 1 ≤ j) (h2 : j ≤ k) (hq : Q j = some R) (hw : (decide (w = 0) || whl R.2.1.2.1) = true) (hg : gmt R a b = true) : goQ Q w a b k = true := by
  obtain ⟨i, rfl⟩ : ∃ i, j = i + 1 := ⟨j - 1, by omega⟩
  exact goQ_mono (by rw [goQ_s hq, hw, hg]; simp) k h2
theorem two_bit (i j : Nat) : (2 ^ i).testBit j = decide (i = j) := Nat.testBit_two_pow
/-- closed as the reference sees it -/
def gclo (Q : Nat → Option PcR) (M : Nat) : Prop := ∀ a b, 1 ≤ a → a ≤ 40 → 1 ≤ b → b ≤ 40 → M.testBit a = true → goQ Q 1 a b 60 = true → M.testBit b = true
theorem and_ne {x y i : Nat} (hx : x.testBit i = true) (hy : y.testBit i = true) : ¬ x &&& y = 0 := fun h => by
  have := congrArg (fun z => z.testBit i) h
  simp [hx, hy] at this
theorem and_bit {x y : Nat} (h : ¬ x &&& y = 0) : ∃ i, x.testBit i = true ∧ y.testBit i = true := by
  obtain ⟨i, hi⟩ := Nat.exists_testBit_of_ne_zero h
  rw [Nat.testBit_and, Bool.and_eq_true] at hi
  exact ⟨i, hi⟩
theorem gclo_of {Q : Nat → Option PcR} {C : Nat} (h : pclo Q C) : gclo Q C := by
  intro a b a1 a2 b1 b2 ha hg
  obtain ⟨j, R, h1, h2, hq, hw, hm⟩ := goQ_ex 60 hg
  simp only [show decide (1 = 0) = false from rfl, Bool.false_or] at hw
  have hm := of_decide_eq_true hm
  have key : (fromN R).testBit a = true ∧ (toN R).testBit b = true := by
    unfold fromN toN endsN
    cases hb : R.1.2.1 with
    | true =>
      rw [hb] at hm
      simp only [if_true, two_bit, decide_eq_true_eq]
      rcases hm with ⟨z1, z2⟩ | ⟨z, -⟩
      · exact ⟨by omega, by omega⟩
      · cases z
    | false =>
      simp only [if_false, Nat.testBit_or, two_bit, Bool.or_eq_true, decide_eq_true_eq, Bool.false_eq_true]
      rcases hm with ⟨z1, z2⟩ | ⟨-, z1, z2⟩
      · exact ⟨Or.inl (by omega), Or.inr (by omega)⟩
      · exact ⟨Or.inr (by omega), Or.inl (by omega)⟩
  exact h j R h1 h2 hq hw (and_ne key.1 ha) b key.2
theorem whQ_in {Q : Nat → Option PcR} {M m j : Nat} {R : PcR} (hM : gclo Q M) (hs : bsub m M) (h1 : 1 ≤ j) (h2 : j ≤ 60) (hq : Q j = some R) (hv : pcV R) : bsub (whQ R m) M := by
  unfold whQ
  split
  · rename_i hc
    rw [Bool.and_eq_true, Bool.not_eq_true', decide_eq_false_iff_not] at hc
    refine bsub_or hs ?_
    obtain ⟨i, hi1, hi2⟩ := and_bit hc.2
    have hi2 := hs i hi2
    obtain ⟨⟨r1, r2, r3, r4⟩, -⟩ := hv
    have hw : (decide (1 = 0) || whl R.2.1.2.1) = true := by rw [hc.1, Bool.or_true]
    intro b hb
    unfold fromN endsN at hi1
    unfold toN endsN at hb
    cases hb9 : R.1.2.1 with
    | true =>
      rw [hb9] at hi1 hb
      simp only [if_true, two_bit, decide_eq_true_eq] at hi1 hb
      subst hi1; subst hb
      exact hM _ _ r1 r2 r3 r4 hi2 (goQ_in h1 h2 hq hw (decide_eq_true (Or.inl ⟨Or.inr rfl, Or.inr rfl⟩)))
    | false =>
      rw [hb9] at hi1 hb
      simp only [if_false, Nat.testBit_or, two_bit, Bool.or_eq_true, decide_eq_true_eq, Bool.false_eq_true] at hi1 hb
      rcases hi1 with hi1 | hi1 <;> rcases hb with hb | hb <;> subst hi1 <;> subst hb
      · exact hi2
      · exact hM _ _ r1 r2 r3 r4 hi2 (goQ_in h1 h2 hq hw (decide_eq_true (Or.inl ⟨Or.inr rfl, Or.inr rfl⟩)))
      · exact hM _ _ r3 r4 r1 r2 hi2 (goQ_in h1 h2 hq hw (decide_eq_true (Or.inr ⟨hb9, Or.inr rfl, Or.inr rfl⟩)))
      · exact hi2
  · exact hs
theorem rnd_in {Q : Nat → Option PcR} {M m : Nat} (hP : pcsV Q) (hM : gclo Q M) (hs : bsub m M) : ∀ k, k ≤ 60 → bsub (rnd Q m k) M
  | 0, _ => hs
  | k + 1, h => by
    rcases hq : Q (k + 1) with _ | R
    · rw [rnd_n hq]; exact rnd_in hP hM hs k (by omega)
    · rw [rnd_s hq]; exact whQ_in hM (rnd_in hP hM hs k (by omega)) (by omega) h hq (hP _ _ (by omega) h hq)
theorem rnds_in {Q : Nat → Option PcR} {M m : Nat} (hP : pcsV Q) (hM : gclo Q M) (hs : bsub m M) : ∀ r, bsub (rnds Q m r) M
  | 0 => hs
  | r + 1 => rnd_in hP hM (rnds_in hP hM hs r) 60 (by omega)
/-- the reference's marks are the class's set -/
theorem reach_eq {Q : Nat → Option PcR} {M m : Nat} (hP : pcsV Q) (hM : gclo Q M) (h1 : bsub m M) (h2 : bsub M (rnds Q m 40)) : M = rnds Q m 40 := bsub_eq h2 (rnds_in hP hM h1 40)
theorem mpA_V {P : Nat → Int32} {Q : Nat → Option PcR} (h : mpA P Q) : pcsV Q := fun j R h1 h2 hq => (mpA_at h h1 h2 hq).2
theorem leadQ_go {Q : Nat → Option PcR} {a b : Nat} (ha : 1 ≤ a) (hb : 1 ≤ b) : ∀ k, leadQ Q a b k = goQ Q 0 a b k
  | 0 => rfl
  | k + 1 => by
    rcases hq : Q (k + 1) with _ | R
    · rw [leadQ_n hq, goQ_n hq]; exact leadQ_go ha hb k
    · rw [leadQ_s hq, goQ_s hq, leadQ_go ha hb k, decide_eq_true (show (0 : Nat) = 0 from rfl)]
      congr 1
      simp only [Bool.true_or, Bool.true_and, goesR, gmt]
      cases hb9 : R.1.2.1 <;> by_cases e1 : R.1.1 = a <;> by_cases e2 : R.1.2.2 = b <;> by_cases e3 : R.1.2.2 = a <;> by_cases e4 : R.1.1 = b <;> simp [e1, e2, e3, e4, show ¬ a = 0 by omega, show ¬ b = 0 by omega]
theorem toQ_go {Q : Nat → Option PcR} {b : Nat} (hb : 1 ≤ b) : ∀ k, (toQ Q k).testBit b = goQ Q 0 0 b k
  | 0 => by simp [toQ, goQ]
  | k + 1 => by
    rcases hq : Q (k + 1) with _ | R
    · rw [toQ_n hq, goQ_n hq]; exact toQ_go hb k
    · rw [toQ_s hq, goQ_s hq, Nat.testBit_or, toQ_go hb k, decide_eq_true (show (0 : Nat) = 0 from rfl)]
      congr 1
      simp only [Bool.true_or, Bool.true_and, gmt, toN, endsN]
      cases hb9 : R.1.2.1 <;> by_cases e2 : R.1.2.2 = b <;> by_cases e4 : R.1.1 = b <;> simp [e2, e4, two_bit, Nat.testBit_or, show ¬ b = 0 by omega]
theorem frQ_go {Q : Nat → Option PcR} {b : Nat} (hb : 1 ≤ b) : ∀ k, (frQ Q k).testBit b = goQ Q 0 b 0 k
  | 0 => by simp [frQ, goQ]
  | k + 1 => by
    rcases hq : Q (k + 1) with _ | R
    · rw [frQ_n hq, goQ_n hq]; exact frQ_go hb k
    · rw [frQ_s hq, goQ_s hq, Nat.testBit_or, frQ_go hb k, decide_eq_true (show (0 : Nat) = 0 from rfl)]
      congr 1
      simp only [Bool.true_or, Bool.true_and, gmt, fromN, endsN]
      cases hb9 : R.1.2.1 <;> by_cases e2 : R.1.2.2 = b <;> by_cases e4 : R.1.1 = b <;> simp [e2, e4, two_bit, Nat.testBit_or, show ¬ b = 0 by omega]
theorem nodesQ_go {Q : Nat → Option PcR} {b : Nat} (hb : 1 ≤ b) : ∀ k, (nodesQ Q k).testBit b = (goQ Q 0 b 0 k || goQ Q 0 0 b k)
  | 0 => by simp [nodesQ, goQ]
  | k + 1 => by
    rcases hq : Q (k + 1) with _ | R
    · rw [nodesQ_n hq, goQ_n hq, goQ_n hq]; exact nodesQ_go hb k
    · rw [nodesQ_s hq, goQ_s hq, goQ_s hq, Nat.testBit_or, nodesQ_go hb k, decide_eq_true (show (0 : Nat) = 0 from rfl)]
      simp only [Bool.true_or, Bool.true_and, gmt, endsN]
      generalize goQ Q 0 b 0 k = x
      generalize goQ Q 0 0 b k = y
      cases hb9 : R.1.2.1 <;> cases x <;> cases y <;> by_cases e2 : R.1.2.2 = b <;> by_cases e4 : R.1.1 = b <;> simp [e2, e4, two_bit, Nat.testBit_or, show ¬ b = 0 by omega]
