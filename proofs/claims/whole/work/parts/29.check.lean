/-! FAULTS of a town: the list that a check makes -/
abbrev Two : Type := Nat × Nat
def z2 : Two := (0, 0)
def ckOk (fk fn : Nat → Int32) (F : List Two) : Prop := ∀ i, i < F.length → fk i = nI (F.getD i z2).1 ∧ fn i = nI (F.getD i z2).2
theorem ckOk_add {fk fn : Nat → Int32} {F : List Two} (h : ckOk fk fn F) (a b : Nat) : ckOk (upd fk F.length (nI a)) (upd fn F.length (nI b)) (F ++ [(a, b)]) := by
  intro i hi
  rw [List.length_append, List.length_singleton] at hi
  by_cases he : i = F.length
  · subst he
    rw [getD_app_r]
    simp [upd]
  · have hl : i < F.length := by omega
    rw [getD_app_l hl]
    have := h i hl
    simpa [upd, he] using this
theorem ckOk_nil (fk fn : Nat → Int32) : ckOk fk fn [] := fun i hi => absurd hi (by simp)
def flt (kd : Nat) (P : Nat → Bool) : Nat → List Two
  | 0 => []
  | k + 1 => flt kd P k ++ (if P (k + 1) then [(kd, k + 1)] else [])
theorem flt_y {kd k : Nat} {P : Nat → Bool} (h : P (k + 1) = true) : flt kd P (k + 1) = flt kd P k ++ [(kd, k + 1)] := by simp [flt, h]
theorem flt_n {kd k : Nat} {P : Nat → Bool} (h : P (k + 1) = false) : flt kd P (k + 1) = flt kd P k := by simp [flt, h]
theorem flt_le (kd : Nat) (P : Nat → Bool) : ∀ k, (flt kd P k).length ≤ k
  | 0 => by simp [flt]
  | k + 1 => by
    have := flt_le kd P k
    cases h : P (k + 1)
    · rw [flt_n h]; omega
    · rw [flt_y h]; simp; omega
theorem app_y {F : List Two} {kd k : Nat} {P : Nat → Bool} (h : P (k + 1) = true) : F ++ flt kd P k ++ [(kd, k + 1)] = F ++ flt kd P (k + 1) := by rw [flt_y h, List.append_assoc]
theorem app_n {F : List Two} {kd k : Nat} {P : Nat → Bool} (h : P (k + 1) = false) : F ++ flt kd P k = F ++ flt kd P (k + 1) := by rw [flt_n h]
/-- a spot on no piece, or past its end -/
def lostP (Q : Nat → Option PcR) (B : Nat → Option (Nat × Nat)) (j : Nat) : Bool := match B j with
  | none => false
  | some x => (match Q x.1 with
    | none => true
    | some R => decide (R.2.1.1 < x.2))
theorem lostP_0 {Q : Nat → Option PcR} {B : Nat → Option (Nat × Nat)} {j : Nat} (h : B j = none) : lostP Q B j = false := by simp [lostP, h]
theorem lostP_n {Q : Nat → Option PcR} {B : Nat → Option (Nat × Nat)} {j x y : Nat} (h : B j = some (x, y)) (hq : Q x = none) : lostP Q B j = true := by simp [lostP, h, hq]
theorem lostP_s {Q : Nat → Option PcR} {B : Nat → Option (Nat × Nat)} {j x y : Nat} {R : PcR} (h : B j = some (x, y)) (hq : Q x = some R) : lostP Q B j = decide (R.2.1.1 < y) := by simp [lostP, h, hq]
/-- a name that a piece of 1 .. k has -/
def sameQ (Q : Nat → Option PcR) (R : PcR) : Nat → Bool
  | 0 => false
  | k + 1 => sameQ Q R k || (match Q (k + 1) with
    | none => false
    | some R' => sameN R R')
theorem sameQ_n {Q : Nat → Option PcR} {R : PcR} {k : Nat} (h : Q (k + 1) = none) : sameQ Q R (k + 1) = sameQ Q R k := by simp [sameQ, h]
theorem sameQ_s {Q : Nat → Option PcR} {R R' : PcR} {k : Nat} (h : Q (k + 1) = some R') : sameQ Q R (k + 1) = (sameQ Q R k || sameN R R') := by simp [sameQ, h]
theorem sameQ_mono {Q : Nat → Option PcR} {R : PcR} {i : Nat} (h : sameQ Q R i = true) : ∀ k, i ≤ k → sameQ Q R k = true
  | 0, hk => by rw [show i = 0 by omega] at h; exact h
  | k + 1, hk => by
    by_cases he : i = k + 1
    · rw [← he]; exact h
    · simp [sameQ, sameQ_mono h k (by omega)]
def twinP (Q : Nat → Option PcR) (j : Nat) : Bool := match Q j with
  | none => false
  | some R => sameQ Q R (j - 1)
theorem twinP_n {Q : Nat → Option PcR} {j : Nat} (h : Q j = none) : twinP Q j = false := by simp [twinP, h]
theorem twinP_s {Q : Nat → Option PcR} {j : Nat} {R : PcR} (h : Q j = some R) : twinP Q j = sameQ Q R (j - 1) := by simp [twinP, h]
theorem twinP_1 (Q : Nat → Option PcR) : twinP Q 1 = false := by
  cases h : Q 1 with
  | none => exact twinP_n h
  | some R => rw [twinP_s h]; rfl
/-- the turn at i goes over j, and not both of its ways are there -/
def idleP (Q : Nat → Option PcR) (L : List Tri) (j i : Nat) : Bool := decide ((L.getD i z3).2.1 = j) && !(leadQ Q (L.getD i z3).1 j 60 && leadQ Q j (L.getD i z3).2.2 60)
def idl (Q : Nat → Option PcR) (L : List Tri) (j : Nat) : Nat → List Two
  | 0 => []
  | i + 1 => idl Q L j i ++ (if idleP Q L j i then [(4, j)] else [])
def idlQ (Q : Nat → Option PcR) (L : List Tri) : Nat → List Two
  | 0 => []
  | k + 1 => idlQ Q L k ++ idl Q L (k + 1) L.length
theorem idl_y {Q : Nat → Option PcR} {L : List Tri} {j i : Nat} (h : idleP Q L j i = true) : idl Q L j (i + 1) = idl Q L j i ++ [(4, j)] := by simp [idl, h]
theorem idl_n {Q : Nat → Option PcR} {L : List Tri} {j i : Nat} (h : idleP Q L j i = false) : idl Q L j (i + 1) = idl Q L j i := by simp [idl, h]
def idc (Q : Nat → Option PcR) (L : List Tri) (i : Nat) : Nat → Nat
  | 0 => 0
  | k + 1 => idc Q L i k + (idl Q L (k + 1) i).length
theorem idc_step (Q : Nat → Option PcR) (L : List Tri) (i : Nat) : ∀ k, idc Q L (i + 1) k = idc Q L i k + cnt (fun j => idleP Q L j i) k
  | 0 => rfl
  | k + 1 => by
    have ih := idc_step Q L i k
    cases h : idleP Q L (k + 1) i
    · rw [cnt_n (f := fun j => idleP Q L j i) h]
      simp only [idc, idl_n h, ih]
      omega
    · rw [cnt_y (f := fun j => idleP Q L j i) h]
      simp only [idc, idl_y h, ih, List.length_append, List.length_singleton]
      omega
theorem cnt_one (Q : Nat → Option PcR) (L : List Tri) (i : Nat) : ∀ k, cnt (fun j => idleP Q L j i) k ≤ if (L.getD i z3).2.1 ≤ k then 1 else 0
  | 0 => by simp [cnt]
  | k + 1 => by
    have ih := cnt_one Q L i k
    cases h : idleP Q L (k + 1) i
    · rw [cnt_n (f := fun j => idleP Q L j i) h]
      refine Nat.le_trans ih ?_
      split
      · rw [if_pos (by omega)]; exact Nat.le_refl _
      · exact Nat.zero_le _
    · rw [cnt_y (f := fun j => idleP Q L j i) h]
      have he : (L.getD i z3).2.1 = k + 1 := by
        unfold idleP at h
        simp only [Bool.and_eq_true, decide_eq_true_eq] at h
        exact h.1
      rw [if_neg (by omega)] at ih
      rw [if_pos (by omega)]
      omega
theorem idc_le (Q : Nat → Option PcR) (L : List Tri) (k : Nat) : ∀ i, idc Q L i k ≤ i
  | 0 => by
    induction k with
    | zero => simp [idc]
    | succ k ih => simp only [idc, idl, List.length_nil]; omega
  | i + 1 => by
    have h1 := idc_le Q L k i
    have h2 := cnt_one Q L i k
    rw [idc_step]
    split at h2 <;> omega
theorem idlQ_len (Q : Nat → Option PcR) (L : List Tri) : ∀ k, (idlQ Q L k).length = idc Q L L.length k
  | 0 => rfl
  | k + 1 => by simp only [idlQ, idc, List.length_append, idlQ_len Q L k]
theorem idl_mono (Q : Nat → Option PcR) (L : List Tri) (j i : Nat) : ∀ k, i ≤ k → (idl Q L j i).length ≤ (idl Q L j k).length
  | 0, h => by rw [show i = 0 by omega]; exact Nat.le_refl _
  | k + 1, h => by
    by_cases he : i = k + 1
    · rw [he]; exact Nat.le_refl _
    · have := idl_mono Q L j i k (by omega)
      simp only [idl, List.length_append]
      omega
/-- no turn is told twice -/
theorem idl_bd (Q : Nat → Option PcR) (L : List Tri) {k i : Nat} (hi : i ≤ L.length) : (idlQ Q L k).length + (idl Q L (k + 1) i).length ≤ L.length := by
  have h1 := idc_le Q L (k + 1) L.length
  have h2 := idl_mono Q L (k + 1) i L.length hi
  simp only [idc] at h1
  rw [idlQ_len]
  omega
theorem idlQ_le (Q : Nat → Option PcR) (L : List Tri) (k : Nat) : (idlQ Q L k).length ≤ L.length := by
  rw [idlQ_len]; exact idc_le Q L k L.length
/-- a turn of the first i over j, barred both ways -/
def wallI (L : List Tri) (j : Nat) : Nat → Bool
  | 0 => false
  | i + 1 => wallI L j i || (decide ((L.getD i z3).2.1 = j) && !decide ((L.getD i z3).1 = (L.getD i z3).2.2) && decide (((L.getD i z3).2.2, j, (L.getD i z3).1) ∈ L))
theorem wallI_mono {L : List Tri} {j i : Nat} (h : wallI L j i = true) : ∀ k, i ≤ k → wallI L j k = true
  | 0, hk => by rw [show i = 0 by omega] at h; exact h
  | k + 1, hk => by
    by_cases he : i = k + 1
    · rw [← he]; exact h
    · simp [wallI, wallI_mono h k (by omega)]
/-- the nodes to which, from which a piece of 1 .. k goes -/
def toQ (Q : Nat → Option PcR) : Nat → Nat
  | 0 => 0
  | k + 1 => toQ Q k ||| (match Q (k + 1) with
    | none => 0
    | some R => toN R)
def frQ (Q : Nat → Option PcR) : Nat → Nat
  | 0 => 0
  | k + 1 => frQ Q k ||| (match Q (k + 1) with
    | none => 0
    | some R => fromN R)
theorem toQ_n {Q : Nat → Option PcR} {k : Nat} (h : Q (k + 1) = none) : toQ Q (k + 1) = toQ Q k := by simp [toQ, h]
theorem toQ_s {Q : Nat → Option PcR} {k : Nat} {R : PcR} (h : Q (k + 1) = some R) : toQ Q (k + 1) = toQ Q k ||| toN R := by simp [toQ, h]
theorem frQ_n {Q : Nat → Option PcR} {k : Nat} (h : Q (k + 1) = none) : frQ Q (k + 1) = frQ Q k := by simp [frQ, h]
theorem frQ_s {Q : Nat → Option PcR} {k : Nat} {R : PcR} (h : Q (k + 1) = some R) : frQ Q (k + 1) = frQ Q k ||| fromN R := by simp [frQ, h]
theorem toN_lt {R : PcR} (h : pcV R) : toN R < 2 ^ 41 := by
  unfold toN
  split
  · exact pow_lt64 h.1.2.2.2
  · exact ends_lt h
theorem fromN_lt {R : PcR} (h : pcV R) : fromN R < 2 ^ 41 := by
  unfold fromN
  split
  · exact pow_lt64 h.1.2.1
  · exact ends_lt h
def endP (Q : Nat → Option PcR) (j : Nat) : Bool := (toQ Q 60).testBit j && !(frQ Q 60).testBit j
/-- one piece's step of the reach -/
def whQ (R : PcR) (m : Nat) : Nat := if (whl R.2.1.2.1 && !decide (fromN R &&& m = 0)) = true then m ||| toN R else m
def rnd (Q : Nat → Option PcR) (m : Nat) : Nat → Nat
  | 0 => m
  | k + 1 => (match Q (k + 1) with
    | none => rnd Q m k
    | some R => whQ R (rnd Q m k))
theorem rnd_n {Q : Nat → Option PcR} {m k : Nat} (h : Q (k + 1) = none) : rnd Q m (k + 1) = rnd Q m k := by simp [rnd, h]
theorem rnd_s {Q : Nat → Option PcR} {m k : Nat} {R : PcR} (h : Q (k + 1) = some R) : rnd Q m (k + 1) = whQ R (rnd Q m k) := by simp [rnd, h]
def rnds (Q : Nat → Option PcR) (m : Nat) : Nat → Nat
  | 0 => m
  | r + 1 => rnd Q (rnds Q m r) 60
theorem rnds_fix {Q : Nat → Option PcR} {m r : Nat} (h : rnds Q m (r + 1) = rnds Q m r) : ∀ k, r ≤ k → rnds Q m k = rnds Q m r
  | 0, hk => by rw [show r = 0 by omega]
  | k + 1, hk => by
    by_cases he : r = k + 1
    · rw [he]
    · have ih := rnds_fix h k (by omega)
      show rnd Q (rnds Q m k) 60 = _
      rw [ih]
      exact h
theorem whQ_lt {R : PcR} {m : Nat} (hv : pcV R) (h : m < 2 ^ 41) : whQ R m < 2 ^ 41 := by
  unfold whQ
  split
  · exact Nat.or_lt_two_pow h (toN_lt hv)
  · exact h
/-- the piece under station j; the first of 1 .. k -/
def stP (Q : Nat → Option PcR) (S : Nat → Option (Nat × Nat)) (j : Nat) : Option PcR := match S j with
  | none => none
  | some x => Q x.1
def fst7 (Q : Nat → Option PcR) (S : Nat → Option (Nat × Nat)) : Nat → Option PcR
  | 0 => none
  | k + 1 => (match fst7 Q S k with
    | none => stP Q S (k + 1)
    | some R => some R)
def bad7 (Q : Nat → Option PcR) (R0 R : PcR) : Bool := !whl R.2.1.2.1 || decide (endsN R &&& rnds Q (endsN R0) 40 = 0)
def unr (Q : Nat → Option PcR) (S : Nat → Option (Nat × Nat)) (j : Nat) : Bool := match stP Q S j with
  | none => false
  | some R => (match fst7 Q S j with
    | none => false
    | some R0 => bad7 Q R0 R)
theorem fst7_n {Q : Nat → Option PcR} {S : Nat → Option (Nat × Nat)} {k : Nat} (h : stP Q S (k + 1) = none) : fst7 Q S (k + 1) = fst7 Q S k := by
  show (match fst7 Q S k with | none => stP Q S (k + 1) | some R => some R) = _
  rw [h]
  cases fst7 Q S k <;> rfl
theorem fst7_0 {Q : Nat → Option PcR} {S : Nat → Option (Nat × Nat)} {k : Nat} (h : fst7 Q S k = none) : fst7 Q S (k + 1) = stP Q S (k + 1) := by
  show (match fst7 Q S k with | none => stP Q S (k + 1) | some R => some R) = _
  rw [h]
theorem fst7_s {Q : Nat → Option PcR} {S : Nat → Option (Nat × Nat)} {k : Nat} {R : PcR} (h : fst7 Q S k = some R) : fst7 Q S (k + 1) = some R := by
  show (match fst7 Q S k with | none => stP Q S (k + 1) | some R => some R) = _
  rw [h]
theorem unr_n {Q : Nat → Option PcR} {S : Nat → Option (Nat × Nat)} {j : Nat} (h : stP Q S j = none) : unr Q S j = false := by simp [unr, h]
theorem unr_s {Q : Nat → Option PcR} {S : Nat → Option (Nat × Nat)} {j : Nat} {R R0 : PcR} (h : stP Q S j = some R) (h0 : fst7 Q S j = some R0) : unr Q S j = bad7 Q R0 R := by simp [unr, h, h0]
/-- all faults -/
def fltA (A : TnA) : List Two := flt 1 (lostP A.1 A.2.1) 30 ++ flt 2 (lostP A.1 A.2.2.1) 30 ++ flt 3 (twinP A.1) 60 ++ idlQ A.1 A.2.2.2 40 ++ flt 5 (fun j => wallI A.2.2.2 j A.2.2.2.length) 40 ++ flt 6 (endP A.1) 40 ++ flt 7 (unr A.1 A.2.2.1) 30
/-! bits -/
theorem bit_s {x : Int64} {k : Nat} (hk : k < 64) : (x >>> ((nI k).toInt64 &&& 63)) &&& 1 = 0 ↔ x.toBitVec.getLsbD k = false := by
  have e : (x >>> ((nI k).toInt64 &&& 63)).toBitVec = x.toBitVec.sshiftRight k := by
    show x.toBitVec.sshiftRight' (((nI k).toInt64 &&& 63).toBitVec.smod 64) = _
    rw [BitVec.sshiftRight', sh_D k hk]
  rw [← Int64.toBitVec_inj, Int64.toBitVec_and, e]
  show x.toBitVec.sshiftRight k &&& 1#64 = 0#64 ↔ _
  have hb : (x.toBitVec.sshiftRight k).getLsbD 0 = x.toBitVec.getLsbD k := by
    rw [BitVec.getLsbD_sshiftRight, if_pos (by omega)]
    rfl
  have e1 : (1#64).getLsbD 0 = true := by decide
  have e0 : (0#64).getLsbD 0 = false := by decide
  constructor
  · intro h
    have t : (x.toBitVec.sshiftRight k &&& 1#64).getLsbD 0 = (0#64).getLsbD 0 := by rw [h]
    rw [BitVec.getLsbD_and, hb, e1, e0, Bool.and_true] at t
    exact t
  · intro h
    apply BitVec.eq_of_getLsbD_eq
    intro i hi
    cases i with
    | zero => rw [BitVec.getLsbD_and, hb, h, e0, Bool.false_and]
    | succ i => simp
theorem bit_e {a b k : Nat} (hk : k < 64) : ((lN a &&& (lN b ^^^ (-1))).toBitVec.getLsbD k) = (a.testBit k && !b.testBit k) := by
  have ha : (-1 : Int64).toBitVec = BitVec.allOnes 64 := by decide
  rw [Int64.toBitVec_and, Int64.toBitVec_xor, ha, wb_tb, wb_tb, BitVec.getLsbD_and, BitVec.getLsbD_xor, BitVec.getLsbD_ofNat, BitVec.getLsbD_ofNat, BitVec.getLsbD_allOnes]
  simp only [hk, decide_true, Bool.true_and, Bool.xor_true]
theorem lN_0 {a : Nat} (h : a < 2 ^ 41) : lN a = 0 ↔ a = 0 := ⟨fun z => lN_inj (b := 0) (by omega) (by decide) z, fun z => by rw [z]; rfl⟩
theorem lN_and {a b : Nat} (ha : a < 2 ^ 41) (hb : b < 2 ^ 41) : lN a &&& lN b = lN (a &&& b) := wb_and (by omega) (by omega)
theorem and_lt41 {a b : Nat} (ha : a < 2 ^ 41) : a &&& b < 2 ^ 41 := Nat.lt_of_le_of_lt Nat.and_le_left ha
/-! pieces of the base view, under cells below dy -/
theorem vU_hi {V : Vw} {cs : va_W} {dy q : Nat} (hc : ∀ a ∈ cs.map Prod.fst, a < dy) (h : dy ≤ q) : vU V cs q = V q := vU_out V cs q (fun z => absurd (hc q z) (by omega))
theorem pcAt_vU {G : Gx} {V : Vw} {cs : va_W} {dy a : Nat} {R : PcR} (h : pcAt G V a R) (hc : ∀ a ∈ cs.map Prod.fst, a < dy) (hd : dy ≤ a) : pcAt G (vU V cs) a R := pcAt_eq h (fun q h1 _ => vU_hi hc (by omega))
theorem twB_P {G : Gx} {V : Vw} {cs : va_W} {dy sz : Nat} {pf : Nat → Option Nat} {Q : Nat → Option PcR} (h : twB G V dy sz pf Q) (hc : ∀ a ∈ cs.map Prod.fst, a < dy) : twP G (vU V cs) pf Q := by
  intro j h1 h2
  rcases h j h1 h2 with q | ⟨a, R, q1, q2, q3, q4, q5⟩
  · exact Or.inl q
  · exact Or.inr ⟨a, R, q1, q2, pcAt_vU q3 hc q4⟩
theorem twB.no {G : Gx} {V : Vw} {dy sz : Nat} {pf : Nat → Option Nat} {Q : Nat → Option PcR} (h : twB G V dy sz pf Q) {j : Nat} (h1 : 1 ≤ j) (h2 : j ≤ 60) (hj : pf j = none) : Q j = none := by
  rcases h j h1 h2 with ⟨-, q⟩ | ⟨a, R, q, -⟩
  · exact q
  · rw [hj] at q; cases q
theorem twB.yes {G : Gx} {V : Vw} {dy sz : Nat} {pf : Nat → Option Nat} {Q : Nat → Option PcR} (h : twB G V dy sz pf Q) {j a : Nat} (h1 : 1 ≤ j) (h2 : j ≤ 60) (hj : pf j = some a) : ∃ R, Q j = some R ∧ pcAt G V a R ∧ dy ≤ a := by
  rcases h j h1 h2 with ⟨q, -⟩ | ⟨b, R, q1, q2, q3, q4, q5⟩
  · rw [hj] at q; cases q
  · rw [hj] at q1; cases q1; exact ⟨R, q2, q3, q4⟩
theorem cn_sub {cs ds : List Nat} {dy : Nat} (h : ∀ a ∈ cs, a < dy) (is : List Nat) (hs : is.map (fun i => cs[i]?) = ds.map some) : ∀ a ∈ ds, a < dy := by
  intro a ha
  have h1 : some a ∈ ds.map some := List.mem_map.mpr ⟨a, ha, rfl⟩
  rw [← hs] at h1
  obtain ⟨i, -, hi⟩ := List.mem_map.mp h1
  exact h a (List.mem_of_getElem? hi)
