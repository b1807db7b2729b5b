/-! the two tapes -/
theorem ia_255 (x : Int32) : ∃ c, c < 256 ∧ x &&& 255 = nI c ∧ x.toInt8.toInt32 = sb_b c := by
  refine ⟨x.toBitVec.toNat % 256, Nat.mod_lt _ (by decide), ?_, ?_⟩
  · apply Int32.toBitVec_inj.mp
    rw [Int32.toBitVec_and]
    unfold nI
    apply BitVec.eq_of_toNat_eq
    simp [BitVec.toNat_and, Int32.toBitVec_ofNat]
    rw [show (255 : Nat) = 2 ^ 8 - 1 from rfl, Nat.and_two_pow_sub_one_eq_mod]
    have := Nat.mod_lt x.toBitVec.toNat (show 256 > 0 by decide)
    rw [show (2 : Nat) ^ 8 = 256 from rfl, Nat.mod_eq_of_lt (a := x.toBitVec.toNat % 256) (by omega)]
  · unfold sb_b
    congr 1
    apply Int8.toBitVec_inj.mp
    unfold nI
    apply BitVec.eq_of_toNat_eq
    simp
    rw [BitVec.signExtend_eq_setWidth_of_le _ (by decide)]
    simp
theorem sb_sb (c : Nat) : (sb_b c).toInt8.toInt32 = sb_b c := by
  unfold sb_b
  simp
theorem sg_two (b : Int64) (q : Nat) : ∃ c, c < 256 ∧ sgM b q = nI c ∧ vp_nar .byte (sgB b q) = sb_b c := by
  obtain ⟨c, h1, h2, h3⟩ := ia_255 (b >>> ((nI (8 * q)).toInt64 &&& 63)).toInt32
  refine ⟨c, h1, h2, ?_⟩
  rw [vp_nar_byte]
  unfold sgB
  rw [h3, sb_sb]
/-- both hold the same bytes -/
theorem tp_app {f g : Nat → Int32} {t : Nat → Nat} {n j : Nat} (b : Int64) (h1 : tpOk f t n) (h2 : mtOk g t n) : ∃ t2, tpOk (apG b f n j j) t2 (n + j) ∧ mtOk (apM b g n j j) t2 (n + j) := by
  refine ⟨fun p => if p < n then t p else Classical.choose (sg_two b (j - 1 - (p - n))), fun i hi => ?_, fun i hi => ?_⟩
  · by_cases h : i < n
    · simp only [if_pos h]
      have := h1 i h
      refine ⟨this.1, ?_⟩
      unfold apG
      rw [if_neg (by omega)]
      exact this.2
    · simp only [if_neg h]
      have := Classical.choose_spec (sg_two b (j - 1 - (i - n)))
      refine ⟨this.1, ?_⟩
      unfold apG
      rw [if_pos (by omega)]
      exact this.2.2
  · by_cases h : i < n
    · simp only [if_pos h]
      have := h2 i h
      refine ⟨this.1, ?_⟩
      unfold apM
      rw [if_neg (by omega)]
      exact this.2
    · simp only [if_neg h]
      have := Classical.choose_spec (sg_two b (j - 1 - (i - n)))
      refine ⟨this.1, ?_⟩
      unfold apM
      rw [if_pos (by omega)]
      exact this.2.1
