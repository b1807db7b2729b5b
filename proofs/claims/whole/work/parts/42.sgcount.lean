/-! BITS COUNTED: byte by byte -/
theorem bc_and (u v M w : Nat) (hv : v < 256) (hw : w < 256) : (256 * u + v) &&& (256 * M + w) = 256 * (u &&& M) + (v &&& w) := by
  apply Nat.eq_of_testBit_eq
  intro i
  have e1 := Nat.testBit_two_pow_mul_add u (show v < 2 ^ 8 from hv) i
  have e2 := Nat.testBit_two_pow_mul_add M (show w < 2 ^ 8 from hw) i
  have e3 := Nat.testBit_two_pow_mul_add (u &&& M) (show v &&& w < 2 ^ 8 from Nat.and_lt_two_pow v hw) i
  rw [Nat.testBit_and]
  rw [show 256 * u + v = 2 ^ 8 * u + v from rfl, show 256 * M + w = 2 ^ 8 * M + w from rfl, show 256 * (u &&& M) + (v &&& w) = 2 ^ 8 * (u &&& M) + (v &&& w) from rfl, e1, e2, e3]
  by_cases h : i < 8 <;> simp [h]
def bcA (x : Nat) : Nat := x - (x / 2 &&& 85)
def bcB (x : Nat) : Nat := (x &&& 51) + (x / 4 &&& 51)
def bcC (x : Nat) : Nat := (x + x / 16) &&& 15
theorem bc_a0 : ∀ (r : Fin 2) (x : Fin 256), (128 * r.1 + x.1 / 2) &&& 85 = x.1 / 2 &&& 85 := by decide +kernel
theorem bc_b0 : ∀ (r : Fin 4) (x : Fin 256), (64 * r.1 + x.1 / 4) &&& 51 = x.1 / 4 &&& 51 := by decide +kernel
theorem bc_c0 : ∀ (r : Fin 5) (x : Fin 256), x.1 ≤ 68 → (16 * r.1 + (x.1 + x.1 / 16)) &&& 15 = (x.1 + x.1 / 16) &&& 15 := by decide +kernel
theorem bc_lt : ∀ x : Fin 256, bcA x.1 < 256 ∧ bcB (bcA x.1) ≤ 68 ∧ bcB (bcA x.1) % 16 ≤ 4 ∧ bcC (bcB (bcA x.1)) ≤ 8 := by decide +kernel
theorem bc_1 (q x M : Nat) (hx : x < 256) : (256 * q + x) - ((256 * q + x) / 2 &&& (256 * M + 85)) = 256 * (q - (q / 2 &&& M)) + bcA x := by
  have h1 : (256 * q + x) / 2 = 256 * (q / 2) + (128 * (q % 2) + x / 2) := by omega
  have h2 := bc_a0 ⟨q % 2, by omega⟩ ⟨x, hx⟩
  simp only [] at h2
  rw [h1, bc_and _ _ _ _ (by omega) (by decide), h2]
  have h3 : q / 2 &&& M ≤ q / 2 := Nat.and_le_left
  have h4 : x / 2 &&& 85 ≤ x / 2 := Nat.and_le_left
  unfold bcA
  omega
theorem bc_2 (q x M : Nat) (hx : x < 256) : ((256 * q + x) &&& (256 * M + 51)) + ((256 * q + x) / 4 &&& (256 * M + 51)) = 256 * ((q &&& M) + (q / 4 &&& M)) + bcB x := by
  have h1 : (256 * q + x) / 4 = 256 * (q / 4) + (64 * (q % 4) + x / 4) := by omega
  have h2 := bc_b0 ⟨q % 4, by omega⟩ ⟨x, hx⟩
  simp only [] at h2
  rw [h1, bc_and q x M 51 hx (by decide), bc_and (q / 4) _ M 51 (by omega) (by decide), h2]
  unfold bcB
  omega
theorem bc_3 (q x M : Nat) (hx : x ≤ 68) (hq : q % 16 ≤ 4) : ((256 * q + x) + (256 * q + x) / 16) &&& (256 * M + 15) = 256 * ((q + q / 16) &&& M) + bcC x := by
  have h1 : (256 * q + x) + (256 * q + x) / 16 = 256 * (q + q / 16) + (16 * (q % 16) + (x + x / 16)) := by omega
  have h2 := bc_c0 ⟨q % 16, by omega⟩ ⟨x, by omega⟩ hx
  simp only [] at h2
  rw [h1, bc_and _ _ _ _ (by omega) (by decide), h2]
  rfl
def bcP (x : Nat) : Nat := (x.testBit 0).toNat + (x.testBit 1).toNat + (x.testBit 2).toNat + (x.testBit 3).toNat + (x.testBit 4).toNat + (x.testBit 5).toNat + (x.testBit 6).toNat + (x.testBit 7).toNat
theorem bc_p : ∀ x : Fin 256, bcC (bcB (bcA x.1)) = bcP x.1 := by decide +kernel
def bcS1 (m : Nat) : Nat := m - (m / 2 &&& 0x5555555555555555)
def bcS2 (m : Nat) : Nat := (m &&& 0x3333333333333333) + (m / 4 &&& 0x3333333333333333)
def bcS3 (m : Nat) : Nat := (m + m / 16) &&& 0x0f0f0f0f0f0f0f0f
theorem bc_s1 (x0 x1 x2 x3 x4 x5 : Nat) (h0 : x0 < 256) (h1 : x1 < 256) (h2 : x2 < 256) (h3 : x3 < 256) (h4 : x4 < 256) (h5 : x5 < 256) : bcS1 (256 * (256 * (256 * (256 * (256 * x5 + x4) + x3) + x2) + x1) + x0) = 256 * (256 * (256 * (256 * (256 * bcA x5 + bcA x4) + bcA x3) + bcA x2) + bcA x1) + bcA x0 := by
  unfold bcS1
  rw [show (0x5555555555555555 : Nat) = 256 * (256 * (256 * (256 * (256 * (256 * 0x5555 + 85) + 85) + 85) + 85) + 85) + 85 from rfl]
  rw [bc_1 _ _ _ h0, bc_1 _ _ _ h1, bc_1 _ _ _ h2, bc_1 _ _ _ h3, bc_1 _ _ _ h4]
  have e := bc_1 0 x5 0x5555 h5
  simp only [Nat.mul_zero, Nat.zero_add, Nat.zero_div, Nat.zero_and, Nat.sub_zero] at e
  rw [e]
theorem bc_s2 (x0 x1 x2 x3 x4 x5 : Nat) (h0 : x0 < 256) (h1 : x1 < 256) (h2 : x2 < 256) (h3 : x3 < 256) (h4 : x4 < 256) (h5 : x5 < 256) : bcS2 (256 * (256 * (256 * (256 * (256 * x5 + x4) + x3) + x2) + x1) + x0) = 256 * (256 * (256 * (256 * (256 * bcB x5 + bcB x4) + bcB x3) + bcB x2) + bcB x1) + bcB x0 := by
  unfold bcS2
  rw [show (0x3333333333333333 : Nat) = 256 * (256 * (256 * (256 * (256 * (256 * 0x3333 + 51) + 51) + 51) + 51) + 51) + 51 from rfl]
  rw [bc_2 _ _ _ h0, bc_2 _ _ _ h1, bc_2 _ _ _ h2, bc_2 _ _ _ h3, bc_2 _ _ _ h4]
  have e := bc_2 0 x5 0x3333 h5
  simp only [Nat.mul_zero, Nat.zero_add, Nat.zero_div, Nat.zero_and] at e
  rw [e]
theorem bc_s3 (x0 x1 x2 x3 x4 x5 : Nat) (h0 : x0 ≤ 68) (h1 : x1 ≤ 68) (h2 : x2 ≤ 68) (h3 : x3 ≤ 68) (h4 : x4 ≤ 68) (h5 : x5 ≤ 68) (g1 : x1 % 16 ≤ 4) (g2 : x2 % 16 ≤ 4) (g3 : x3 % 16 ≤ 4) (g4 : x4 % 16 ≤ 4) (g5 : x5 % 16 ≤ 4) : bcS3 (256 * (256 * (256 * (256 * (256 * x5 + x4) + x3) + x2) + x1) + x0) = 256 * (256 * (256 * (256 * (256 * bcC x5 + bcC x4) + bcC x3) + bcC x2) + bcC x1) + bcC x0 := by
  unfold bcS3
  rw [show (0x0f0f0f0f0f0f0f0f : Nat) = 256 * (256 * (256 * (256 * (256 * (256 * 0x0f0f + 15) + 15) + 15) + 15) + 15) + 15 from rfl]
  rw [bc_3 _ _ _ h0 (by omega), bc_3 _ _ _ h1 (by omega), bc_3 _ _ _ h2 (by omega), bc_3 _ _ _ h3 (by omega), bc_3 _ _ _ h4 (by omega)]
  have e := bc_3 0 x5 0x0f0f h5 (by decide)
  simp only [Nat.mul_zero, Nat.zero_add, Nat.zero_div, Nat.zero_and] at e
  rw [e]
/-- what the shifts behind do -/
def bcS4 (c : Nat) : Nat := c + c / 256
def bcS5 (c : Nat) : Nat := c + c / 65536
def bcS6 (c : Nat) : Nat := c + c / 4294967296
theorem bc_sum (c0 c1 c2 c3 c4 c5 : Nat) (h0 : c0 ≤ 8) (h1 : c1 ≤ 8) (h2 : c2 ≤ 8) (h3 : c3 ≤ 8) (h4 : c4 ≤ 8) (h5 : c5 ≤ 8) : bcS6 (bcS5 (bcS4 (256 * (256 * (256 * (256 * (256 * c5 + c4) + c3) + c2) + c1) + c0))) % 128 = c0 + c1 + c2 + c3 + c4 + c5 := by
  have e1 : bcS4 (256 * (256 * (256 * (256 * (256 * c5 + c4) + c3) + c2) + c1) + c0) = 65536 * (65536 * (256 * c5 + (c4 + c5)) + (256 * (c3 + c4) + (c2 + c3))) + (256 * (c1 + c2) + (c0 + c1)) := by
    unfold bcS4
    have : (256 * (256 * (256 * (256 * (256 * c5 + c4) + c3) + c2) + c1) + c0) / 256 = 256 * (256 * (256 * (256 * c5 + c4) + c3) + c2) + c1 := by omega
    rw [this]; omega
  have e2 : bcS5 (65536 * (65536 * (256 * c5 + (c4 + c5)) + (256 * (c3 + c4) + (c2 + c3))) + (256 * (c1 + c2) + (c0 + c1))) = 4294967296 * (256 * c5 + (c4 + c5)) + (65536 * (256 * (c5 + c3 + c4) + (c4 + c5 + c2 + c3)) + (256 * (c3 + c4 + c1 + c2) + (c2 + c3 + c0 + c1))) := by
    unfold bcS5
    have : (65536 * (65536 * (256 * c5 + (c4 + c5)) + (256 * (c3 + c4) + (c2 + c3))) + (256 * (c1 + c2) + (c0 + c1))) / 65536 = 65536 * (256 * c5 + (c4 + c5)) + (256 * (c3 + c4) + (c2 + c3)) := by omega
    rw [this]; omega
  rw [e1, e2]
  unfold bcS6
  have e3 : (4294967296 * (256 * c5 + (c4 + c5)) + (65536 * (256 * (c5 + c3 + c4) + (c4 + c5 + c2 + c3)) + (256 * (c3 + c4 + c1 + c2) + (c2 + c3 + c0 + c1)))) / 4294967296 = 256 * c5 + (c4 + c5) := by omega
  rw [e3]
  omega
theorem bc_bits (x0 x1 x2 x3 x4 x5 : Nat) (h0 : x0 < 256) (h1 : x1 < 256) (h2 : x2 < 256) (h3 : x3 < 256) (h4 : x4 < 256) (h5 : x5 < 2) (hz : x0.testBit 0 = false) :
    cnt (fun j => (256 * (256 * (256 * (256 * (256 * x5 + x4) + x3) + x2) + x1) + x0).testBit j) 40 = bcP x0 + bcP x1 + bcP x2 + bcP x3 + bcP x4 + bcP x5 := by
  have tb : ∀ (u v i : Nat), v < 256 → (256 * u + v).testBit i = if i < 8 then v.testBit i else u.testBit (i - 8) := fun u v i hv => Nat.testBit_two_pow_mul_add u (show v < 2 ^ 8 from hv) i
  have t0 : ∀ b : Bool, (if b = true then 1 else 0) = b.toNat := fun b => by cases b <;> rfl
  have z1 : ∀ i, 1 ≤ i → x5.testBit i = false := fun i hi => Nat.testBit_lt_two_pow (Nat.lt_of_lt_of_le h5 (Nat.pow_le_pow_right (n := 2) (by decide) hi))
  simp only [cnt, t0]
  simp only [tb _ _ _ h0, tb _ _ _ h1, tb _ _ _ h2, tb _ _ _ h3, tb _ _ _ h4, Nat.reduceLT, Nat.reduceAdd, if_true, if_false, Nat.reduceSub, Nat.zero_add]
  simp only [bcP, hz, z1 1 (by decide), z1 2 (by decide), z1 3 (by decide), z1 4 (by decide), z1 5 (by decide), z1 6 (by decide), z1 7 (by decide), Bool.toNat_false]
  omega
theorem bc_all {m : Nat} (hm : m < 2 ^ 41) (hz : m.testBit 0 = false) : bcS6 (bcS5 (bcS4 (bcS3 (bcS2 (bcS1 m))))) % 128 = cnt (fun j => m.testBit j) 40 := by
  obtain ⟨x0, x1, x2, x3, x4, x5, h0, h1, h2, h3, h4, h5, rfl⟩ : ∃ x0 x1 x2 x3 x4 x5 : Nat, x0 < 256 ∧ x1 < 256 ∧ x2 < 256 ∧ x3 < 256 ∧ x4 < 256 ∧ x5 < 2 ∧ m = 256 * (256 * (256 * (256 * (256 * x5 + x4) + x3) + x2) + x1) + x0 :=
    ⟨m % 256, m / 256 % 256, m / 65536 % 256, m / 16777216 % 256, m / 4294967296 % 256, m / 1099511627776, by omega, by omega, by omega, by omega, by omega, by omega, by omega⟩
  have hz0 : x0.testBit 0 = false := by
    have := Nat.testBit_two_pow_mul_add (256 * (256 * (256 * (256 * x5 + x4) + x3) + x2) + x1) (show x0 < 2 ^ 8 from h0) 0
    rw [if_pos (by decide)] at this
    rw [← this]; exact hz
  have l0 := bc_lt ⟨x0, h0⟩
  have l1 := bc_lt ⟨x1, h1⟩
  have l2 := bc_lt ⟨x2, h2⟩
  have l3 := bc_lt ⟨x3, h3⟩
  have l4 := bc_lt ⟨x4, h4⟩
  have l5 := bc_lt ⟨x5, by omega⟩
  simp only [] at l0 l1 l2 l3 l4 l5
  rw [bc_s1 _ _ _ _ _ _ h0 h1 h2 h3 h4 (by omega), bc_s2 _ _ _ _ _ _ l0.1 l1.1 l2.1 l3.1 l4.1 l5.1, bc_s3 _ _ _ _ _ _ l0.2.1 l1.2.1 l2.2.1 l3.2.1 l4.2.1 l5.2.1 l1.2.2.1 l2.2.2.1 l3.2.2.1 l4.2.2.1 l5.2.2.1, bc_sum _ _ _ _ _ _ l0.2.2.2 l1.2.2.2 l2.2.2.2 l3.2.2.2 l4.2.2.2 l5.2.2.2, bc_bits _ _ _ _ _ _ h0 h1 h2 h3 h4 h5 hz0]
  have p0 := bc_p ⟨x0, h0⟩
  have p1 := bc_p ⟨x1, h1⟩
  have p2 := bc_p ⟨x2, h2⟩
  have p3 := bc_p ⟨x3, h3⟩
  have p4 := bc_p ⟨x4, h4⟩
  have p5 := bc_p ⟨x5, by omega⟩
  simp only [] at p0 p1 p2 p3 p4 p5
  rw [p0, p1, p2, p3, p4, p5]
theorem lN_ush {a k : Nat} {y : UInt64} (ha : a < 2 ^ 64) (hk : k < 64) (hy : y = UInt64.ofNat k) : ((lN a).toUInt64 >>> y).toInt64 = lN (a / 2 ^ k) := by
  subst hy
  unfold lN
  have h1 : (Int64.ofNat a).toUInt64 = UInt64.ofNat a := rfl
  rw [h1]
  have h2 : UInt64.ofNat a >>> UInt64.ofNat k = UInt64.ofNat (a / 2 ^ k) := by
    apply UInt64.toNat_inj.mp
    rw [UInt64.toNat_shiftRight]
    simp only [UInt64.toNat_ofNat']
    rw [Nat.mod_eq_of_lt ha, Nat.mod_eq_of_lt (a := k) (by omega), Nat.mod_eq_of_lt hk, Nat.shiftRight_eq_div_pow, Nat.mod_eq_of_lt (Nat.lt_of_le_of_lt (Nat.div_le_self _ _) ha)]
  rw [h2]
  rfl
theorem nI_and127 (n : Nat) : nI n &&& 127 = nI (n % 128) := by
  apply Int32.toBitVec_inj.mp
  apply BitVec.eq_of_toNat_eq
  show (BitVec.ofNat 32 n &&& 127#32).toNat = (BitVec.ofNat 32 (n % 128)).toNat
  rw [BitVec.toNat_and, show (127#32).toNat = 2 ^ 7 - 1 from by decide, Nat.and_two_pow_sub_one_eq_mod, BitVec.toNat_ofNat, BitVec.toNat_ofNat]
  omega
theorem bcS1_le (m : Nat) : bcS1 m ≤ m := Nat.sub_le _ _
theorem bcS2_le (m : Nat) : bcS2 m ≤ 2 * m := by
  unfold bcS2
  have h1 : m &&& 0x3333333333333333 ≤ m := Nat.and_le_left
  have h2 : m / 4 &&& 0x3333333333333333 ≤ m / 4 := Nat.and_le_left
  omega
theorem bcS3_le (m : Nat) : bcS3 m ≤ 2 * m := by
  unfold bcS3
  have h1 : (m + m / 16) &&& 0x0f0f0f0f0f0f0f0f ≤ m + m / 16 := Nat.and_le_left
  omega
theorem bcS4_le (m : Nat) : bcS4 m ≤ 2 * m := by unfold bcS4; omega
theorem bcS5_le (m : Nat) : bcS5 m ≤ 2 * m := by unfold bcS5; omega
theorem bcS6_le (m : Nat) : bcS6 m ≤ 2 * m := by unfold bcS6; omega
theorem nodesQ_lt {G : Gx} {V : Vw} {dy sz : Nat} {pf : Nat → Option Nat} {Q : Nat → Option PcR} (hB : twB G V dy sz pf Q) : ∀ k, k ≤ 60 → nodesQ Q k < 2 ^ 41 ∧ (nodesQ Q k).testBit 0 = false
  | 0, _ => ⟨show 0 < 2 ^ 41 by decide, show (0 : Nat).testBit 0 = false by decide⟩
  | k + 1, h => by
    have ih := nodesQ_lt hB k (by omega)
    rcases hB (k + 1) (by omega) h with ⟨-, e⟩ | ⟨a, R, -, e, hp, -⟩
    · rw [nodesQ_n e]; exact ih
    · rw [nodesQ_s e]
      have hv := hp.2.2.1
      refine ⟨Nat.or_lt_two_pow ih.1 (ends_lt hp.2.2), ?_⟩
      rw [Nat.testBit_or, ih.2]
      unfold endsN
      rw [Nat.testBit_or]
      have z : ∀ i, 1 ≤ i → (2 ^ i).testBit 0 = false := fun i hi => by
        rw [Nat.testBit_two_pow]
        exact decide_eq_false (by omega)
      first
        | rw [z _ hv.1, z _ hv.2.2.1]; rfl
        | simp [z _ hv.1, z _ hv.2.2.1]

theorem d_Lg_bitCount_0 : decode b_Lg_bitCount 0 = .ok (.lload_n 0, 1) := by decide +kernel
theorem d_Lg_bitCount_1 : decode b_Lg_bitCount 1 = .ok (.lload_n 0, 1) := by decide +kernel
theorem d_Lg_bitCount_2 : decode b_Lg_bitCount 2 = .ok (.iconst 1, 1) := by decide +kernel
theorem d_Lg_bitCount_3 : decode b_Lg_bitCount 3 = .ok (.lushr, 1) := by decide +kernel
theorem d_Lg_bitCount_4 : decode b_Lg_bitCount 4 = .ok (.ldc2_w 314, 3) := by decide +kernel
theorem d_Lg_bitCount_7 : decode b_Lg_bitCount 7 = .ok (.land, 1) := by decide +kernel
theorem d_Lg_bitCount_8 : decode b_Lg_bitCount 8 = .ok (.lsub, 1) := by decide +kernel
theorem d_Lg_bitCount_9 : decode b_Lg_bitCount 9 = .ok (.lstore_n 0, 1) := by decide +kernel
theorem d_Lg_bitCount_10 : decode b_Lg_bitCount 10 = .ok (.lload_n 0, 1) := by decide +kernel
theorem d_Lg_bitCount_11 : decode b_Lg_bitCount 11 = .ok (.ldc2_w 316, 3) := by decide +kernel
theorem d_Lg_bitCount_14 : decode b_Lg_bitCount 14 = .ok (.land, 1) := by decide +kernel
theorem d_Lg_bitCount_15 : decode b_Lg_bitCount 15 = .ok (.lload_n 0, 1) := by decide +kernel
theorem d_Lg_bitCount_16 : decode b_Lg_bitCount 16 = .ok (.iconst 2, 1) := by decide +kernel
theorem d_Lg_bitCount_17 : decode b_Lg_bitCount 17 = .ok (.lushr, 1) := by decide +kernel
theorem d_Lg_bitCount_18 : decode b_Lg_bitCount 18 = .ok (.ldc2_w 316, 3) := by decide +kernel
theorem d_Lg_bitCount_21 : decode b_Lg_bitCount 21 = .ok (.land, 1) := by decide +kernel
theorem d_Lg_bitCount_22 : decode b_Lg_bitCount 22 = .ok (.ladd, 1) := by decide +kernel
theorem d_Lg_bitCount_23 : decode b_Lg_bitCount 23 = .ok (.lstore_n 0, 1) := by decide +kernel
theorem d_Lg_bitCount_24 : decode b_Lg_bitCount 24 = .ok (.lload_n 0, 1) := by decide +kernel
theorem d_Lg_bitCount_25 : decode b_Lg_bitCount 25 = .ok (.lload_n 0, 1) := by decide +kernel
theorem d_Lg_bitCount_26 : decode b_Lg_bitCount 26 = .ok (.iconst 4, 1) := by decide +kernel
theorem d_Lg_bitCount_27 : decode b_Lg_bitCount 27 = .ok (.lushr, 1) := by decide +kernel
theorem d_Lg_bitCount_28 : decode b_Lg_bitCount 28 = .ok (.ladd, 1) := by decide +kernel
theorem d_Lg_bitCount_29 : decode b_Lg_bitCount 29 = .ok (.ldc2_w 318, 3) := by decide +kernel
theorem d_Lg_bitCount_32 : decode b_Lg_bitCount 32 = .ok (.land, 1) := by decide +kernel
theorem d_Lg_bitCount_33 : decode b_Lg_bitCount 33 = .ok (.lstore_n 0, 1) := by decide +kernel
theorem d_Lg_bitCount_34 : decode b_Lg_bitCount 34 = .ok (.lload_n 0, 1) := by decide +kernel
theorem d_Lg_bitCount_35 : decode b_Lg_bitCount 35 = .ok (.lload_n 0, 1) := by decide +kernel
theorem d_Lg_bitCount_36 : decode b_Lg_bitCount 36 = .ok (.bipush 8, 2) := by decide +kernel
theorem d_Lg_bitCount_38 : decode b_Lg_bitCount 38 = .ok (.lushr, 1) := by decide +kernel
theorem d_Lg_bitCount_39 : decode b_Lg_bitCount 39 = .ok (.ladd, 1) := by decide +kernel
theorem d_Lg_bitCount_40 : decode b_Lg_bitCount 40 = .ok (.lstore_n 0, 1) := by decide +kernel
theorem d_Lg_bitCount_41 : decode b_Lg_bitCount 41 = .ok (.lload_n 0, 1) := by decide +kernel
theorem d_Lg_bitCount_42 : decode b_Lg_bitCount 42 = .ok (.lload_n 0, 1) := by decide +kernel
theorem d_Lg_bitCount_43 : decode b_Lg_bitCount 43 = .ok (.bipush 16, 2) := by decide +kernel
theorem d_Lg_bitCount_45 : decode b_Lg_bitCount 45 = .ok (.lushr, 1) := by decide +kernel
theorem d_Lg_bitCount_46 : decode b_Lg_bitCount 46 = .ok (.ladd, 1) := by decide +kernel
theorem d_Lg_bitCount_47 : decode b_Lg_bitCount 47 = .ok (.lstore_n 0, 1) := by decide +kernel
theorem d_Lg_bitCount_48 : decode b_Lg_bitCount 48 = .ok (.lload_n 0, 1) := by decide +kernel
theorem d_Lg_bitCount_49 : decode b_Lg_bitCount 49 = .ok (.lload_n 0, 1) := by decide +kernel
theorem d_Lg_bitCount_50 : decode b_Lg_bitCount 50 = .ok (.bipush 32, 2) := by decide +kernel
theorem d_Lg_bitCount_52 : decode b_Lg_bitCount 52 = .ok (.lushr, 1) := by decide +kernel
theorem d_Lg_bitCount_53 : decode b_Lg_bitCount 53 = .ok (.ladd, 1) := by decide +kernel
theorem d_Lg_bitCount_54 : decode b_Lg_bitCount 54 = .ok (.lstore_n 0, 1) := by decide +kernel
theorem d_Lg_bitCount_55 : decode b_Lg_bitCount 55 = .ok (.lload_n 0, 1) := by decide +kernel
theorem d_Lg_bitCount_56 : decode b_Lg_bitCount 56 = .ok (.l2i, 1) := by decide +kernel
theorem d_Lg_bitCount_57 : decode b_Lg_bitCount 57 = .ok (.bipush 127, 2) := by decide +kernel
theorem d_Lg_bitCount_59 : decode b_Lg_bitCount 59 = .ok (.iand, 1) := by decide +kernel
theorem d_Lg_bitCount_60 : decode b_Lg_bitCount 60 = .ok (.ireturn, 1) := by decide +kernel

set_option maxHeartbeats 4000000 in
set_option maxRecDepth 100000 in
/-- Long.bitCount -/
theorem c_Lg_bitCount (l : Launch) (G : Gx) (lo : Nat) (V : Vw) (sz : Nat) (m : Nat) (hm : m < 2 ^ 41) (hz0 : m.testBit 0 = false) : Met l y_Lg_bitCount ws_Lg_bitCount ({ frames := 0, cells := 0, slots := 0, locals := 0 } : Room) (vPre G lo [.long (lN m)] (vU V []) sz) (vPost G lo (fun r V' k => r = some (.int (nI (cnt (fun j => m.testBit j) 40))) ∧ V' = vU V [] ∧ k = sz)) 0 0 (vL lo) := by
  refine vMet (R := "java/lang/Long") (by decide) rfl (Nat.le_of_ble_eq_true rfl) ?_
  intro pg ev s mi args below meth cd hx hb hr hml hlk hnm hts hown hK hz hV ls hl
  have hl : lv_has ls 2 [(0, .long (lN m))] := hl
  have hV0 := hV
  obtain ⟨H, hH⟩ : ∃ H, H = s.heap := ⟨_, rfl⟩
  obtain ⟨locs, hlocs⟩ : ∃ locs : List Loc, locs = [] := ⟨_, rfl⟩
  rw [← hH, ← hlocs]
  rw [← hH] at hz
  replace hV : vS G.1 cls lo s H locs (vU V []) := by rw [hH, hlocs]; exact hV
  clear hH hlocs hV0
  have k1 := bcS1_le m
  have k2 := bcS2_le (bcS1 m)
  have k3 := bcS3_le (bcS2 (bcS1 m))
  have k4 := bcS4_le (bcS3 (bcS2 (bcS1 m)))
  have k5 := bcS5_le (bcS4 (bcS3 (bcS2 (bcS1 m))))
  have k6 := bcS6_le (bcS5 (bcS4 (bcS3 (bcS2 (bcS1 m)))))
  refine lv_lload_n hx hb d_Lg_bitCount_0 rfl (lv_at hl 0 rfl) ?_
  refine lv_lload_n hx hb d_Lg_bitCount_1 rfl (lv_at hl 0 rfl) ?_
  refine lv_iconst (v := 1) hx hb d_Lg_bitCount_2 (by decide) ?_
  refine lv_lushr (v := lN (m / 2)) hx hb d_Lg_bitCount_3 (lN_ush (a := m) (k := 1) (by omega) (by decide) (by decide)) ?_
  refine lv_ldc2 hx hb hown (hts _ w_cL_Lg_314) d_Lg_bitCount_4 ?_
  refine e_land (v := lN (m / 2 &&& 6148914691236517205)) hx hb d_Lg_bitCount_7 (wb_and (a := m / 2) (b := 6148914691236517205) (by omega) (by decide)) ?_
  refine e_lsub (v := lN (bcS1 m)) hx hb d_Lg_bitCount_8 (lN_sub (Nat.le_trans Nat.and_le_left (Nat.div_le_self _ _))) ?_
  refine lv_lstore_n (lv' := [(0, .long (lN (bcS1 m)))]) hx hb d_Lg_bitCount_9 rfl hl (by decide) rfl (fun ls hl => ?_)
  refine lv_lload_n hx hb d_Lg_bitCount_10 rfl (lv_at hl 0 rfl) ?_
  refine lv_ldc2 hx hb hown (hts _ w_cL_Lg_316) d_Lg_bitCount_11 ?_
  refine e_land (v := lN (bcS1 m &&& 3689348814741910323)) hx hb d_Lg_bitCount_14 (wb_and (a := bcS1 m) (b := 3689348814741910323) (by omega) (by decide)) ?_
  refine lv_lload_n hx hb d_Lg_bitCount_15 rfl (lv_at hl 0 rfl) ?_
  refine lv_iconst (v := 2) hx hb d_Lg_bitCount_16 (by decide) ?_
  refine lv_lushr (v := lN (bcS1 m / 4)) hx hb d_Lg_bitCount_17 (lN_ush (a := bcS1 m) (k := 2) (by omega) (by decide) (by decide)) ?_
  refine lv_ldc2 hx hb hown (hts _ w_cL_Lg_316) d_Lg_bitCount_18 ?_
  refine e_land (v := lN (bcS1 m / 4 &&& 3689348814741910323)) hx hb d_Lg_bitCount_21 (wb_and (a := bcS1 m / 4) (b := 3689348814741910323) (by omega) (by decide)) ?_
  refine e_ladd (v := lN (bcS2 (bcS1 m))) hx hb d_Lg_bitCount_22 (lN_add (bcS1 m &&& 3689348814741910323) (bcS1 m / 4 &&& 3689348814741910323)) ?_
  refine lv_lstore_n (lv' := [(0, .long (lN (bcS2 (bcS1 m))))]) hx hb d_Lg_bitCount_23 rfl hl (by decide) rfl (fun ls hl => ?_)
  refine lv_lload_n hx hb d_Lg_bitCount_24 rfl (lv_at hl 0 rfl) ?_
  refine lv_lload_n hx hb d_Lg_bitCount_25 rfl (lv_at hl 0 rfl) ?_
  refine lv_iconst (v := 4) hx hb d_Lg_bitCount_26 (by decide) ?_
  refine lv_lushr (v := lN (bcS2 (bcS1 m) / 16)) hx hb d_Lg_bitCount_27 (lN_ush (a := bcS2 (bcS1 m)) (k := 4) (by omega) (by decide) (by decide)) ?_
  refine e_ladd (v := lN (bcS2 (bcS1 m) + bcS2 (bcS1 m) / 16)) hx hb d_Lg_bitCount_28 (lN_add (bcS2 (bcS1 m)) (bcS2 (bcS1 m) / 16)) ?_
  refine lv_ldc2 hx hb hown (hts _ w_cL_Lg_318) d_Lg_bitCount_29 ?_
  refine e_land (v := lN (bcS3 (bcS2 (bcS1 m)))) hx hb d_Lg_bitCount_32 (wb_and (a := bcS2 (bcS1 m) + bcS2 (bcS1 m) / 16) (b := 1085102592571150095) (by omega) (by decide)) ?_
  refine lv_lstore_n (lv' := [(0, .long (lN (bcS3 (bcS2 (bcS1 m)))))]) hx hb d_Lg_bitCount_33 rfl hl (by decide) rfl (fun ls hl => ?_)
  refine lv_lload_n hx hb d_Lg_bitCount_34 rfl (lv_at hl 0 rfl) ?_
  refine lv_lload_n hx hb d_Lg_bitCount_35 rfl (lv_at hl 0 rfl) ?_
  refine lv_bipush (v := 8) hx hb d_Lg_bitCount_36 (by decide) ?_
  refine lv_lushr (v := lN (bcS3 (bcS2 (bcS1 m)) / 256)) hx hb d_Lg_bitCount_38 (lN_ush (a := bcS3 (bcS2 (bcS1 m))) (k := 8) (by omega) (by decide) (by decide)) ?_
  refine e_ladd (v := lN (bcS4 (bcS3 (bcS2 (bcS1 m))))) hx hb d_Lg_bitCount_39 (lN_add (bcS3 (bcS2 (bcS1 m))) (bcS3 (bcS2 (bcS1 m)) / 256)) ?_
  refine lv_lstore_n (lv' := [(0, .long (lN (bcS4 (bcS3 (bcS2 (bcS1 m))))))]) hx hb d_Lg_bitCount_40 rfl hl (by decide) rfl (fun ls hl => ?_)
  refine lv_lload_n hx hb d_Lg_bitCount_41 rfl (lv_at hl 0 rfl) ?_
  refine lv_lload_n hx hb d_Lg_bitCount_42 rfl (lv_at hl 0 rfl) ?_
  refine lv_bipush (v := 16) hx hb d_Lg_bitCount_43 (by decide) ?_
  refine lv_lushr (v := lN (bcS4 (bcS3 (bcS2 (bcS1 m))) / 65536)) hx hb d_Lg_bitCount_45 (lN_ush (a := bcS4 (bcS3 (bcS2 (bcS1 m)))) (k := 16) (by omega) (by decide) (by decide)) ?_
  refine e_ladd (v := lN (bcS5 (bcS4 (bcS3 (bcS2 (bcS1 m)))))) hx hb d_Lg_bitCount_46 (lN_add (bcS4 (bcS3 (bcS2 (bcS1 m)))) (bcS4 (bcS3 (bcS2 (bcS1 m))) / 65536)) ?_
  refine lv_lstore_n (lv' := [(0, .long (lN (bcS5 (bcS4 (bcS3 (bcS2 (bcS1 m)))))))]) hx hb d_Lg_bitCount_47 rfl hl (by decide) rfl (fun ls hl => ?_)
  refine lv_lload_n hx hb d_Lg_bitCount_48 rfl (lv_at hl 0 rfl) ?_
  refine lv_lload_n hx hb d_Lg_bitCount_49 rfl (lv_at hl 0 rfl) ?_
  refine lv_bipush (v := 32) hx hb d_Lg_bitCount_50 (by decide) ?_
  refine lv_lushr (v := lN (bcS5 (bcS4 (bcS3 (bcS2 (bcS1 m)))) / 4294967296)) hx hb d_Lg_bitCount_52 (lN_ush (a := bcS5 (bcS4 (bcS3 (bcS2 (bcS1 m))))) (k := 32) (by omega) (by decide) (by decide)) ?_
  refine e_ladd (v := lN (bcS6 (bcS5 (bcS4 (bcS3 (bcS2 (bcS1 m))))))) hx hb d_Lg_bitCount_53 (lN_add (bcS5 (bcS4 (bcS3 (bcS2 (bcS1 m))))) (bcS5 (bcS4 (bcS3 (bcS2 (bcS1 m)))) / 4294967296)) ?_
  refine lv_lstore_n (lv' := [(0, .long (lN (bcS6 (bcS5 (bcS4 (bcS3 (bcS2 (bcS1 m))))))))]) hx hb d_Lg_bitCount_54 rfl hl (by decide) rfl (fun ls hl => ?_)
  refine lv_lload_n hx hb d_Lg_bitCount_55 rfl (lv_at hl 0 rfl) ?_
  refine lv_l2i (v := nI (bcS6 (bcS5 (bcS4 (bcS3 (bcS2 (bcS1 m))))))) hx hb d_Lg_bitCount_56 (lN_i32 (bcS6 (bcS5 (bcS4 (bcS3 (bcS2 (bcS1 m))))))) ?_
  refine lv_bipush (v := 127) hx hb d_Lg_bitCount_57 (by decide) ?_
  refine e_iand (v := nI (bcS6 (bcS5 (bcS4 (bcS3 (bcS2 (bcS1 m))))) % 128)) hx hb d_Lg_bitCount_59 (nI_and127 (bcS6 (bcS5 (bcS4 (bcS3 (bcS2 (bcS1 m))))))) ?_
  exact W.iret (v := nI (bcS6 (bcS5 (bcS4 (bcS3 (bcS2 (bcS1 m))))) % 128)) hx hb hr (v_end hV ⟨by rw [bc_all hm hz0], rfl, hz⟩) hV.2.1.2.2 d_Lg_bitCount_60

set_option maxHeartbeats 4000000 in
set_option maxRecDepth 100000 in
/-- count -/
theorem c_SG_count (l : Launch) (hlT : l.stackTraces = false) (G : Gx) (lo : Nat) (V : Vw) (sz : Nat) (x rd ck pr tw dr : Nat) (wr : Int32) (ps bl b1 b2 sn s1 s2 tu af ao a3 : Nat) (fb fc fs fd fr ov tt : Nat → Int32) (L : List Tri) (of : Bool) (B S : Nat → Option (Nat × Nat)) (pf : Nat → Option Nat) (Q : Nat → Option PcR) (dy : Nat) (hn : [x, tw, ps, bl, b1, b2, sn, s1, s2, tu, af, ao, a3].Nodup) (hB : twB G V dy sz pf Q) (hdc : ∀ a ∈ [x, tw, ps, bl, b1, b2, sn, s1, s2, tu, af, ao, a3], a < dy) (hSb : spOk fb fc B) (hSs : spOk fs fd S) (wh : Int32) : xMet l y_SG_count ws_SG_count ({ frames := 6, cells := 1, slots := 6, locals := 130 } : Room) (vPre G lo [.ref x, .int wh] (vU V [(x, eO 7 [.ref rd, .ref ck, .ref pr, .ref tw, .ref dr, .int wr]), (tw, eO 5 [.ref ps, .ref bl, .ref sn, .ref tu]), (ps, eQ (gP G) 61 pf), (bl, eO 4 [.ref b1, .ref b2]), (b1, eI (gI G) 31 fb), (b2, eI (gI G) 31 fc), (sn, eO 4 [.ref s1, .ref s2]), (s1, eI (gI G) 31 fs), (s2, eI (gI G) 31 fd), (tu, eO 6 [.ref af, .ref ao, .ref a3, .int (nI L.length), .int (b2i of)]), (af, eI (gI G) 20 fr), (ao, eI (gI G) 20 ov), (a3, eI (gI G) 20 tt)]) sz) (xEnd G lo (fun r V' k => ∃ v, r = some (.int v) ∧ couR (Q, B, S, L) wh = .inr v ∧ V' = vU V [(x, eO 7 [.ref rd, .ref ck, .ref pr, .ref tw, .ref dr, .int wr]), (tw, eO 5 [.ref ps, .ref bl, .ref sn, .ref tu]), (ps, eQ (gP G) 61 pf), (bl, eO 4 [.ref b1, .ref b2]), (b1, eI (gI G) 31 fb), (b2, eI (gI G) 31 fc), (sn, eO 4 [.ref s1, .ref s2]), (s1, eI (gI G) 31 fs), (s2, eI (gI G) 31 fd), (tu, eO 6 [.ref af, .ref ao, .ref a3, .int (nI L.length), .int (b2i of)]), (af, eI (gI G) 20 fr), (ao, eI (gI G) 20 ov), (a3, eI (gI G) 20 tt)] ∧ k = sz) (fun E V' k => (E = eIO ∧ couR (Q, B, S, L) wh = .inl 1) ∧ V' = vU V [(x, eO 7 [.ref rd, .ref ck, .ref pr, .ref tw, .ref dr, .int wr]), (tw, eO 5 [.ref ps, .ref bl, .ref sn, .ref tu]), (ps, eQ (gP G) 61 pf), (bl, eO 4 [.ref b1, .ref b2]), (b1, eI (gI G) 31 fb), (b2, eI (gI G) 31 fc), (sn, eO 4 [.ref s1, .ref s2]), (s1, eI (gI G) 31 fs), (s2, eI (gI G) 31 fd), (tu, eO 6 [.ref af, .ref ao, .ref a3, .int (nI L.length), .int (b2i of)]), (af, eI (gI G) 20 fr), (ao, eI (gI G) 20 ov), (a3, eI (gI G) 20 tt)] ∧ k = sz + 1) 1 6) := by
  refine xMet_of (Rn := RSG) (by decide) rfl (Nat.le_of_ble_eq_true rfl) ?_
  intro pg ev s mi args below meth cd hx hb hr hml hlk hno hts hown hK hz hV ls hl
  have hl : lv_has ls 2 [(0, .ref x), (1, .int wh)] := hl
  have hV0 := hV
  obtain ⟨H, hH⟩ : ∃ H, H = s.heap := ⟨_, rfl⟩
  obtain ⟨locs, hlocs⟩ : ∃ locs : List Loc, locs = [] := ⟨_, rfl⟩
  rw [← hH, ← hlocs]
  rw [← hH] at hz
  replace hV : vS G.1 cls lo s H locs (vU V [(x, eO 7 [.ref rd, .ref ck, .ref pr, .ref tw, .ref dr, .int wr]), (tw, eO 5 [.ref ps, .ref bl, .ref sn, .ref tu]), (ps, eQ (gP G) 61 pf), (bl, eO 4 [.ref b1, .ref b2]), (b1, eI (gI G) 31 fb), (b2, eI (gI G) 31 fc), (sn, eO 4 [.ref s1, .ref s2]), (s1, eI (gI G) 31 fs), (s2, eI (gI G) 31 fd), (tu, eO 6 [.ref af, .ref ao, .ref a3, .int (nI L.length), .int (b2i of)]), (af, eI (gI G) 20 fr), (ao, eI (gI G) 20 ov), (a3, eI (gI G) 20 tt)]) := by rw [hH, hlocs]; exact hV
  clear hH hlocs hV0
  refine lv_iload_n hx hb d_SG_count_0 rfl (lv_at hl 1 rfl) ?_
  by_cases hw9 : wh < 0 ∨ 4 < wh
  · refine lv_tableOut (tgt := 88) hx hb d_SG_count_1 (sw_out (b := 4) (by decide) hw9) (by decide) ?_
    have hR9 : couR (Q, B, S, L) wh = .inl 1 := if_pos hw9
    exact x_throw (E := "java/lang/IndexOutOfBoundsException") hx hb hlT hown (by decide +kernel) hts xa_44 (List.mem_of_getElem? (i := 5) rfl) hK hV (by rw [hml]; exact hl.1) d_SG_count_88 d_SG_count_91 d_SG_count_92 d_SG_count_94 d_SG_count_97 hno (Nat.le_of_ble_eq_true rfl) (Nat.le_of_ble_eq_true rfl) (Nat.le_of_ble_eq_true rfl) (Nat.le_of_ble_eq_true rfl) hlk (Nat.le_of_ble_eq_true rfl) (Nat.le_of_ble_eq_true rfl) ⟨⟨rfl, hR9⟩, rfl, by rw [hz]⟩
  · obtain ⟨j9, hj0, hj9, e9⟩ := nI_bd (x := wh) (a := 0) (b := 4) (by decide) (fun z => hw9 (Or.inl z)) (fun z => hw9 (Or.inr z)) (by decide)
    rcases (show j9 = 0 ∨ j9 = 1 ∨ j9 = 2 ∨ j9 = 3 ∨ j9 = 4 by omega) with rfl | rfl | rfl | rfl | rfl <;> subst e9
    · refine lv_tableIn (tgt := 36) (off := 35) hx hb d_SG_count_1 (by decide) (by decide) (by decide) (by decide) ?_
      have hR8 := couR_2 (A := (Q, B, S, L)) (j := 0) (by decide)
      refine lv_aload_n hx hb d_SG_count_36 rfl (lv_at hl 0 rfl) ?_
      refine u_get hx hb hts inSG hown hK hV hn 0 rfl rfl 3 (by decide) w_fl_SG_33 rfl rfl d_SG_count_37 ?_
      refine v_call (va_runV (As := []) (rest := []) ⟨hx, hb, hml, hown, hts⟩ (c_Tw_pieceCount l G lo _ _ tw ps bl sn tu pf (nd_sub hn [1, 2] (by decide) rfl)) (kwV 0 hts w_co_Tw_pieceCount rfl rfl w_it_Tw w_ml_SG_92 w_im_Tw_pieceCount w_se_Tw__Tw_pieceCount (by decide +kernel) ⟨(Nat.le_of_ble_eq_true rfl), (Nat.le_of_ble_eq_true rfl)⟩) (u_preV hK hV hn [1, 2] rfl hz 1 rfl rfl) rfl rfl hl.1 rfl (lv_room (Nat.le_of_ble_eq_true rfl)) d_SG_count_40 ⟨(Nat.le_of_ble_eq_true rfl), (Nat.le_of_ble_eq_true rfl)⟩) hV (fun r9 V9 H locs hp hV hle => ?_)
      obtain ⟨rfl, rfl, hz⟩ := hp
      replace hV := uu_same hV hn [1, 2] rfl
      have hV : vS G.1 cls lo s H locs (vU V [(x, eO 7 [.ref rd, .ref ck, .ref pr, .ref tw, .ref dr, .int wr]), (tw, eO 5 [.ref ps, .ref bl, .ref sn, .ref tu]), (ps, eQ (gP G) 61 pf), (bl, eO 4 [.ref b1, .ref b2]), (b1, eI (gI G) 31 fb), (b2, eI (gI G) 31 fc), (sn, eO 4 [.ref s1, .ref s2]), (s1, eI (gI G) 31 fs), (s2, eI (gI G) 31 fd), (tu, eO 6 [.ref af, .ref ao, .ref a3, .int (nI L.length), .int (b2i of)]), (af, eI (gI G) 20 fr), (ao, eI (gI G) 20 ov), (a3, eI (gI G) 20 tt)]) := hV
      refine W.eq (g2 := F0 mi 43 ls [.int (nI (cnt (fun j => (pf j).isSome) 60))]) rfl ?_
      refine x_ret ?_
      refine W.widen (k := 1) (n := 6) (by omega) (by omega) ?_
      exact W.iret (v := nI (cnt (fun j => (pf j).isSome) 60)) hx hb hr (v_end hV ⟨_, rfl, by rw [hR8, cnt_tw hB]; rfl, rfl, hz⟩) hV.2.1.2.2 d_SG_count_43
    · refine lv_tableIn (tgt := 44) (off := 43) hx hb d_SG_count_1 (by decide) (by decide) (by decide) (by decide) ?_
      have hR8 := couR_2 (A := (Q, B, S, L)) (j := 1) (by decide)
      refine lv_aload_n hx hb d_SG_count_44 rfl (lv_at hl 0 rfl) ?_
      refine u_get hx hb hts inSG hown hK hV hn 0 rfl rfl 3 (by decide) w_fl_SG_33 rfl rfl d_SG_count_45 ?_
      refine u_get hx hb hts inTw hown hK hV hn 1 rfl rfl 1 (by decide) w_fl_SG_158 rfl rfl d_SG_count_48 ?_
      refine v_call (va_runV (As := []) (rest := []) ⟨hx, hb, hml, hown, hts⟩ (c_Sp_size l G lo _ _ bl b1 b2 fb (nd_sub hn [3, 4] (by decide) rfl)) (kwV 0 hts w_co_Sp_size rfl rfl w_it_Sp w_ml_SG_194 w_im_Sp_size w_se_Sp__Sp_size (by decide +kernel) ⟨(Nat.le_of_ble_eq_true rfl), (Nat.le_of_ble_eq_true rfl)⟩) (u_preV hK hV hn [3, 4] rfl hz 3 rfl rfl) rfl rfl hl.1 rfl (lv_room (Nat.le_of_ble_eq_true rfl)) d_SG_count_51 ⟨(Nat.le_of_ble_eq_true rfl), (Nat.le_of_ble_eq_true rfl)⟩) hV (fun r9 V9 H locs hp hV hle => ?_)
      obtain ⟨rfl, rfl, hz⟩ := hp
      replace hV := uu_same hV hn [3, 4] rfl
      have hV : vS G.1 cls lo s H locs (vU V [(x, eO 7 [.ref rd, .ref ck, .ref pr, .ref tw, .ref dr, .int wr]), (tw, eO 5 [.ref ps, .ref bl, .ref sn, .ref tu]), (ps, eQ (gP G) 61 pf), (bl, eO 4 [.ref b1, .ref b2]), (b1, eI (gI G) 31 fb), (b2, eI (gI G) 31 fc), (sn, eO 4 [.ref s1, .ref s2]), (s1, eI (gI G) 31 fs), (s2, eI (gI G) 31 fd), (tu, eO 6 [.ref af, .ref ao, .ref a3, .int (nI L.length), .int (b2i of)]), (af, eI (gI G) 20 fr), (ao, eI (gI G) 20 ov), (a3, eI (gI G) 20 tt)]) := hV
      refine W.eq (g2 := F0 mi 54 ls [.int (nI (cnt (fun j => spHas fb (nI j)) 30))]) rfl ?_
      refine x_ret ?_
      refine W.widen (k := 1) (n := 6) (by omega) (by omega) ?_
      exact W.iret (v := nI (cnt (fun j => spHas fb (nI j)) 30)) hx hb hr (v_end hV ⟨_, rfl, by rw [hR8, cnt_sp hSb]; rfl, rfl, hz⟩) hV.2.1.2.2 d_SG_count_54
    · refine lv_tableIn (tgt := 55) (off := 54) hx hb d_SG_count_1 (by decide) (by decide) (by decide) (by decide) ?_
      have hR8 := couR_2 (A := (Q, B, S, L)) (j := 2) (by decide)
      refine lv_aload_n hx hb d_SG_count_55 rfl (lv_at hl 0 rfl) ?_
      refine u_get hx hb hts inSG hown hK hV hn 0 rfl rfl 3 (by decide) w_fl_SG_33 rfl rfl d_SG_count_56 ?_
      refine u_get hx hb hts inTw hown hK hV hn 1 rfl rfl 2 (by decide) w_fl_SG_154 rfl rfl d_SG_count_59 ?_
      refine v_call (va_runV (As := []) (rest := []) ⟨hx, hb, hml, hown, hts⟩ (c_Sp_size l G lo _ _ sn s1 s2 fs (nd_sub hn [6, 7] (by decide) rfl)) (kwV 0 hts w_co_Sp_size rfl rfl w_it_Sp w_ml_SG_194 w_im_Sp_size w_se_Sp__Sp_size (by decide +kernel) ⟨(Nat.le_of_ble_eq_true rfl), (Nat.le_of_ble_eq_true rfl)⟩) (u_preV hK hV hn [6, 7] rfl hz 6 rfl rfl) rfl rfl hl.1 rfl (lv_room (Nat.le_of_ble_eq_true rfl)) d_SG_count_62 ⟨(Nat.le_of_ble_eq_true rfl), (Nat.le_of_ble_eq_true rfl)⟩) hV (fun r9 V9 H locs hp hV hle => ?_)
      obtain ⟨rfl, rfl, hz⟩ := hp
      replace hV := uu_same hV hn [6, 7] rfl
      have hV : vS G.1 cls lo s H locs (vU V [(x, eO 7 [.ref rd, .ref ck, .ref pr, .ref tw, .ref dr, .int wr]), (tw, eO 5 [.ref ps, .ref bl, .ref sn, .ref tu]), (ps, eQ (gP G) 61 pf), (bl, eO 4 [.ref b1, .ref b2]), (b1, eI (gI G) 31 fb), (b2, eI (gI G) 31 fc), (sn, eO 4 [.ref s1, .ref s2]), (s1, eI (gI G) 31 fs), (s2, eI (gI G) 31 fd), (tu, eO 6 [.ref af, .ref ao, .ref a3, .int (nI L.length), .int (b2i of)]), (af, eI (gI G) 20 fr), (ao, eI (gI G) 20 ov), (a3, eI (gI G) 20 tt)]) := hV
      refine W.eq (g2 := F0 mi 65 ls [.int (nI (cnt (fun j => spHas fs (nI j)) 30))]) rfl ?_
      refine x_ret ?_
      refine W.widen (k := 1) (n := 6) (by omega) (by omega) ?_
      exact W.iret (v := nI (cnt (fun j => spHas fs (nI j)) 30)) hx hb hr (v_end hV ⟨_, rfl, by rw [hR8, cnt_sp hSs]; rfl, rfl, hz⟩) hV.2.1.2.2 d_SG_count_65
    · refine lv_tableIn (tgt := 66) (off := 65) hx hb d_SG_count_1 (by decide) (by decide) (by decide) (by decide) ?_
      have hR8 := couR_2 (A := (Q, B, S, L)) (j := 3) (by decide)
      refine lv_aload_n hx hb d_SG_count_66 rfl (lv_at hl 0 rfl) ?_
      refine u_get hx hb hts inSG hown hK hV hn 0 rfl rfl 3 (by decide) w_fl_SG_33 rfl rfl d_SG_count_67 ?_
      refine u_get hx hb hts inTw hown hK hV hn 1 rfl rfl 3 (by decide) w_fl_SG_80 rfl rfl d_SG_count_70 ?_
      refine u_get hx hb hts inTn hown hK hV hn 9 rfl rfl 3 (by decide) w_fl_SG_151 rfl rfl d_SG_count_73 ?_
      refine x_ret ?_
      refine W.widen (k := 1) (n := 6) (by omega) (by omega) ?_
      exact W.iret (v := nI L.length) hx hb hr (v_end hV ⟨_, rfl, hR8, rfl, hz⟩) hV.2.1.2.2 d_SG_count_76
    · refine lv_tableIn (tgt := 77) (off := 76) hx hb d_SG_count_1 (by decide) (by decide) (by decide) (by decide) ?_
      have hR8 := couR_2 (A := (Q, B, S, L)) (j := 4) (by decide)
      refine lv_aload_n hx hb d_SG_count_77 rfl (lv_at hl 0 rfl) ?_
      refine u_get hx hb hts inSG hown hK hV hn 0 rfl rfl 3 (by decide) w_fl_SG_33 rfl rfl d_SG_count_78 ?_
      refine v_call (va_runV (As := []) (rest := []) ⟨hx, hb, hml, hown, hts⟩ (c_Tw_nodes l G lo _ _ tw ps bl sn tu pf (nd_sub hn [1, 2] (by decide) rfl) Q (by rw [vU_sub (CS := [(x, eO 7 [.ref rd, .ref ck, .ref pr, .ref tw, .ref dr, .int wr]), (tw, eO 5 [.ref ps, .ref bl, .ref sn, .ref tu]), (ps, eQ (gP G) 61 pf), (bl, eO 4 [.ref b1, .ref b2]), (b1, eI (gI G) 31 fb), (b2, eI (gI G) 31 fc), (sn, eO 4 [.ref s1, .ref s2]), (s1, eI (gI G) 31 fs), (s2, eI (gI G) 31 fd), (tu, eO 6 [.ref af, .ref ao, .ref a3, .int (nI L.length), .int (b2i of)]), (af, eI (gI G) 20 fr), (ao, eI (gI G) 20 ov), (a3, eI (gI G) 20 tt)]) hn [1, 2] rfl]; exact twB_P hB hdc)) (kwV 0 hts w_co_Tw_nodes rfl rfl w_it_Tw w_ml_SG_196 w_im_Tw_nodes w_se_Tw__Tw_nodes (by decide +kernel) ⟨(Nat.le_of_ble_eq_true rfl), (Nat.le_of_ble_eq_true rfl)⟩) (u_preV hK hV hn [1, 2] rfl hz 1 rfl rfl) rfl rfl hl.1 rfl (lv_room (Nat.le_of_ble_eq_true rfl)) d_SG_count_81 ⟨(Nat.le_of_ble_eq_true rfl), (Nat.le_of_ble_eq_true rfl)⟩) hV (fun r9 V9 H locs hp hV hle => ?_)
      obtain ⟨rfl, rfl, hz⟩ := hp
      replace hV := uu_same hV hn [1, 2] rfl
      have hV : vS G.1 cls lo s H locs (vU V [(x, eO 7 [.ref rd, .ref ck, .ref pr, .ref tw, .ref dr, .int wr]), (tw, eO 5 [.ref ps, .ref bl, .ref sn, .ref tu]), (ps, eQ (gP G) 61 pf), (bl, eO 4 [.ref b1, .ref b2]), (b1, eI (gI G) 31 fb), (b2, eI (gI G) 31 fc), (sn, eO 4 [.ref s1, .ref s2]), (s1, eI (gI G) 31 fs), (s2, eI (gI G) 31 fd), (tu, eO 6 [.ref af, .ref ao, .ref a3, .int (nI L.length), .int (b2i of)]), (af, eI (gI G) 20 fr), (ao, eI (gI G) 20 ov), (a3, eI (gI G) 20 tt)]) := hV
      refine W.eq (g2 := F0 mi 84 ls [.long (lN (nodesQ Q 60))]) rfl ?_
      refine v_call (va_runS (As := [.long (lN (nodesQ Q 60))]) (rest := []) ⟨hx, hb, hml, hown, hts⟩ (c_Lg_bitCount l G lo _ _ (nodesQ Q 60) (nodesQ_lt hB 60 (by decide)).1 (nodesQ_lt hB 60 (by decide)).2) (kwS 1 hts w_co_Lg_bitCount rfl rfl w_it_Lg w_ml_SG_200 w_st_Lg_bitCount (by decide +kernel) ⟨(Nat.le_of_ble_eq_true rfl), (Nat.le_of_ble_eq_true rfl)⟩) (u_preS hK hV hn [] rfl hz) rfl rfl hl.1 rfl (lv_room (Nat.le_of_ble_eq_true rfl)) d_SG_count_84 ⟨(Nat.le_of_ble_eq_true rfl), (Nat.le_of_ble_eq_true rfl)⟩) hV (fun r9 V9 H locs hp hV hle => ?_)
      obtain ⟨rfl, rfl, hz⟩ := hp
      replace hV := uu_same hV hn [] rfl
      have hV : vS G.1 cls lo s H locs (vU V [(x, eO 7 [.ref rd, .ref ck, .ref pr, .ref tw, .ref dr, .int wr]), (tw, eO 5 [.ref ps, .ref bl, .ref sn, .ref tu]), (ps, eQ (gP G) 61 pf), (bl, eO 4 [.ref b1, .ref b2]), (b1, eI (gI G) 31 fb), (b2, eI (gI G) 31 fc), (sn, eO 4 [.ref s1, .ref s2]), (s1, eI (gI G) 31 fs), (s2, eI (gI G) 31 fd), (tu, eO 6 [.ref af, .ref ao, .ref a3, .int (nI L.length), .int (b2i of)]), (af, eI (gI G) 20 fr), (ao, eI (gI G) 20 ov), (a3, eI (gI G) 20 tt)]) := hV
      refine W.eq (g2 := F0 mi 87 ls [.int (nI (cnt (fun j => (nodesQ Q 60).testBit j) 40))]) rfl ?_
      refine x_ret ?_
      refine W.widen (k := 1) (n := 6) (by omega) (by omega) ?_
      exact W.iret (v := nI (cnt (fun j => (nodesQ Q 60).testBit j) 40)) hx hb hr (v_end hV ⟨_, rfl, hR8, rfl, hz⟩) hV.2.1.2.2 d_SG_count_87
