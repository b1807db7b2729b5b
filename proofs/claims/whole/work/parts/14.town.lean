theorem d_Tw_init_0 : decode b_Tw_init 0 = .ok (.aload_n 0, 1) := by decide +kernel
theorem d_Tw_init_1 : decode b_Tw_init 1 = .ok (.invokespecial 3, 3) := by decide +kernel
theorem d_Tw_init_4 : decode b_Tw_init 4 = .ok (.aload_n 0, 1) := by decide +kernel
theorem d_Tw_init_5 : decode b_Tw_init 5 = .ok (.bipush 61, 2) := by decide +kernel
theorem d_Tw_init_7 : decode b_Tw_init 7 = .ok (.anewarray 9, 3) := by decide +kernel
theorem d_Tw_init_10 : decode b_Tw_init 10 = .ok (.putfield 11, 3) := by decide +kernel
theorem d_Tw_init_13 : decode b_Tw_init 13 = .ok (.aload_n 0, 1) := by decide +kernel
theorem d_Tw_init_14 : decode b_Tw_init 14 = .ok (.new 17, 3) := by decide +kernel
theorem d_Tw_init_17 : decode b_Tw_init 17 = .ok (.dup, 1) := by decide +kernel
theorem d_Tw_init_18 : decode b_Tw_init 18 = .ok (.invokespecial 19, 3) := by decide +kernel
theorem d_Tw_init_21 : decode b_Tw_init 21 = .ok (.putfield 20, 3) := by decide +kernel
theorem d_Tw_init_24 : decode b_Tw_init 24 = .ok (.aload_n 0, 1) := by decide +kernel
theorem d_Tw_init_25 : decode b_Tw_init 25 = .ok (.new 17, 3) := by decide +kernel
theorem d_Tw_init_28 : decode b_Tw_init 28 = .ok (.dup, 1) := by decide +kernel
theorem d_Tw_init_29 : decode b_Tw_init 29 = .ok (.invokespecial 19, 3) := by decide +kernel
theorem d_Tw_init_32 : decode b_Tw_init 32 = .ok (.putfield 24, 3) := by decide +kernel
theorem d_Tw_init_35 : decode b_Tw_init 35 = .ok (.aload_n 0, 1) := by decide +kernel
theorem d_Tw_init_36 : decode b_Tw_init 36 = .ok (.new 27, 3) := by decide +kernel
theorem d_Tw_init_39 : decode b_Tw_init 39 = .ok (.dup, 1) := by decide +kernel
theorem d_Tw_init_40 : decode b_Tw_init 40 = .ok (.invokespecial 29, 3) := by decide +kernel
theorem d_Tw_init_43 : decode b_Tw_init 43 = .ok (.putfield 30, 3) := by decide +kernel
theorem d_Tw_init_46 : decode b_Tw_init 46 = .ok (.return_, 1) := by decide +kernel
theorem d_Tw_find_0 : decode b_Tw_find 0 = .ok (.iload_n 1, 1) := by decide +kernel
theorem d_Tw_find_1 : decode b_Tw_find 1 = .ok (.iconst 1, 1) := by decide +kernel
theorem d_Tw_find_2 : decode b_Tw_find 2 = .ok (.if_icmp .lt 18, 3) := by decide +kernel
theorem d_Tw_find_5 : decode b_Tw_find 5 = .ok (.iload_n 1, 1) := by decide +kernel
theorem d_Tw_find_6 : decode b_Tw_find 6 = .ok (.bipush 60, 2) := by decide +kernel
theorem d_Tw_find_8 : decode b_Tw_find 8 = .ok (.if_icmp .gt 12, 3) := by decide +kernel
theorem d_Tw_find_11 : decode b_Tw_find 11 = .ok (.aload_n 0, 1) := by decide +kernel
theorem d_Tw_find_12 : decode b_Tw_find 12 = .ok (.getfield 11, 3) := by decide +kernel
theorem d_Tw_find_15 : decode b_Tw_find 15 = .ok (.iload_n 1, 1) := by decide +kernel
theorem d_Tw_find_16 : decode b_Tw_find 16 = .ok (.aaload, 1) := by decide +kernel
theorem d_Tw_find_17 : decode b_Tw_find 17 = .ok (.goto 4, 3) := by decide +kernel
theorem d_Tw_find_20 : decode b_Tw_find 20 = .ok (.aconst_null, 1) := by decide +kernel
theorem d_Tw_find_21 : decode b_Tw_find 21 = .ok (.areturn, 1) := by decide +kernel
theorem d_Tw_leads_0 : decode b_Tw_leads 0 = .ok (.iconst 1, 1) := by decide +kernel
theorem d_Tw_leads_1 : decode b_Tw_leads 1 = .ok (.istore_n 3, 1) := by decide +kernel
theorem d_Tw_leads_2 : decode b_Tw_leads 2 = .ok (.iload_n 3, 1) := by decide +kernel
theorem d_Tw_leads_3 : decode b_Tw_leads 3 = .ok (.bipush 60, 2) := by decide +kernel
theorem d_Tw_leads_5 : decode b_Tw_leads 5 = .ok (.if_icmp .gt 34, 3) := by decide +kernel
theorem d_Tw_leads_8 : decode b_Tw_leads 8 = .ok (.aload_n 0, 1) := by decide +kernel
theorem d_Tw_leads_9 : decode b_Tw_leads 9 = .ok (.getfield 11, 3) := by decide +kernel
theorem d_Tw_leads_12 : decode b_Tw_leads 12 = .ok (.iload_n 3, 1) := by decide +kernel
theorem d_Tw_leads_13 : decode b_Tw_leads 13 = .ok (.aaload, 1) := by decide +kernel
theorem d_Tw_leads_14 : decode b_Tw_leads 14 = .ok (.astore 4, 2) := by decide +kernel
theorem d_Tw_leads_16 : decode b_Tw_leads 16 = .ok (.aload 4, 2) := by decide +kernel
theorem d_Tw_leads_18 : decode b_Tw_leads 18 = .ok (.ifnull 15, 3) := by decide +kernel
theorem d_Tw_leads_21 : decode b_Tw_leads 21 = .ok (.aload 4, 2) := by decide +kernel
theorem d_Tw_leads_23 : decode b_Tw_leads 23 = .ok (.iload_n 1, 1) := by decide +kernel
theorem d_Tw_leads_24 : decode b_Tw_leads 24 = .ok (.iload_n 2, 1) := by decide +kernel
theorem d_Tw_leads_25 : decode b_Tw_leads 25 = .ok (.invokevirtual 38, 3) := by decide +kernel
theorem d_Tw_leads_28 : decode b_Tw_leads 28 = .ok (.ifCond .eq 5, 3) := by decide +kernel
theorem d_Tw_leads_31 : decode b_Tw_leads 31 = .ok (.iconst 1, 1) := by decide +kernel
theorem d_Tw_leads_32 : decode b_Tw_leads 32 = .ok (.ireturn, 1) := by decide +kernel
theorem d_Tw_leads_33 : decode b_Tw_leads 33 = .ok (.iinc 3 1, 3) := by decide +kernel
theorem d_Tw_leads_36 : decode b_Tw_leads 36 = .ok (.goto (-34), 3) := by decide +kernel
theorem d_Tw_leads_39 : decode b_Tw_leads 39 = .ok (.iconst 0, 1) := by decide +kernel
theorem d_Tw_leads_40 : decode b_Tw_leads 40 = .ok (.ireturn, 1) := by decide +kernel
theorem d_Tw_copyFrom_0 : decode b_Tw_copyFrom 0 = .ok (.iconst 1, 1) := by decide +kernel
theorem d_Tw_copyFrom_1 : decode b_Tw_copyFrom 1 = .ok (.istore_n 2, 1) := by decide +kernel
theorem d_Tw_copyFrom_2 : decode b_Tw_copyFrom 2 = .ok (.iload_n 2, 1) := by decide +kernel
theorem d_Tw_copyFrom_3 : decode b_Tw_copyFrom 3 = .ok (.bipush 60, 2) := by decide +kernel
theorem d_Tw_copyFrom_5 : decode b_Tw_copyFrom 5 = .ok (.if_icmp .gt 21, 3) := by decide +kernel
theorem d_Tw_copyFrom_8 : decode b_Tw_copyFrom 8 = .ok (.aload_n 0, 1) := by decide +kernel
theorem d_Tw_copyFrom_9 : decode b_Tw_copyFrom 9 = .ok (.getfield 11, 3) := by decide +kernel
theorem d_Tw_copyFrom_12 : decode b_Tw_copyFrom 12 = .ok (.iload_n 2, 1) := by decide +kernel
theorem d_Tw_copyFrom_13 : decode b_Tw_copyFrom 13 = .ok (.aload_n 1, 1) := by decide +kernel
theorem d_Tw_copyFrom_14 : decode b_Tw_copyFrom 14 = .ok (.getfield 11, 3) := by decide +kernel
theorem d_Tw_copyFrom_17 : decode b_Tw_copyFrom 17 = .ok (.iload_n 2, 1) := by decide +kernel
theorem d_Tw_copyFrom_18 : decode b_Tw_copyFrom 18 = .ok (.aaload, 1) := by decide +kernel
theorem d_Tw_copyFrom_19 : decode b_Tw_copyFrom 19 = .ok (.aastore, 1) := by decide +kernel
theorem d_Tw_copyFrom_20 : decode b_Tw_copyFrom 20 = .ok (.iinc 2 1, 3) := by decide +kernel
theorem d_Tw_copyFrom_23 : decode b_Tw_copyFrom 23 = .ok (.goto (-21), 3) := by decide +kernel
theorem d_Tw_copyFrom_26 : decode b_Tw_copyFrom 26 = .ok (.aload_n 0, 1) := by decide +kernel
theorem d_Tw_copyFrom_27 : decode b_Tw_copyFrom 27 = .ok (.getfield 20, 3) := by decide +kernel
theorem d_Tw_copyFrom_30 : decode b_Tw_copyFrom 30 = .ok (.aload_n 1, 1) := by decide +kernel
theorem d_Tw_copyFrom_31 : decode b_Tw_copyFrom 31 = .ok (.getfield 20, 3) := by decide +kernel
theorem d_Tw_copyFrom_34 : decode b_Tw_copyFrom 34 = .ok (.invokevirtual 42, 3) := by decide +kernel
theorem d_Tw_copyFrom_37 : decode b_Tw_copyFrom 37 = .ok (.aload_n 0, 1) := by decide +kernel
theorem d_Tw_copyFrom_38 : decode b_Tw_copyFrom 38 = .ok (.getfield 24, 3) := by decide +kernel
theorem d_Tw_copyFrom_41 : decode b_Tw_copyFrom 41 = .ok (.aload_n 1, 1) := by decide +kernel
theorem d_Tw_copyFrom_42 : decode b_Tw_copyFrom 42 = .ok (.getfield 24, 3) := by decide +kernel
theorem d_Tw_copyFrom_45 : decode b_Tw_copyFrom 45 = .ok (.invokevirtual 42, 3) := by decide +kernel
theorem d_Tw_copyFrom_48 : decode b_Tw_copyFrom 48 = .ok (.aload_n 0, 1) := by decide +kernel
theorem d_Tw_copyFrom_49 : decode b_Tw_copyFrom 49 = .ok (.getfield 30, 3) := by decide +kernel
theorem d_Tw_copyFrom_52 : decode b_Tw_copyFrom 52 = .ok (.aload_n 1, 1) := by decide +kernel
theorem d_Tw_copyFrom_53 : decode b_Tw_copyFrom 53 = .ok (.getfield 30, 3) := by decide +kernel
theorem d_Tw_copyFrom_56 : decode b_Tw_copyFrom 56 = .ok (.invokevirtual 46, 3) := by decide +kernel
theorem d_Tw_copyFrom_59 : decode b_Tw_copyFrom 59 = .ok (.return_, 1) := by decide +kernel
theorem d_Tw_put_0 : decode b_Tw_put 0 = .ok (.iload_n 1, 1) := by decide +kernel
theorem d_Tw_put_1 : decode b_Tw_put 1 = .ok (.iconst 1, 1) := by decide +kernel
theorem d_Tw_put_2 : decode b_Tw_put 2 = .ok (.if_icmp .lt 16, 3) := by decide +kernel
theorem d_Tw_put_5 : decode b_Tw_put 5 = .ok (.iload_n 1, 1) := by decide +kernel
theorem d_Tw_put_6 : decode b_Tw_put 6 = .ok (.bipush 60, 2) := by decide +kernel
theorem d_Tw_put_8 : decode b_Tw_put 8 = .ok (.if_icmp .gt 10, 3) := by decide +kernel
theorem d_Tw_put_11 : decode b_Tw_put 11 = .ok (.aload_n 0, 1) := by decide +kernel
theorem d_Tw_put_12 : decode b_Tw_put 12 = .ok (.getfield 11, 3) := by decide +kernel
theorem d_Tw_put_15 : decode b_Tw_put 15 = .ok (.iload_n 1, 1) := by decide +kernel
theorem d_Tw_put_16 : decode b_Tw_put 16 = .ok (.aload_n 2, 1) := by decide +kernel
theorem d_Tw_put_17 : decode b_Tw_put 17 = .ok (.aastore, 1) := by decide +kernel
theorem d_Tw_put_18 : decode b_Tw_put 18 = .ok (.return_, 1) := by decide +kernel
theorem d_Tw_pieceCount_0 : decode b_Tw_pieceCount 0 = .ok (.iconst 0, 1) := by decide +kernel
theorem d_Tw_pieceCount_1 : decode b_Tw_pieceCount 1 = .ok (.istore_n 1, 1) := by decide +kernel
theorem d_Tw_pieceCount_2 : decode b_Tw_pieceCount 2 = .ok (.iconst 1, 1) := by decide +kernel
theorem d_Tw_pieceCount_3 : decode b_Tw_pieceCount 3 = .ok (.istore_n 2, 1) := by decide +kernel
theorem d_Tw_pieceCount_4 : decode b_Tw_pieceCount 4 = .ok (.iload_n 2, 1) := by decide +kernel
theorem d_Tw_pieceCount_5 : decode b_Tw_pieceCount 5 = .ok (.bipush 60, 2) := by decide +kernel
theorem d_Tw_pieceCount_7 : decode b_Tw_pieceCount 7 = .ok (.if_icmp .gt 21, 3) := by decide +kernel
theorem d_Tw_pieceCount_10 : decode b_Tw_pieceCount 10 = .ok (.aload_n 0, 1) := by decide +kernel
theorem d_Tw_pieceCount_11 : decode b_Tw_pieceCount 11 = .ok (.getfield 11, 3) := by decide +kernel
theorem d_Tw_pieceCount_14 : decode b_Tw_pieceCount 14 = .ok (.iload_n 2, 1) := by decide +kernel
theorem d_Tw_pieceCount_15 : decode b_Tw_pieceCount 15 = .ok (.aaload, 1) := by decide +kernel
theorem d_Tw_pieceCount_16 : decode b_Tw_pieceCount 16 = .ok (.ifnull 6, 3) := by decide +kernel
theorem d_Tw_pieceCount_19 : decode b_Tw_pieceCount 19 = .ok (.iinc 1 1, 3) := by decide +kernel
theorem d_Tw_pieceCount_22 : decode b_Tw_pieceCount 22 = .ok (.iinc 2 1, 3) := by decide +kernel
theorem d_Tw_pieceCount_25 : decode b_Tw_pieceCount 25 = .ok (.goto (-21), 3) := by decide +kernel
theorem d_Tw_pieceCount_28 : decode b_Tw_pieceCount 28 = .ok (.iload_n 1, 1) := by decide +kernel
theorem d_Tw_pieceCount_29 : decode b_Tw_pieceCount 29 = .ok (.ireturn, 1) := by decide +kernel
theorem d_Tw_nodes_0 : decode b_Tw_nodes 0 = .ok (.lconst 0, 1) := by decide +kernel
theorem d_Tw_nodes_1 : decode b_Tw_nodes 1 = .ok (.lstore_n 1, 1) := by decide +kernel
theorem d_Tw_nodes_2 : decode b_Tw_nodes 2 = .ok (.iconst 1, 1) := by decide +kernel
theorem d_Tw_nodes_3 : decode b_Tw_nodes 3 = .ok (.istore_n 3, 1) := by decide +kernel
theorem d_Tw_nodes_4 : decode b_Tw_nodes 4 = .ok (.iload_n 3, 1) := by decide +kernel
theorem d_Tw_nodes_5 : decode b_Tw_nodes 5 = .ok (.bipush 60, 2) := by decide +kernel
theorem d_Tw_nodes_7 : decode b_Tw_nodes 7 = .ok (.if_icmp .gt 30, 3) := by decide +kernel
theorem d_Tw_nodes_10 : decode b_Tw_nodes 10 = .ok (.aload_n 0, 1) := by decide +kernel
theorem d_Tw_nodes_11 : decode b_Tw_nodes 11 = .ok (.getfield 11, 3) := by decide +kernel
theorem d_Tw_nodes_14 : decode b_Tw_nodes 14 = .ok (.iload_n 3, 1) := by decide +kernel
theorem d_Tw_nodes_15 : decode b_Tw_nodes 15 = .ok (.aaload, 1) := by decide +kernel
theorem d_Tw_nodes_16 : decode b_Tw_nodes 16 = .ok (.astore 4, 2) := by decide +kernel
theorem d_Tw_nodes_18 : decode b_Tw_nodes 18 = .ok (.aload 4, 2) := by decide +kernel
theorem d_Tw_nodes_20 : decode b_Tw_nodes 20 = .ok (.ifnull 11, 3) := by decide +kernel
theorem d_Tw_nodes_23 : decode b_Tw_nodes 23 = .ok (.lload_n 1, 1) := by decide +kernel
theorem d_Tw_nodes_24 : decode b_Tw_nodes 24 = .ok (.aload 4, 2) := by decide +kernel
theorem d_Tw_nodes_26 : decode b_Tw_nodes 26 = .ok (.invokevirtual 34, 3) := by decide +kernel
theorem d_Tw_nodes_29 : decode b_Tw_nodes 29 = .ok (.lor, 1) := by decide +kernel
theorem d_Tw_nodes_30 : decode b_Tw_nodes 30 = .ok (.lstore_n 1, 1) := by decide +kernel
theorem d_Tw_nodes_31 : decode b_Tw_nodes 31 = .ok (.iinc 3 1, 3) := by decide +kernel
theorem d_Tw_nodes_34 : decode b_Tw_nodes 34 = .ok (.goto (-30), 3) := by decide +kernel
theorem d_Tw_nodes_37 : decode b_Tw_nodes 37 = .ok (.lload_n 1, 1) := by decide +kernel
theorem d_Tw_nodes_38 : decode b_Tw_nodes 38 = .ok (.lreturn, 1) := by decide +kernel

/-! THE PIECES OF A TOWN in a view: number j has piece Q j -/
abbrev pcFs (R : PcR) (x1 x2 x3 : Nat) : List Value := [.int (nI R.1.1), .int (nI R.1.2.2), .int (b2i R.1.2.1), .int (nI R.2.1.1), .int (nI R.2.1.2.1), .int (nI R.2.1.2.2), .int (nI R.2.2.1.length), .ref x1, .ref x2, .ref x3, .int (nI R.2.2.2.1.1), .int (nI R.2.2.2.1.2), .long (lN (encN (nmL R.2.2.2.2))), .int (nI ((nmL R.2.2.2.2).length)), .int (nmA R.2.2.2.2)]
def pcAt (G : Gx) (W : Vw) (a : Nat) (R : PcR) : Prop := W a = some (eO 1 (pcFs R (a + 1) (a + 2) (a + 3))) ∧ (∃ h1 h2 h3 : Nat → Int32, W (a + 1) = some (eI (gI G) 3 h1) ∧ W (a + 2) = some (eI (gI G) 3 h2) ∧ W (a + 3) = some (eI (gI G) 3 h3) ∧ hrOk h1 h2 h3 R.2.2.1) ∧ pcV R
def twP (G : Gx) (W : Vw) (pf : Nat → Option Nat) (Q : Nat → Option PcR) : Prop := ∀ j, 1 ≤ j → j ≤ 60 → (pf j = none ∧ Q j = none) ∨ ∃ (a : Nat) (R : PcR), pf j = some a ∧ Q j = some R ∧ pcAt G W a R
theorem twP.no {G : Gx} {W : Vw} {pf : Nat → Option Nat} {Q : Nat → Option PcR} (h : twP G W pf Q) {j : Nat} (h1 : 1 ≤ j) (h2 : j ≤ 60) (hj : pf j = none) : Q j = none := by
  rcases h j h1 h2 with ⟨-, q⟩ | ⟨a, R, q, -⟩
  · exact q
  · rw [hj] at q; cases q
theorem twP.yes {G : Gx} {W : Vw} {pf : Nat → Option Nat} {Q : Nat → Option PcR} (h : twP G W pf Q) {j a : Nat} (h1 : 1 ≤ j) (h2 : j ≤ 60) (hj : pf j = some a) : ∃ R, Q j = some R ∧ pcAt G W a R := by
  rcases h j h1 h2 with ⟨q, -⟩ | ⟨b, R, q1, q2, q3⟩
  · rw [hj] at q; cases q
  · rw [hj] at q1; cases q1; exact ⟨R, q2, q3⟩
def twFind (pf : Nat → Option Nat) (x : Int32) : Option Nat := if nI 1 ≤ x ∧ x ≤ nI 60 then pf x.toNatClampNeg else none
theorem twFind_lo {pf : Nat → Option Nat} {x : Int32} (h : x < nI 1) : twFind pf x = none := by
  unfold twFind
  rw [if_neg (fun z => absurd h (Int32.not_lt.mpr z.1))]
theorem twFind_hi {pf : Nat → Option Nat} {x : Int32} (h : nI 60 < x) : twFind pf x = none := by
  unfold twFind
  rw [if_neg (fun z => absurd h (Int32.not_lt.mpr z.2))]
theorem twFind_in {pf : Nat → Option Nat} {j : Nat} (h1 : 1 ≤ j) (h2 : j ≤ 60) : twFind pf (nI j) = pf j := by
  unfold twFind
  rw [if_pos ⟨nI_le h1 (by omega), nI_le h2 (by omega)⟩, nI_clamp (by omega)]
/-- some piece of 1 .. k leads from a to b -/
def leadQ (Q : Nat → Option PcR) (a b : Nat) : Nat → Bool
  | 0 => false
  | k + 1 => leadQ Q a b k || (match Q (k + 1) with
    | none => false
    | some R => goesR R a b)
/-- the nodes of pieces 1 .. k, as bits -/
def nodesQ (Q : Nat → Option PcR) : Nat → Nat
  | 0 => 0
  | k + 1 => nodesQ Q k ||| (match Q (k + 1) with
    | none => 0
    | some R => endsN R)
theorem nodesQ_n {Q : Nat → Option PcR} {k : Nat} (h : Q (k + 1) = none) : nodesQ Q (k + 1) = nodesQ Q k := by simp [nodesQ, h]
theorem nodesQ_s {Q : Nat → Option PcR} {k : Nat} {R : PcR} (h : Q (k + 1) = some R) : nodesQ Q (k + 1) = nodesQ Q k ||| endsN R := by simp [nodesQ, h]
theorem leadQ_n {Q : Nat → Option PcR} {a b k : Nat} (h : Q (k + 1) = none) : leadQ Q a b (k + 1) = leadQ Q a b k := by simp [leadQ, h]
theorem leadQ_s {Q : Nat → Option PcR} {a b k : Nat} {R : PcR} (h : Q (k + 1) = some R) : leadQ Q a b (k + 1) = (leadQ Q a b k || goesR R a b) := by simp [leadQ, h]
theorem leadQ_mono {Q : Nat → Option PcR} {a b i : Nat} (h : leadQ Q a b i = true) : ∀ k, i ≤ k → leadQ Q a b k = true
  | 0, hk => by rw [show i = 0 by omega] at h; exact h
  | k + 1, hk => by
    by_cases he : i = k + 1
    · rw [← he]; exact h
    · simp [leadQ, leadQ_mono h k (by omega)]

set_option maxHeartbeats 4000000 in
set_option maxRecDepth 100000 in
/-- Town() -/
theorem c_Tw_init (l : Launch) (G : Gx) (lo : Nat) (V : Vw) (sz : Nat) (tw : Nat) (htw : tw < sz) : Met l y_Tw_init ws_Tw_init ({ frames := 2, cells := 11, slots := 254, locals := 32 } : Room) (vPre G lo [.ref tw] (vU V [(tw, eO 5 [.null, .null, .null, .null])]) sz) (vPost G lo (fun r V' k => r = none ∧ V' = vU V [(sz + 10, eI (gI G) 20 (fun _ => 0)), (sz + 9, eI (gI G) 20 (fun _ => 0)), (sz + 8, eI (gI G) 20 (fun _ => 0)), (sz + 7, eO 6 [.ref (sz + 8), .ref (sz + 9), .ref (sz + 10), .int 0, .int 0]), (sz + 6, eI (gI G) 31 (fun _ => 0)), (sz + 5, eI (gI G) 31 (fun _ => 0)), (sz + 4, eO 4 [.ref (sz + 5), .ref (sz + 6)]), (sz + 3, eI (gI G) 31 (fun _ => 0)), (sz + 2, eI (gI G) 31 (fun _ => 0)), (sz + 1, eO 4 [.ref (sz + 2), .ref (sz + 3)]), (sz, eQ (gP G) 61 (fun _ => none)), (tw, eO 5 [.ref sz, .ref (sz + 1), .ref (sz + 4), .ref (sz + 7)])] ∧ k = sz + 11)) 11 254 (vL lo) := by
  refine vMet (R := RTw) (by decide) rfl (Nat.le_of_ble_eq_true rfl) ?_
  intro pg ev s mi args below meth cd hx hb hr hml hlk hnm hts hown hK hz hV ls hl
  have hl : lv_has ls 1 [(0, .ref tw)] := hl
  have hV0 := hV
  obtain ⟨H, hH⟩ : ∃ H, H = s.heap := ⟨_, rfl⟩
  obtain ⟨locs, hlocs⟩ : ∃ locs : List Loc, locs = [] := ⟨_, rfl⟩
  rw [← hH, ← hlocs]
  rw [← hH] at hz
  replace hV : vS G.1 cls lo s H locs (vU V [(tw, eO 5 [.null, .null, .null, .null])]) := by rw [hH, hlocs]; exact hV
  clear hH hlocs hV0
  have hn : [tw].Nodup := by simp
  refine lv_aload_n hx hb d_Tw_init_0 rfl (lv_at hl 0 rfl) ?_
  refine W.objInit hx hb hown (hts _ w_ml_Tw_3) (hts _ w_im_Ob_init) (hts _ w_co_Ob_init) rfl (by rw [hml]; exact hl.1) rfl d_Tw_init_1 (Nat.le_of_ble_eq_true rfl) (Nat.le_of_ble_eq_true rfl) ?_
  refine W.eq (g2 := F0 mi 4 ls []) rfl ?_
  refine lv_aload_n hx hb d_Tw_init_4 rfl (lv_at hl 0 rfl) ?_
  refine lv_bipush (v := 61) hx hb d_Tw_init_5 (by decide) ?_
  refine u_newq hx hb hts hown w_cl_Tw_9 hK hV (by decide) (N' := 61) (by decide) (by decide) (Nat.le_of_ble_eq_true rfl) (Nat.le_of_ble_eq_true rfl) d_Tw_init_7 hz (fun H hV hz => ?_)
  have hV : vS G.1 cls lo s H locs (vU V [(sz, eQ (gP G) 61 (fun _ => none)), (tw, eO 5 [.null, .null, .null, .null])]) := hV
  have hn : [sz, tw].Nodup := List.nodup_cons.mpr ⟨by simp only [List.mem_cons, List.not_mem_nil, or_false, not_or]; omega, hn⟩
  refine u_putF hx hb hts inTw tyTw tyTw_ok nmTw hown hK hV hn 1 rfl rfl 0 (by decide) w_fl_Tw_11 rfl rfl hnm rfl rfl rfl (Nat.le_of_ble_eq_true rfl) d_Tw_init_10 (fun H locs hV hz9 => ?_)
  have hV : vS G.1 cls lo s H locs (vU V [(sz, eQ (gP G) 61 (fun _ => none)), (tw, eO 5 [.ref sz, .null, .null, .null])]) := hV
  replace hz := hz9.trans hz
  refine lv_aload_n hx hb d_Tw_init_13 rfl (lv_at hl 0 rfl) ?_
  refine u_new (ci := 4) hx hb hts inSp tySp tySp_ok hown w_cl_Tw_17 w_in_Sp w_it_Sp hK hV rfl (fs := [.null, .null]) (fun j hj => by rcases (show j = 0 ∨ j = 1 by omega) with rfl | rfl <;> rfl) (Nat.le_of_ble_eq_true rfl) (Nat.le_of_ble_eq_true rfl) d_Tw_init_14 hz (fun H hV hz => ?_)
  have hV : vS G.1 cls lo s H locs (vU V [(sz + 1, eO 4 [.null, .null]), (sz, eQ (gP G) 61 (fun _ => none)), (tw, eO 5 [.ref sz, .null, .null, .null])]) := hV
  have hn : [sz + 1, sz, tw].Nodup := List.nodup_cons.mpr ⟨by simp only [List.mem_cons, List.not_mem_nil, or_false, not_or]; omega, hn⟩
  refine lv_dup hx hb d_Tw_init_17 rfl ?_
  refine v_call (va_runIN (As := []) (rest := [.ref (sz + 1), .ref tw]) ⟨hx, hb, hml, hown, hts⟩ (c_Sp_init l G lo _ _ (sz + 1) (by omega)) ⟨va_cnB 0 hts (goodL w_co_Sp_init) rfl rfl rfl (hK.2.1 _ (List.mem_of_getElem? (i := 4) rfl)) (hts _ w_it_Sp) (by decide +kernel) ⟨by decide, by decide⟩, rfl, hts _ w_im_Sp_init⟩ (u_preS hK hV hn [0] rfl hz) rfl rfl hl.1 rfl (lv_room (Nat.le_of_ble_eq_true rfl)) d_Tw_init_18 ⟨(Nat.le_of_ble_eq_true rfl), (Nat.le_of_ble_eq_true rfl)⟩) hV (fun r9 V9 H locs hp hV hle => ?_)
  obtain ⟨rfl, rfl, hz⟩ := hp
  replace hV := u_backN 2 hV hn [0] rfl
  have hn : [sz + 2, sz + 1, sz, tw].Nodup := List.nodup_cons.mpr ⟨by simp only [List.mem_cons, List.not_mem_nil, or_false, not_or]; omega, hn⟩
  have hn : [sz + 3, sz + 2, sz + 1, sz, tw].Nodup := List.nodup_cons.mpr ⟨by simp only [List.mem_cons, List.not_mem_nil, or_false, not_or]; omega, hn⟩
  have hz : H.size = sz + 4 := hz
  have hV : vS G.1 cls lo s H locs (vU V [(sz + 3, eI (gI G) 31 (fun _ => 0)), (sz + 2, eI (gI G) 31 (fun _ => 0)), (sz + 1, eO 4 [.ref (sz + 2), .ref (sz + 3)]), (sz, eQ (gP G) 61 (fun _ => none)), (tw, eO 5 [.ref sz, .null, .null, .null])]) := hV
  refine u_putF hx hb hts inTw tyTw tyTw_ok nmTw hown hK hV hn 4 rfl rfl 1 (by decide) w_fl_Tw_20 rfl rfl hnm rfl rfl rfl (Nat.le_of_ble_eq_true rfl) d_Tw_init_21 (fun H locs hV hz9 => ?_)
  have hV : vS G.1 cls lo s H locs (vU V [(sz + 3, eI (gI G) 31 (fun _ => 0)), (sz + 2, eI (gI G) 31 (fun _ => 0)), (sz + 1, eO 4 [.ref (sz + 2), .ref (sz + 3)]), (sz, eQ (gP G) 61 (fun _ => none)), (tw, eO 5 [.ref sz, .ref (sz + 1), .null, .null])]) := hV
  replace hz := hz9.trans hz
  refine lv_aload_n hx hb d_Tw_init_24 rfl (lv_at hl 0 rfl) ?_
  refine u_new (ci := 4) hx hb hts inSp tySp tySp_ok hown w_cl_Tw_17 w_in_Sp w_it_Sp hK hV rfl (fs := [.null, .null]) (fun j hj => by rcases (show j = 0 ∨ j = 1 by omega) with rfl | rfl <;> rfl) (Nat.le_of_ble_eq_true rfl) (Nat.le_of_ble_eq_true rfl) d_Tw_init_25 hz (fun H hV hz => ?_)
  have hV : vS G.1 cls lo s H locs (vU V [(sz + 4, eO 4 [.null, .null]), (sz + 3, eI (gI G) 31 (fun _ => 0)), (sz + 2, eI (gI G) 31 (fun _ => 0)), (sz + 1, eO 4 [.ref (sz + 2), .ref (sz + 3)]), (sz, eQ (gP G) 61 (fun _ => none)), (tw, eO 5 [.ref sz, .ref (sz + 1), .null, .null])]) := hV
  have hn : [sz + 4, sz + 3, sz + 2, sz + 1, sz, tw].Nodup := List.nodup_cons.mpr ⟨by simp only [List.mem_cons, List.not_mem_nil, or_false, not_or]; omega, hn⟩
  refine lv_dup hx hb d_Tw_init_28 rfl ?_
  refine v_call (va_runIN (As := []) (rest := [.ref (sz + 4), .ref tw]) ⟨hx, hb, hml, hown, hts⟩ (c_Sp_init l G lo _ _ (sz + 4) (by omega)) ⟨va_cnB 0 hts (goodL w_co_Sp_init) rfl rfl rfl (hK.2.1 _ (List.mem_of_getElem? (i := 4) rfl)) (hts _ w_it_Sp) (by decide +kernel) ⟨by decide, by decide⟩, rfl, hts _ w_im_Sp_init⟩ (u_preS hK hV hn [0] rfl hz) rfl rfl hl.1 rfl (lv_room (Nat.le_of_ble_eq_true rfl)) d_Tw_init_29 ⟨(Nat.le_of_ble_eq_true rfl), (Nat.le_of_ble_eq_true rfl)⟩) hV (fun r9 V9 H locs hp hV hle => ?_)
  obtain ⟨rfl, rfl, hz⟩ := hp
  replace hV := u_backN 2 hV hn [0] rfl
  have hn : [sz + 5, sz + 4, sz + 3, sz + 2, sz + 1, sz, tw].Nodup := List.nodup_cons.mpr ⟨by simp only [List.mem_cons, List.not_mem_nil, or_false, not_or]; omega, hn⟩
  have hn : [sz + 6, sz + 5, sz + 4, sz + 3, sz + 2, sz + 1, sz, tw].Nodup := List.nodup_cons.mpr ⟨by simp only [List.mem_cons, List.not_mem_nil, or_false, not_or]; omega, hn⟩
  have hz : H.size = sz + 7 := hz
  have hV : vS G.1 cls lo s H locs (vU V [(sz + 6, eI (gI G) 31 (fun _ => 0)), (sz + 5, eI (gI G) 31 (fun _ => 0)), (sz + 4, eO 4 [.ref (sz + 5), .ref (sz + 6)]), (sz + 3, eI (gI G) 31 (fun _ => 0)), (sz + 2, eI (gI G) 31 (fun _ => 0)), (sz + 1, eO 4 [.ref (sz + 2), .ref (sz + 3)]), (sz, eQ (gP G) 61 (fun _ => none)), (tw, eO 5 [.ref sz, .ref (sz + 1), .null, .null])]) := hV
  refine u_putF hx hb hts inTw tyTw tyTw_ok nmTw hown hK hV hn 7 rfl rfl 2 (by decide) w_fl_Tw_24 rfl rfl hnm rfl rfl rfl (Nat.le_of_ble_eq_true rfl) d_Tw_init_32 (fun H locs hV hz9 => ?_)
  have hV : vS G.1 cls lo s H locs (vU V [(sz + 6, eI (gI G) 31 (fun _ => 0)), (sz + 5, eI (gI G) 31 (fun _ => 0)), (sz + 4, eO 4 [.ref (sz + 5), .ref (sz + 6)]), (sz + 3, eI (gI G) 31 (fun _ => 0)), (sz + 2, eI (gI G) 31 (fun _ => 0)), (sz + 1, eO 4 [.ref (sz + 2), .ref (sz + 3)]), (sz, eQ (gP G) 61 (fun _ => none)), (tw, eO 5 [.ref sz, .ref (sz + 1), .ref (sz + 4), .null])]) := hV
  replace hz := hz9.trans hz
  refine lv_aload_n hx hb d_Tw_init_35 rfl (lv_at hl 0 rfl) ?_
  refine u_new (ci := 6) hx hb hts inTn tyTn tyTn_ok hown w_cl_Tw_27 w_in_Tn w_it_Tn hK hV rfl (fs := [.null, .null, .null, .int 0, .int 0]) (fun j hj => by rcases (show j = 0 ∨ j = 1 ∨ j = 2 ∨ j = 3 ∨ j = 4 by omega) with rfl | rfl | rfl | rfl | rfl <;> rfl) (Nat.le_of_ble_eq_true rfl) (Nat.le_of_ble_eq_true rfl) d_Tw_init_36 hz (fun H hV hz => ?_)
  have hV : vS G.1 cls lo s H locs (vU V [(sz + 7, eO 6 [.null, .null, .null, .int 0, .int 0]), (sz + 6, eI (gI G) 31 (fun _ => 0)), (sz + 5, eI (gI G) 31 (fun _ => 0)), (sz + 4, eO 4 [.ref (sz + 5), .ref (sz + 6)]), (sz + 3, eI (gI G) 31 (fun _ => 0)), (sz + 2, eI (gI G) 31 (fun _ => 0)), (sz + 1, eO 4 [.ref (sz + 2), .ref (sz + 3)]), (sz, eQ (gP G) 61 (fun _ => none)), (tw, eO 5 [.ref sz, .ref (sz + 1), .ref (sz + 4), .null])]) := hV
  have hn : [sz + 7, sz + 6, sz + 5, sz + 4, sz + 3, sz + 2, sz + 1, sz, tw].Nodup := List.nodup_cons.mpr ⟨by simp only [List.mem_cons, List.not_mem_nil, or_false, not_or]; omega, hn⟩
  refine lv_dup hx hb d_Tw_init_39 rfl ?_
  refine v_call (va_runIN (As := []) (rest := [.ref (sz + 7), .ref tw]) ⟨hx, hb, hml, hown, hts⟩ (c_Tn_init l G lo _ _ (sz + 7) (by omega)) ⟨va_cnB 0 hts (goodL w_co_Tn_init) rfl rfl rfl (hK.2.1 _ (List.mem_of_getElem? (i := 5) rfl)) (hts _ w_it_Tn) (by decide +kernel) ⟨by decide, by decide⟩, rfl, hts _ w_im_Tn_init⟩ (u_preS hK hV hn [0] rfl hz) rfl rfl hl.1 rfl (lv_room (Nat.le_of_ble_eq_true rfl)) d_Tw_init_40 ⟨(Nat.le_of_ble_eq_true rfl), (Nat.le_of_ble_eq_true rfl)⟩) hV (fun r9 V9 H locs hp hV hle => ?_)
  obtain ⟨rfl, rfl, hz⟩ := hp
  replace hV := u_backN 3 hV hn [0] rfl
  have hn : [sz + 8, sz + 7, sz + 6, sz + 5, sz + 4, sz + 3, sz + 2, sz + 1, sz, tw].Nodup := List.nodup_cons.mpr ⟨by simp only [List.mem_cons, List.not_mem_nil, or_false, not_or]; omega, hn⟩
  have hn : [sz + 9, sz + 8, sz + 7, sz + 6, sz + 5, sz + 4, sz + 3, sz + 2, sz + 1, sz, tw].Nodup := List.nodup_cons.mpr ⟨by simp only [List.mem_cons, List.not_mem_nil, or_false, not_or]; omega, hn⟩
  have hn : [sz + 10, sz + 9, sz + 8, sz + 7, sz + 6, sz + 5, sz + 4, sz + 3, sz + 2, sz + 1, sz, tw].Nodup := List.nodup_cons.mpr ⟨by simp only [List.mem_cons, List.not_mem_nil, or_false, not_or]; omega, hn⟩
  have hz : H.size = sz + 11 := hz
  have hV : vS G.1 cls lo s H locs (vU V [(sz + 10, eI (gI G) 20 (fun _ => 0)), (sz + 9, eI (gI G) 20 (fun _ => 0)), (sz + 8, eI (gI G) 20 (fun _ => 0)), (sz + 7, eO 6 [.ref (sz + 8), .ref (sz + 9), .ref (sz + 10), .int 0, .int 0]), (sz + 6, eI (gI G) 31 (fun _ => 0)), (sz + 5, eI (gI G) 31 (fun _ => 0)), (sz + 4, eO 4 [.ref (sz + 5), .ref (sz + 6)]), (sz + 3, eI (gI G) 31 (fun _ => 0)), (sz + 2, eI (gI G) 31 (fun _ => 0)), (sz + 1, eO 4 [.ref (sz + 2), .ref (sz + 3)]), (sz, eQ (gP G) 61 (fun _ => none)), (tw, eO 5 [.ref sz, .ref (sz + 1), .ref (sz + 4), .null])]) := hV
  refine u_putF hx hb hts inTw tyTw tyTw_ok nmTw hown hK hV hn 11 rfl rfl 3 (by decide) w_fl_Tw_30 rfl rfl hnm rfl rfl rfl (Nat.le_of_ble_eq_true rfl) d_Tw_init_43 (fun H locs hV hz9 => ?_)
  have hV : vS G.1 cls lo s H locs (vU V [(sz + 10, eI (gI G) 20 (fun _ => 0)), (sz + 9, eI (gI G) 20 (fun _ => 0)), (sz + 8, eI (gI G) 20 (fun _ => 0)), (sz + 7, eO 6 [.ref (sz + 8), .ref (sz + 9), .ref (sz + 10), .int 0, .int 0]), (sz + 6, eI (gI G) 31 (fun _ => 0)), (sz + 5, eI (gI G) 31 (fun _ => 0)), (sz + 4, eO 4 [.ref (sz + 5), .ref (sz + 6)]), (sz + 3, eI (gI G) 31 (fun _ => 0)), (sz + 2, eI (gI G) 31 (fun _ => 0)), (sz + 1, eO 4 [.ref (sz + 2), .ref (sz + 3)]), (sz, eQ (gP G) 61 (fun _ => none)), (tw, eO 5 [.ref sz, .ref (sz + 1), .ref (sz + 4), .ref (sz + 7)])]) := hV
  replace hz := hz9.trans hz
  exact W.vret hx hb hr (v_end hV ⟨rfl, rfl, hz⟩) hV.2.1.2.2 d_Tw_init_46

set_option maxHeartbeats 4000000 in
set_option maxRecDepth 100000 in
/-- Town.find -/
theorem c_Tw_find (l : Launch) (G : Gx) (lo : Nat) (V : Vw) (sz : Nat) (tw ps bl sn tu : Nat) (pf : Nat → Option Nat) (hn : [tw, ps].Nodup) (x : Int32) : Met l y_Tw_find ws_Tw_find ({ frames := 0, cells := 0, slots := 0, locals := 0 } : Room) (vPre G lo [.ref tw, .int x] (vU V [(tw, eO 5 [.ref ps, .ref bl, .ref sn, .ref tu]), (ps, eQ (gP G) 61 pf)]) sz) (vPost G lo (fun r V' k => r = some (va_rf (twFind pf x)) ∧ V' = vU V [(tw, eO 5 [.ref ps, .ref bl, .ref sn, .ref tu]), (ps, eQ (gP G) 61 pf)] ∧ k = sz)) 0 0 (vL lo) := by
  refine vMet (R := RTw) (by decide) rfl (Nat.le_of_ble_eq_true rfl) ?_
  intro pg ev s mi args below meth cd hx hb hr hml hlk hnm hts hown hK hz hV ls hl
  have hl : lv_has ls 2 [(0, .ref tw), (1, .int x)] := hl
  have hV0 := hV
  obtain ⟨H, hH⟩ : ∃ H, H = s.heap := ⟨_, rfl⟩
  obtain ⟨locs, hlocs⟩ : ∃ locs : List Loc, locs = [] := ⟨_, rfl⟩
  rw [← hH, ← hlocs]
  rw [← hH] at hz
  replace hV : vS G.1 cls lo s H locs (vU V [(tw, eO 5 [.ref ps, .ref bl, .ref sn, .ref tu]), (ps, eQ (gP G) 61 pf)]) := by rw [hH, hlocs]; exact hV
  clear hH hlocs hV0
  refine lv_iload_n hx hb d_Tw_find_0 rfl (lv_at hl 1 rfl) ?_
  refine lv_iconst (v := 1) hx hb d_Tw_find_1 (by decide) ?_
  refine lv_icmp_lt (tgt := 20) hx hb d_Tw_find_2 (by decide) (fun c_1 => ?_) (fun c_1 => ?_)
  · have hE : twFind pf x = none := twFind_lo c_1
    refine lv_null hx hb d_Tw_find_20 ?_
    exact W.aret (v := .null) hx hb hr (Or.inl ⟨_, rfl⟩) (Or.inl rfl) (v_end hV ⟨by rw [hE]; rfl, rfl, hz⟩) hV.2.1.2.2 d_Tw_find_21
  · refine lv_iload_n hx hb d_Tw_find_5 rfl (lv_at hl 1 rfl) ?_
    refine lv_bipush (v := 60) hx hb d_Tw_find_6 (by decide) ?_
    refine lv_icmp_gt (tgt := 20) hx hb d_Tw_find_8 (by decide) (fun c_2 => ?_) (fun c_2 => ?_)
    · have hE : twFind pf x = none := twFind_hi c_2
      refine lv_null hx hb d_Tw_find_20 ?_
      exact W.aret (v := .null) hx hb hr (Or.inl ⟨_, rfl⟩) (Or.inl rfl) (v_end hV ⟨by rw [hE]; rfl, rfl, hz⟩) hV.2.1.2.2 d_Tw_find_21
    · obtain ⟨j, hj1, hj2, rfl⟩ := nI_bd (a := 1) (b := 60) (by decide) c_1 c_2 (by decide)
      have hE := twFind_in (pf := pf) hj1 hj2
      refine lv_aload_n hx hb d_Tw_find_11 rfl (lv_at hl 0 rfl) ?_
      refine u_get hx hb hts inTw hown hK hV hn 0 rfl rfl 0 (by decide) w_fl_Tw_11 rfl rfl d_Tw_find_12 ?_
      refine lv_iload_n hx hb d_Tw_find_15 rfl (lv_at hl 1 rfl) ?_
      refine u_aaldN hx hb hK hV hn 1 rfl (by omega) (by decide) d_Tw_find_16 ?_
      refine lv_goto (tgt := 21) hx hb d_Tw_find_17 (by decide) ?_
      exact W.aret (v := va_rf (pf j)) hx hb hr (Or.inl ⟨_, rfl⟩) (va_rf_or _) (v_end hV ⟨by rw [hE], rfl, hz⟩) hV.2.1.2.2 d_Tw_find_21

set_option maxHeartbeats 4000000 in
set_option maxRecDepth 100000 in
/-- Town.put -/
theorem c_Tw_putR (l : Launch) (G : Gx) (lo : Nat) (V : Vw) (sz : Nat) (tw ps bl sn tu pa : Nat) (vs : List Value) (pf : Nat → Option Nat) (hn : [tw, ps, pa].Nodup) (j : Nat) (hj1 : 1 ≤ j) (hj2 : j ≤ 60) : Met l y_Tw_put ws_Tw_put ({ frames := 0, cells := 0, slots := 0, locals := 0 } : Room) (vPre G lo [.ref tw, .int (nI j), .ref pa] (vU V [(tw, eO 5 [.ref ps, .ref bl, .ref sn, .ref tu]), (ps, eQ (gP G) 61 pf), (pa, eO 1 vs)]) sz) (vPost G lo (fun r V' k => r = none ∧ V' = vU V [(tw, eO 5 [.ref ps, .ref bl, .ref sn, .ref tu]), (ps, eQ (gP G) 61 (va_up pf j (some pa))), (pa, eO 1 vs)] ∧ k = sz)) 0 0 (vL lo) := by
  refine vMet (R := RTw) (by decide) rfl (Nat.le_of_ble_eq_true rfl) ?_
  intro pg ev s mi args below meth cd hx hb hr hml hlk hnm hts hown hK hz hV ls hl
  have hl : lv_has ls 3 [(0, .ref tw), (1, .int (nI j)), (2, .ref pa)] := hl
  have hV0 := hV
  obtain ⟨H, hH⟩ : ∃ H, H = s.heap := ⟨_, rfl⟩
  obtain ⟨locs, hlocs⟩ : ∃ locs : List Loc, locs = [] := ⟨_, rfl⟩
  rw [← hH, ← hlocs]
  rw [← hH] at hz
  replace hV : vS G.1 cls lo s H locs (vU V [(tw, eO 5 [.ref ps, .ref bl, .ref sn, .ref tu]), (ps, eQ (gP G) 61 pf), (pa, eO 1 vs)]) := by rw [hH, hlocs]; exact hV
  clear hH hlocs hV0
  refine lv_iload_n hx hb d_Tw_put_0 rfl (lv_at hl 1 rfl) ?_
  refine lv_iconst (v := 1) hx hb d_Tw_put_1 (by decide) ?_
  refine lv_icmp_lt (tgt := 18) hx hb d_Tw_put_2 (by decide) (fun c_1 => absurd c_1 (nI_nlt (a := j) (b := 1) hj1 (by omega))) (fun c_1 => ?_)
  replace c_1 : ¬ j < 1 := fun z9 => c_1 ((nI_ltI (a := j) (b := 1) (by omega) (by omega)).mpr z9)
  refine lv_iload_n hx hb d_Tw_put_5 rfl (lv_at hl 1 rfl) ?_
  refine lv_bipush (v := 60) hx hb d_Tw_put_6 (by decide) ?_
  refine lv_icmp_gt (tgt := 18) hx hb d_Tw_put_8 (by decide) (fun c_2 => absurd c_2 (nI_nlt (a := 60) (b := j) hj2 (by decide))) (fun c_2 => ?_)
  replace c_2 : ¬ 60 < j := fun z9 => c_2 ((nI_ltI (a := 60) (b := j) (by omega) (by omega)).mpr z9)
  refine lv_aload_n hx hb d_Tw_put_11 rfl (lv_at hl 0 rfl) ?_
  refine u_get hx hb hts inTw hown hK hV hn 0 rfl rfl 0 (by decide) w_fl_Tw_11 rfl rfl d_Tw_put_12 ?_
  refine lv_iload_n hx hb d_Tw_put_15 rfl (lv_at hl 1 rfl) ?_
  refine lv_aload_n hx hb d_Tw_put_16 rfl (lv_at hl 2 rfl) ?_
  refine u_aastR hx hb hK hV hn 1 rfl 2 rfl (by omega) (by decide) d_Tw_put_17 (fun H locs hV hz9 => ?_)
  have hV : vS G.1 cls lo s H locs (vU V [(tw, eO 5 [.ref ps, .ref bl, .ref sn, .ref tu]), (ps, eQ (gP G) 61 (va_up pf j (some pa))), (pa, eO 1 vs)]) := hV
  replace hz := hz9.trans hz
  exact W.vret hx hb hr (v_end hV ⟨rfl, rfl, hz⟩) hV.2.1.2.2 d_Tw_put_18

set_option maxHeartbeats 4000000 in
set_option maxRecDepth 100000 in
/-- Town.put -/
theorem c_Tw_putN (l : Launch) (G : Gx) (lo : Nat) (V : Vw) (sz : Nat) (tw ps bl sn tu : Nat) (pf : Nat → Option Nat) (hn : [tw, ps].Nodup) (j : Nat) (hj1 : 1 ≤ j) (hj2 : j ≤ 60) : Met l y_Tw_put ws_Tw_put ({ frames := 0, cells := 0, slots := 0, locals := 0 } : Room) (vPre G lo [.ref tw, .int (nI j), .null] (vU V [(tw, eO 5 [.ref ps, .ref bl, .ref sn, .ref tu]), (ps, eQ (gP G) 61 pf)]) sz) (vPost G lo (fun r V' k => r = none ∧ V' = vU V [(tw, eO 5 [.ref ps, .ref bl, .ref sn, .ref tu]), (ps, eQ (gP G) 61 (va_up pf j none))] ∧ k = sz)) 0 0 (vL lo) := by
  refine vMet (R := RTw) (by decide) rfl (Nat.le_of_ble_eq_true rfl) ?_
  intro pg ev s mi args below meth cd hx hb hr hml hlk hnm hts hown hK hz hV ls hl
  have hl : lv_has ls 3 [(0, .ref tw), (1, .int (nI j)), (2, .null)] := hl
  have hV0 := hV
  obtain ⟨H, hH⟩ : ∃ H, H = s.heap := ⟨_, rfl⟩
  obtain ⟨locs, hlocs⟩ : ∃ locs : List Loc, locs = [] := ⟨_, rfl⟩
  rw [← hH, ← hlocs]
  rw [← hH] at hz
  replace hV : vS G.1 cls lo s H locs (vU V [(tw, eO 5 [.ref ps, .ref bl, .ref sn, .ref tu]), (ps, eQ (gP G) 61 pf)]) := by rw [hH, hlocs]; exact hV
  clear hH hlocs hV0
  refine lv_iload_n hx hb d_Tw_put_0 rfl (lv_at hl 1 rfl) ?_
  refine lv_iconst (v := 1) hx hb d_Tw_put_1 (by decide) ?_
  refine lv_icmp_lt (tgt := 18) hx hb d_Tw_put_2 (by decide) (fun c_1 => absurd c_1 (nI_nlt (a := j) (b := 1) hj1 (by omega))) (fun c_1 => ?_)
  replace c_1 : ¬ j < 1 := fun z9 => c_1 ((nI_ltI (a := j) (b := 1) (by omega) (by omega)).mpr z9)
  refine lv_iload_n hx hb d_Tw_put_5 rfl (lv_at hl 1 rfl) ?_
  refine lv_bipush (v := 60) hx hb d_Tw_put_6 (by decide) ?_
  refine lv_icmp_gt (tgt := 18) hx hb d_Tw_put_8 (by decide) (fun c_2 => absurd c_2 (nI_nlt (a := 60) (b := j) hj2 (by decide))) (fun c_2 => ?_)
  replace c_2 : ¬ 60 < j := fun z9 => c_2 ((nI_ltI (a := 60) (b := j) (by omega) (by omega)).mpr z9)
  refine lv_aload_n hx hb d_Tw_put_11 rfl (lv_at hl 0 rfl) ?_
  refine u_get hx hb hts inTw hown hK hV hn 0 rfl rfl 0 (by decide) w_fl_Tw_11 rfl rfl d_Tw_put_12 ?_
  refine lv_iload_n hx hb d_Tw_put_15 rfl (lv_at hl 1 rfl) ?_
  refine lv_aload_nN hx hb d_Tw_put_16 rfl (lv_at hl 2 rfl) ?_
  refine u_aastZ hx hb hK hV hn 1 rfl (by omega) (by decide) d_Tw_put_17 (fun H locs hV hz9 => ?_)
  have hV : vS G.1 cls lo s H locs (vU V [(tw, eO 5 [.ref ps, .ref bl, .ref sn, .ref tu]), (ps, eQ (gP G) 61 (va_up pf j none))]) := hV
  replace hz := hz9.trans hz
  exact W.vret hx hb hr (v_end hV ⟨rfl, rfl, hz⟩) hV.2.1.2.2 d_Tw_put_18

set_option maxHeartbeats 4000000 in
set_option maxRecDepth 100000 in
/-- Town.pieceCount -/
theorem c_Tw_pieceCount (l : Launch) (G : Gx) (lo : Nat) (V : Vw) (sz : Nat) (tw ps bl sn tu : Nat) (pf : Nat → Option Nat) (hn : [tw, ps].Nodup) : Met l y_Tw_pieceCount ws_Tw_pieceCount ({ frames := 0, cells := 0, slots := 0, locals := 0 } : Room) (vPre G lo [.ref tw] (vU V [(tw, eO 5 [.ref ps, .ref bl, .ref sn, .ref tu]), (ps, eQ (gP G) 61 pf)]) sz) (vPost G lo (fun r V' k => r = some (.int (nI (cnt (fun j => (pf j).isSome) 60))) ∧ V' = vU V [(tw, eO 5 [.ref ps, .ref bl, .ref sn, .ref tu]), (ps, eQ (gP G) 61 pf)] ∧ k = sz)) 0 0 (vL lo) := by
  refine vMet (R := RTw) (by decide) rfl (Nat.le_of_ble_eq_true rfl) ?_
  intro pg ev s mi args below meth cd hx hb hr hml hlk hnm hts hown hK hz hV ls hl
  have hl : lv_has ls 3 [(0, .ref tw)] := hl
  have hV0 := hV
  obtain ⟨H, hH⟩ : ∃ H, H = s.heap := ⟨_, rfl⟩
  obtain ⟨locs, hlocs⟩ : ∃ locs : List Loc, locs = [] := ⟨_, rfl⟩
  rw [← hH, ← hlocs]
  rw [← hH] at hz
  replace hV : vS G.1 cls lo s H locs (vU V [(tw, eO 5 [.ref ps, .ref bl, .ref sn, .ref tu]), (ps, eQ (gP G) 61 pf)]) := by rw [hH, hlocs]; exact hV
  clear hH hlocs hV0
  refine lv_iconst (v := 0) hx hb d_Tw_pieceCount_0 (by decide) ?_
  refine lv_istore_n (lv' := [(1, .int 0), (0, .ref tw)]) hx hb d_Tw_pieceCount_1 rfl hl (by decide) rfl (fun ls hl => ?_)
  refine lv_iconst (v := 1) hx hb d_Tw_pieceCount_2 (by decide) ?_
  refine lv_istore_n (lv' := [(2, .int 1), (1, .int 0), (0, .ref tw)]) hx hb d_Tw_pieceCount_3 rfl hl (by decide) rfl (fun ls hl => ?_)
  have loop : ∀ (k : Nat) (i : Nat), 60 - i < k → (i ≤ 60) → ∀ (H : Heap) (locs : List Loc) (ls : Array Slot), H.size = sz → vS G.1 cls lo s H locs (vU V [(tw, eO 5 [.ref ps, .ref bl, .ref sn, .ref tu]), (ps, eQ (gP G) 61 pf)]) → lv_has ls 3 [(0, .ref tw), (1, .int (nI (cnt (fun j => (pf j).isSome) i))), (2, .int (nI (i + 1)))] → W pg l ev ({ frames := 0, cells := 0, slots := 0, locals := 0 } : Room) s mi args below meth cd H locs 0 0 (MQ below (vPost G lo (fun r V' k => r = some (.int (nI (cnt (fun j => (pf j).isSome) 60))) ∧ V' = vU V [(tw, eO 5 [.ref ps, .ref bl, .ref sn, .ref tu]), (ps, eQ (gP G) 61 pf)] ∧ k = sz)) args s 0 0 (vL lo)) (F0 mi 4 ls []) := by
    intro k
    induction k with
    | zero => intro i hk; exact absurd hk (by omega)
    | succ k ih =>
      intro i hk hi H locs ls hz hV hl
      refine lv_iload_n hx hb d_Tw_pieceCount_4 rfl (lv_at hl 2 rfl) ?_
      refine lv_bipush (v := 60) hx hb d_Tw_pieceCount_5 (by decide) ?_
      refine lv_icmp_gt (tgt := 28) hx hb d_Tw_pieceCount_7 (by decide) (fun c_1 => ?_) (fun c_1 => ?_)
      · replace c_1 : 60 < i + 1 := (nI_ltI (a := 60) (b := i + 1) (by omega) (by omega)).mp c_1
        refine lv_iload_n hx hb d_Tw_pieceCount_28 rfl (lv_at hl 1 rfl) ?_
        exact W.iret (v := nI (cnt (fun j => (pf j).isSome) i)) hx hb hr (v_end hV ⟨by rw [show i = 60 by omega], rfl, hz⟩) hV.2.1.2.2 d_Tw_pieceCount_29
      · replace c_1 : ¬ 60 < i + 1 := fun z9 => c_1 ((nI_ltI (a := 60) (b := i + 1) (by omega) (by omega)).mpr z9)
        have hc9 := cnt_le (fun j => (pf j).isSome) i
        refine lv_aload_n hx hb d_Tw_pieceCount_10 rfl (lv_at hl 0 rfl) ?_
        refine u_get hx hb hts inTw hown hK hV hn 0 rfl rfl 0 (by decide) w_fl_Tw_11 rfl rfl d_Tw_pieceCount_11 ?_
        refine lv_iload_n hx hb d_Tw_pieceCount_14 rfl (lv_at hl 2 rfl) ?_
        refine u_aaldN hx hb hK hV hn 1 rfl (by omega) (by decide) d_Tw_pieceCount_15 ?_
        rcases o_2 : pf (i + 1) with _ | a_2
        · refine W.eq (g2 := F0 mi 16 ls [.null]) rfl ?_
          rw [← cnt_n (f := (fun j => (pf j).isSome)) (k := i) (by simp [o_2])] at hl
          refine lv_ifnullN (tgt := 22) hx hb d_Tw_pieceCount_16 (by decide) ?_
          refine lv_iinc (v := nI (i + 2)) (lv' := [(2, .int (nI (i + 2))), (0, .ref tw), (1, .int (nI (cnt (fun j => (pf j).isSome) (i + 1))))]) hx hb d_Tw_pieceCount_22 hl (k := 2) rfl (nI_add (i + 1) 1) (by decide) rfl (fun ls hl => ?_)
          refine lv_goto (tgt := 4) hx hb d_Tw_pieceCount_25 (by decide) ?_
          exact ih (i + 1) (by omega) (by omega) H locs ls hz hV (lv_sub hl [1, 2, 0] rfl)
        · refine W.eq (g2 := F0 mi 16 ls [.ref a_2]) rfl ?_
          refine lv_ifnull hx hb d_Tw_pieceCount_16 ?_
          refine lv_iinc (v := nI (cnt (fun j => (pf j).isSome) (i + 1))) (lv' := [(1, .int (nI (cnt (fun j => (pf j).isSome) (i + 1)))), (0, .ref tw), (2, .int (nI (i + 1)))]) hx hb d_Tw_pieceCount_19 hl (k := 1) rfl (by rw [cnt_y (f := (fun j => (pf j).isSome)) (k := i) (by simp [o_2])]; exact nI_add _ 1) (by decide) rfl (fun ls hl => ?_)
          refine lv_iinc (v := nI (i + 2)) (lv' := [(2, .int (nI (i + 2))), (1, .int (nI (cnt (fun j => (pf j).isSome) (i + 1)))), (0, .ref tw)]) hx hb d_Tw_pieceCount_22 hl (k := 2) rfl (nI_add (i + 1) 1) (by decide) rfl (fun ls hl => ?_)
          refine lv_goto (tgt := 4) hx hb d_Tw_pieceCount_25 (by decide) ?_
          exact ih (i + 1) (by omega) (by omega) H locs ls hz hV (lv_sub hl [2, 1, 0] rfl)
  exact loop 61 0 (by omega) (by omega) H locs ls hz hV (lv_sub hl [2, 1, 0] rfl)

set_option maxHeartbeats 4000000 in
set_option maxRecDepth 100000 in
/-- Town.nodes -/
theorem c_Tw_nodes (l : Launch) (G : Gx) (lo : Nat) (V : Vw) (sz : Nat) (tw ps bl sn tu : Nat) (pf : Nat → Option Nat) (hn : [tw, ps].Nodup) (Q : Nat → Option PcR) (hP : twP G (vU V [(tw, eO 5 [.ref ps, .ref bl, .ref sn, .ref tu]), (ps, eQ (gP G) 61 pf)]) pf Q) : Met l y_Tw_nodes ws_Tw_nodes ({ frames := 1, cells := 0, slots := 0, locals := 20 } : Room) (vPre G lo [.ref tw] (vU V [(tw, eO 5 [.ref ps, .ref bl, .ref sn, .ref tu]), (ps, eQ (gP G) 61 pf)]) sz) (vPost G lo (fun r V' k => r = some (.long (lN (nodesQ Q 60))) ∧ V' = vU V [(tw, eO 5 [.ref ps, .ref bl, .ref sn, .ref tu]), (ps, eQ (gP G) 61 pf)] ∧ k = sz)) 0 0 (vL lo) := by
  refine vMet (R := RTw) (by decide) rfl (Nat.le_of_ble_eq_true rfl) ?_
  intro pg ev s mi args below meth cd hx hb hr hml hlk hnm hts hown hK hz hV ls hl
  have hl : lv_has ls 5 [(0, .ref tw)] := hl
  have hV0 := hV
  obtain ⟨H, hH⟩ : ∃ H, H = s.heap := ⟨_, rfl⟩
  obtain ⟨locs, hlocs⟩ : ∃ locs : List Loc, locs = [] := ⟨_, rfl⟩
  rw [← hH, ← hlocs]
  rw [← hH] at hz
  replace hV : vS G.1 cls lo s H locs (vU V [(tw, eO 5 [.ref ps, .ref bl, .ref sn, .ref tu]), (ps, eQ (gP G) 61 pf)]) := by rw [hH, hlocs]; exact hV
  clear hH hlocs hV0
  refine lv_lconst (v := 0) hx hb d_Tw_nodes_0 (by decide) ?_
  refine lv_lstore_n (lv' := [(1, .long ((0 : Int64))), (0, .ref tw)]) hx hb d_Tw_nodes_1 rfl hl (by decide) rfl (fun ls hl => ?_)
  refine lv_iconst (v := 1) hx hb d_Tw_nodes_2 (by decide) ?_
  refine lv_istore_n (lv' := [(3, .int 1), (1, .long ((0 : Int64))), (0, .ref tw)]) hx hb d_Tw_nodes_3 rfl hl (by decide) rfl (fun ls hl => ?_)
  have loop : ∀ (k : Nat) (i : Nat), 60 - i < k → (i ≤ 60) → (nodesQ Q i < 2 ^ 41) → ∀ (H : Heap) (locs : List Loc) (ls : Array Slot), H.size = sz → vS G.1 cls lo s H locs (vU V [(tw, eO 5 [.ref ps, .ref bl, .ref sn, .ref tu]), (ps, eQ (gP G) 61 pf)]) → lv_has ls 5 [(0, .ref tw), (1, .long (lN (nodesQ Q i))), (3, .int (nI (i + 1)))] → W pg l ev ({ frames := 1, cells := 0, slots := 0, locals := 20 } : Room) s mi args below meth cd H locs 0 0 (MQ below (vPost G lo (fun r V' k => r = some (.long (lN (nodesQ Q 60))) ∧ V' = vU V [(tw, eO 5 [.ref ps, .ref bl, .ref sn, .ref tu]), (ps, eQ (gP G) 61 pf)] ∧ k = sz)) args s 0 0 (vL lo)) (F0 mi 4 ls []) := by
    intro k
    induction k with
    | zero => intro i hk; exact absurd hk (by omega)
    | succ k ih =>
      intro i hk hi hno H locs ls hz hV hl
      refine lv_iload_n hx hb d_Tw_nodes_4 rfl (lv_at hl 2 rfl) ?_
      refine lv_bipush (v := 60) hx hb d_Tw_nodes_5 (by decide) ?_
      refine lv_icmp_gt (tgt := 37) hx hb d_Tw_nodes_7 (by decide) (fun c_1 => ?_) (fun c_1 => ?_)
      · replace c_1 : 60 < i + 1 := (nI_ltI (a := 60) (b := i + 1) (by omega) (by omega)).mp c_1
        refine lv_lload_n hx hb d_Tw_nodes_37 rfl (lv_at hl 1 rfl) ?_
        exact W.lret (v := lN (nodesQ Q i)) hx hb hr (v_end hV ⟨by rw [show i = 60 by omega], rfl, hz⟩) hV.2.1.2.2 d_Tw_nodes_38
      · replace c_1 : ¬ 60 < i + 1 := fun z9 => c_1 ((nI_ltI (a := 60) (b := i + 1) (by omega) (by omega)).mpr z9)
        refine lv_aload_n hx hb d_Tw_nodes_10 rfl (lv_at hl 0 rfl) ?_
        refine u_get hx hb hts inTw hown hK hV hn 0 rfl rfl 0 (by decide) w_fl_Tw_11 rfl rfl d_Tw_nodes_11 ?_
        refine lv_iload_n hx hb d_Tw_nodes_14 rfl (lv_at hl 2 rfl) ?_
        refine u_aaldN hx hb hK hV hn 1 rfl (by omega) (by decide) d_Tw_nodes_15 ?_
        rcases o_2 : pf (i + 1) with _ | a_2
        · refine W.eq (g2 := F0 mi 16 ls [.null]) rfl ?_
          have hQ := hP.no (by omega) (by omega) o_2
          refine lv_astoreN (lv' := [(4, .null), (0, .ref tw), (1, .long (lN (nodesQ Q i))), (3, .int (nI (i + 1)))]) hx hb d_Tw_nodes_16 hl (by decide) rfl (fun ls hl => ?_)
          refine lv_aloadN hx hb d_Tw_nodes_18 (lv_at hl 0 rfl) ?_
          refine lv_ifnullN (tgt := 31) hx hb d_Tw_nodes_20 (by decide) ?_
          rw [← nodesQ_n hQ] at hl
          have hno2 : nodesQ Q (i + 1) < 2 ^ 41 := by rw [nodesQ_n hQ]; exact hno
          refine lv_iinc (v := nI (i + 2)) (lv' := [(3, .int (nI (i + 2))), (4, .null), (0, .ref tw), (1, .long (lN (nodesQ Q (i + 1))))]) hx hb d_Tw_nodes_31 hl (k := 3) rfl (nI_add (i + 1) 1) (by decide) rfl (fun ls hl => ?_)
          refine lv_goto (tgt := 4) hx hb d_Tw_nodes_34 (by decide) ?_
          exact ih (i + 1) (by omega) (by omega) hno2 H locs ls hz hV (lv_sub hl [2, 3, 0] rfl)
        · refine W.eq (g2 := F0 mi 16 ls [.ref a_2]) rfl ?_
          obtain ⟨R, hQ, hpc⟩ := hP.yes (by omega) (by omega) o_2
          refine lv_astore (lv' := [(4, .ref a_2), (0, .ref tw), (1, .long (lN (nodesQ Q i))), (3, .int (nI (i + 1)))]) hx hb d_Tw_nodes_16 hl (by decide) rfl (fun ls hl => ?_)
          refine lv_aload hx hb d_Tw_nodes_18 (lv_at hl 0 rfl) ?_
          refine lv_ifnull hx hb d_Tw_nodes_20 ?_
          refine lv_lload_n hx hb d_Tw_nodes_23 rfl (lv_at hl 2 rfl) ?_
          refine lv_aload hx hb d_Tw_nodes_24 (lv_at hl 0 rfl) ?_
          refine v_call (va_runV (As := []) (rest := [.long (lN (nodesQ Q i))]) ⟨hx, hb, hml, hown, hts⟩ (c_Pc_ends l G lo _ _ a_2 _ _ _ R hpc.2.2) (kwV 0 hts w_co_Pc_ends rfl rfl w_it_Pc w_ml_Tw_34 w_im_Pc_ends w_se_Pc__Pc_ends (by decide +kernel) ⟨by decide, by decide⟩) (v_preV hK hV (vU_all (fa1 hpc.1)) hz hpc.1 rfl) rfl rfl hl.1 rfl (lv_room (Nat.le_of_ble_eq_true rfl)) d_Tw_nodes_26 ⟨(Nat.le_of_ble_eq_true rfl), (Nat.le_of_ble_eq_true rfl)⟩) hV (fun r9 V9 H locs hp hV hle => ?_)
          obtain ⟨rfl, rfl, hz⟩ := hp
          replace hV := vS_all (fa1 hpc.1) hV
          have hV : vS G.1 cls lo s H locs (vU V [(tw, eO 5 [.ref ps, .ref bl, .ref sn, .ref tu]), (ps, eQ (gP G) 61 pf)]) := hV
          refine W.eq (g2 := F0 mi 29 ls [.long (lN (endsN R)), .long (lN (nodesQ Q i))]) rfl ?_
          refine e_lor (v := lN (nodesQ Q (i + 1))) hx hb d_Tw_nodes_29 (by rw [nodesQ_s hQ]; exact lN_or hno (ends_lt hpc.2.2)) ?_
          refine lv_lstore_n (lv' := [(1, .long (lN (nodesQ Q (i + 1)))), (4, .ref a_2), (0, .ref tw), (3, .int (nI (i + 1)))]) hx hb d_Tw_nodes_30 rfl hl (by decide) rfl (fun ls hl => ?_)
          have hno2 : nodesQ Q (i + 1) < 2 ^ 41 := by rw [nodesQ_s hQ]; exact Nat.or_lt_two_pow hno (ends_lt hpc.2.2)
          refine lv_iinc (v := nI (i + 2)) (lv' := [(3, .int (nI (i + 2))), (1, .long (lN (nodesQ Q (i + 1)))), (4, .ref a_2), (0, .ref tw)]) hx hb d_Tw_nodes_31 hl (k := 3) rfl (nI_add (i + 1) 1) (by decide) rfl (fun ls hl => ?_)
          refine lv_goto (tgt := 4) hx hb d_Tw_nodes_34 (by decide) ?_
          exact ih (i + 1) (by omega) (by omega) hno2 H locs ls hz hV (lv_sub hl [3, 1, 0] rfl)
  exact loop 61 0 (by omega) (by omega) (show 0 < 2 ^ 41 by decide) H locs ls hz hV (lv_sub hl [2, 1, 0] rfl)

set_option maxHeartbeats 4000000 in
set_option maxRecDepth 100000 in
/-- Town.leads -/
theorem c_Tw_leads (l : Launch) (G : Gx) (lo : Nat) (V : Vw) (sz : Nat) (tw ps bl sn tu : Nat) (pf : Nat → Option Nat) (hn : [tw, ps].Nodup) (Q : Nat → Option PcR) (hP : twP G (vU V [(tw, eO 5 [.ref ps, .ref bl, .ref sn, .ref tu]), (ps, eQ (gP G) 61 pf)]) pf Q) (a b : Nat) (ha : a < 41) (hb1 : b < 41) : Met l y_Tw_leads ws_Tw_leads ({ frames := 1, cells := 0, slots := 0, locals := 22 } : Room) (vPre G lo [.ref tw, .int (nI a), .int (nI b)] (vU V [(tw, eO 5 [.ref ps, .ref bl, .ref sn, .ref tu]), (ps, eQ (gP G) 61 pf)]) sz) (vPost G lo (fun r V' k => r = some (.int (b2i (leadQ Q a b 60))) ∧ V' = vU V [(tw, eO 5 [.ref ps, .ref bl, .ref sn, .ref tu]), (ps, eQ (gP G) 61 pf)] ∧ k = sz)) 0 0 (vL lo) := by
  refine vMet (R := RTw) (by decide) rfl (Nat.le_of_ble_eq_true rfl) ?_
  intro pg ev s mi args below meth cd hx hb hr hml hlk hnm hts hown hK hz hV ls hl
  have hl : lv_has ls 5 [(0, .ref tw), (1, .int (nI a)), (2, .int (nI b))] := hl
  have hV0 := hV
  obtain ⟨H, hH⟩ : ∃ H, H = s.heap := ⟨_, rfl⟩
  obtain ⟨locs, hlocs⟩ : ∃ locs : List Loc, locs = [] := ⟨_, rfl⟩
  rw [← hH, ← hlocs]
  rw [← hH] at hz
  replace hV : vS G.1 cls lo s H locs (vU V [(tw, eO 5 [.ref ps, .ref bl, .ref sn, .ref tu]), (ps, eQ (gP G) 61 pf)]) := by rw [hH, hlocs]; exact hV
  clear hH hlocs hV0
  refine lv_iconst (v := 1) hx hb d_Tw_leads_0 (by decide) ?_
  refine lv_istore_n (lv' := [(3, .int 1), (0, .ref tw), (1, .int (nI a)), (2, .int (nI b))]) hx hb d_Tw_leads_1 rfl hl (by decide) rfl (fun ls hl => ?_)
  have loop : ∀ (k : Nat) (i : Nat), 60 - i < k → (i ≤ 60) → (leadQ Q a b i = false) → ∀ (H : Heap) (locs : List Loc) (ls : Array Slot), H.size = sz → vS G.1 cls lo s H locs (vU V [(tw, eO 5 [.ref ps, .ref bl, .ref sn, .ref tu]), (ps, eQ (gP G) 61 pf)]) → lv_has ls 5 [(0, .ref tw), (1, .int (nI a)), (2, .int (nI b)), (3, .int (nI (i + 1)))] → W pg l ev ({ frames := 1, cells := 0, slots := 0, locals := 22 } : Room) s mi args below meth cd H locs 0 0 (MQ below (vPost G lo (fun r V' k => r = some (.int (b2i (leadQ Q a b 60))) ∧ V' = vU V [(tw, eO 5 [.ref ps, .ref bl, .ref sn, .ref tu]), (ps, eQ (gP G) 61 pf)] ∧ k = sz)) args s 0 0 (vL lo)) (F0 mi 2 ls []) := by
    intro k
    induction k with
    | zero => intro i hk; exact absurd hk (by omega)
    | succ k ih =>
      intro i hk hi hno H locs ls hz hV hl
      refine lv_iload_n hx hb d_Tw_leads_2 rfl (lv_at hl 3 rfl) ?_
      refine lv_bipush (v := 60) hx hb d_Tw_leads_3 (by decide) ?_
      refine lv_icmp_gt (tgt := 39) hx hb d_Tw_leads_5 (by decide) (fun c_1 => ?_) (fun c_1 => ?_)
      · replace c_1 : 60 < i + 1 := (nI_ltI (a := 60) (b := i + 1) (by omega) (by omega)).mp c_1
        refine lv_iconst (v := 0) hx hb d_Tw_leads_39 (by decide) ?_
        exact W.zret (v := 0) hx hb hr (by decide) (v_end hV ⟨by rw [show (60 : Nat) = i by omega, hno]; rfl, rfl, hz⟩) hV.2.1.2.2 d_Tw_leads_40
      · replace c_1 : ¬ 60 < i + 1 := fun z9 => c_1 ((nI_ltI (a := 60) (b := i + 1) (by omega) (by omega)).mpr z9)
        refine lv_aload_n hx hb d_Tw_leads_8 rfl (lv_at hl 0 rfl) ?_
        refine u_get hx hb hts inTw hown hK hV hn 0 rfl rfl 0 (by decide) w_fl_Tw_11 rfl rfl d_Tw_leads_9 ?_
        refine lv_iload_n hx hb d_Tw_leads_12 rfl (lv_at hl 3 rfl) ?_
        refine u_aaldN hx hb hK hV hn 1 rfl (by omega) (by decide) d_Tw_leads_13 ?_
        rcases o_2 : pf (i + 1) with _ | a_2
        · refine W.eq (g2 := F0 mi 14 ls [.null]) rfl ?_
          have hQ := hP.no (by omega) (by omega) o_2
          refine lv_astoreN (lv' := [(4, .null), (0, .ref tw), (1, .int (nI a)), (2, .int (nI b)), (3, .int (nI (i + 1)))]) hx hb d_Tw_leads_14 hl (by decide) rfl (fun ls hl => ?_)
          refine lv_aloadN hx hb d_Tw_leads_16 (lv_at hl 0 rfl) ?_
          refine lv_ifnullN (tgt := 33) hx hb d_Tw_leads_18 (by decide) ?_
          have hno2 : leadQ Q a b (i + 1) = false := by rw [leadQ_n hQ]; exact hno
          refine lv_iinc (v := nI (i + 2)) (lv' := [(3, .int (nI (i + 2))), (4, .null), (0, .ref tw), (1, .int (nI a)), (2, .int (nI b))]) hx hb d_Tw_leads_33 hl (k := 4) rfl (nI_add (i + 1) 1) (by decide) rfl (fun ls hl => ?_)
          refine lv_goto (tgt := 2) hx hb d_Tw_leads_36 (by decide) ?_
          exact ih (i + 1) (by omega) (by omega) hno2 H locs ls hz hV (lv_sub hl [2, 3, 4, 0] rfl)
        · refine W.eq (g2 := F0 mi 14 ls [.ref a_2]) rfl ?_
          obtain ⟨R, hQ, hpc⟩ := hP.yes (by omega) (by omega) o_2
          refine lv_astore (lv' := [(4, .ref a_2), (0, .ref tw), (1, .int (nI a)), (2, .int (nI b)), (3, .int (nI (i + 1)))]) hx hb d_Tw_leads_14 hl (by decide) rfl (fun ls hl => ?_)
          refine lv_aload hx hb d_Tw_leads_16 (lv_at hl 0 rfl) ?_
          refine lv_ifnull hx hb d_Tw_leads_18 ?_
          refine lv_aload hx hb d_Tw_leads_21 (lv_at hl 0 rfl) ?_
          refine lv_iload_n hx hb d_Tw_leads_23 rfl (lv_at hl 2 rfl) ?_
          refine lv_iload_n hx hb d_Tw_leads_24 rfl (lv_at hl 3 rfl) ?_
          refine v_call (va_runV (As := [.int (nI a), .int (nI b)]) (rest := []) ⟨hx, hb, hml, hown, hts⟩ (c_Pc_leads l G lo _ _ a_2 _ _ _ R hpc.2.2 a b ha hb1) (kwV 2 hts w_co_Pc_leads rfl rfl w_it_Pc w_ml_Tw_38 w_im_Pc_leads w_se_Pc__Pc_leads (by decide +kernel) ⟨by decide, by decide⟩) (v_preV hK hV (vU_all (fa1 hpc.1)) hz hpc.1 rfl) rfl rfl hl.1 rfl (lv_room (Nat.le_of_ble_eq_true rfl)) d_Tw_leads_25 ⟨(Nat.le_of_ble_eq_true rfl), (Nat.le_of_ble_eq_true rfl)⟩) hV (fun r9 V9 H locs hp hV hle => ?_)
          obtain ⟨rfl, rfl, hz⟩ := hp
          replace hV := vS_all (fa1 hpc.1) hV
          rcases tf (goesR R a b) with d_3 | d_3
          · have hV : vS G.1 cls lo s H locs (vU V [(tw, eO 5 [.ref ps, .ref bl, .ref sn, .ref tu]), (ps, eQ (gP G) 61 pf)]) := hV
            refine W.eq (g2 := F0 mi 28 ls [.int 1]) (by rw [d_3]; rfl) ?_
            refine lv_if_eq (tgt := 33) hx hb d_Tw_leads_28 (by decide) (fun c_4 => absurd c_4 (by decide)) (fun _ => ?_)
            refine lv_iconst (v := 1) hx hb d_Tw_leads_31 (by decide) ?_
            exact W.zret (v := 1) hx hb hr (by decide) (v_end hV ⟨by rw [leadQ_mono (i := i + 1) (by rw [leadQ_s hQ, d_3]; simp) 60 (by omega)]; rfl, rfl, hz⟩) hV.2.1.2.2 d_Tw_leads_32
          · have hV : vS G.1 cls lo s H locs (vU V [(tw, eO 5 [.ref ps, .ref bl, .ref sn, .ref tu]), (ps, eQ (gP G) 61 pf)]) := hV
            refine W.eq (g2 := F0 mi 28 ls [.int 0]) (by rw [d_3]; rfl) ?_
            refine lv_if_eq (tgt := 33) hx hb d_Tw_leads_28 (by decide) (fun _ => ?_) (fun c_5 => absurd c_5 (by decide))
            have hno2 : leadQ Q a b (i + 1) = false := by rw [leadQ_s hQ, hno, d_3]; rfl
            refine lv_iinc (v := nI (i + 2)) (lv' := [(3, .int (nI (i + 2))), (4, .ref a_2), (0, .ref tw), (1, .int (nI a)), (2, .int (nI b))]) hx hb d_Tw_leads_33 hl (k := 4) rfl (nI_add (i + 1) 1) (by decide) rfl (fun ls hl => ?_)
            refine lv_goto (tgt := 2) hx hb d_Tw_leads_36 (by decide) ?_
            exact ih (i + 1) (by omega) (by omega) hno2 H locs ls hz hV (lv_sub hl [2, 3, 4, 0] rfl)
  exact loop 61 0 (by omega) (by omega) rfl H locs ls hz hV (lv_sub hl [1, 2, 3, 0] rfl)
