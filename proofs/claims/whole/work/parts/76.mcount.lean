def cf1 (B S : Nat → Option (Nat × Nat)) (w q : Nat) : Bool := (spK B S q).isSome && (decide (w = 1 ∧ q < 31) || decide (w = 2 ∧ 31 < q))
def cf2 (Q : Nat → Option PcR) (w q : Nat) : Bool := decide (w = 4) && (goQ Q 0 q 0 60 || goQ Q 0 0 q 60)
theorem cnt_none {f : Nat → Bool} : ∀ k, (∀ j, 1 ≤ j → j ≤ k → f j = false) → cnt f k = 0
  | 0, _ => rfl
  | k + 1, h => by rw [cnt_n (h (k + 1) (by omega) (Nat.le_refl _))]; exact cnt_none k (fun j h1 h2 => h j h1 (by omega))
theorem cnt_shift {f g : Nat → Bool} {a : Nat} : ∀ k, (∀ j, 1 ≤ j → j ≤ k → f (a + j) = g j) → cnt f (a + k) = cnt f a + cnt g k
  | 0, _ => rfl
  | k + 1, h => by
    have ih := cnt_shift k (fun j h1 h2 => h j h1 (by omega))
    have e : cnt f (a + (k + 1)) = cnt f (a + k) + (if f (a + k + 1) then 1 else 0) := rfl
    rw [e, ih, show a + k + 1 = a + (k + 1) from rfl, h (k + 1) (by omega) (Nat.le_refl _)]
    show _ = cnt f a + (cnt g k + _)
    omega
theorem cf1_no {B S : Nat → Option (Nat × Nat)} {w q : Nat} (h1 : ¬ (w = 1 ∧ q < 31)) (h2 : ¬ (w = 2 ∧ 31 < q)) : cf1 B S w q = false := by
  unfold cf1
  rw [decide_eq_false h1, decide_eq_false h2, Bool.or_self, Bool.and_false]
theorem cf1_yes {B S : Nat → Option (Nat × Nat)} {w q : Nat} (h : (w = 1 ∧ q < 31) ∨ (w = 2 ∧ 31 < q)) : cf1 B S w q = (spK B S q).isSome := by
  unfold cf1
  have e : (decide (w = 1 ∧ q < 31) || decide (w = 2 ∧ 31 < q)) = true := by
    rcases h with h | h
    · rw [decide_eq_true h, Bool.true_or]
    · rw [decide_eq_true h, Bool.or_true]
  rw [e, Bool.and_true]
theorem cf_1 {B S : Nat → Option (Nat × Nat)} : cnt (cf1 B S 1) 61 = cnt (fun j => (B j).isSome) 30 := by
  have e := cnt_shift (f := cf1 B S 1) (g := fun _ => false) (a := 30) 31 (fun j h1 h2 => cf1_no (by omega) (by omega))
  rw [cnt_none (f := fun _ => false) 31 (fun _ _ _ => rfl), Nat.add_zero] at e
  have e2 : cnt (cf1 B S 1) 30 = cnt (fun j => (B j).isSome) 30 := cnt_ext (f := cf1 B S 1) (g := fun j => (B j).isSome) 30 (fun j h1 h2 => by
    rw [cf1_yes (Or.inl ⟨rfl, by omega⟩)]
    unfold spK
    rw [if_pos h2])
  exact (congrArg (cnt (cf1 B S 1)) (show (61 : Nat) = 30 + 31 from rfl)).trans (e.trans e2)
theorem cf_2 {B S : Nat → Option (Nat × Nat)} : cnt (cf1 B S 2) 61 = cnt (fun j => (S j).isSome) 30 := by
  have e := cnt_shift (f := cf1 B S 2) (g := fun j => (S j).isSome) (a := 31) 30 (fun j h1 h2 => by
    rw [cf1_yes (Or.inr ⟨rfl, by omega⟩)]
    unfold spK
    rw [if_neg (show ¬ 31 + j ≤ 30 by omega), if_neg (show ¬ 31 + j = 31 by omega), show 31 + j - 31 = j by omega])
  rw [cnt_none (f := cf1 B S 2) 31 (fun j h1 h2 => cf1_no (by omega) (by omega)), Nat.zero_add] at e
  exact (congrArg (cnt (cf1 B S 2)) (show (61 : Nat) = 31 + 30 from rfl)).trans e
theorem cf_0 {B S : Nat → Option (Nat × Nat)} {w : Nat} (h1 : ¬ w = 1) (h2 : ¬ w = 2) : cnt (cf1 B S w) 61 = 0 := cnt_none 61 (fun j _ _ => cf1_no (fun z => h1 z.1) (fun z => h2 z.1))
theorem cg_0 {Q : Nat → Option PcR} {w : Nat} (h : ¬ w = 4) : cnt (cf2 Q w) 40 = 0 := cnt_none 40 (fun j _ _ => by simp only [cf2, decide_eq_false h, Bool.false_and])
theorem cg_4 {Q : Nat → Option PcR} : cnt (cf2 Q 4) 40 = cnt (fun j => (nodesQ Q 60).testBit j) 40 := cnt_ext 40 (fun j h1 _ => by simp only [cf2, decide_eq_true (rfl : (4 : Nat) = 4), Bool.true_and]; exact (nodesQ_go h1 60).symm)
def sgM (b : Int64) (q : Nat) : Int32 := (b >>> ((nI (8 * q)).toInt64 &&& 63)).toInt32 &&& 255
def vaS : Sum Nat Nat → Int32
  | .inl _ => 0
  | .inr z => nI z
def tpS (n : Nat) : Sum Nat Nat → Nat
  | .inl _ => n
  | .inr z => z
def apM (b : Int64) (g : Nat → Int32) (n j c : Nat) : Nat → Int32 := fun p => if n ≤ p ∧ p < n + c then sgM b (j - 1 - (p - n)) else g p
def apS (b : Int64) (g : Nat → Int32) (n : Nat) : Sum Nat Nat → Nat → Int32
  | .inl _ => g
  | .inr z => apM b g n (z - n) (z - n)
theorem apM_0 (b : Int64) (g : Nat → Int32) (n j : Nat) : apM b g n j 0 = g := by
  funext p
  unfold apM
  rw [if_neg (by omega)]
theorem apM_step (b : Int64) (g : Nat → Int32) {n j c q : Nat} (h : c + q + 1 = j) : upd (apM b g n j c) (n + c) (sgM b q) = apM b g n j (c + 1) := by
  funext p
  by_cases hp : p = n + c
  · subst hp
    simp only [upd, if_true, apM]
    rw [if_pos (by omega), show j - 1 - (n + c - n) = q by omega]
  · simp only [upd, if_neg hp, apM]
    by_cases h2 : n ≤ p ∧ p < n + c
    · rw [if_pos h2, if_pos (by omega)]
    · rw [if_neg h2, if_neg (by omega)]

set_option maxHeartbeats 4000000 in
set_option maxRecDepth 100000 in
/-- count -/
theorem c_Mo_count (l : Launch) (G : Gx) (lo : Nat) (V : Vw) (sz : Nat) (m sa pa : Nat) (u1 u2 u3 u6 u8 u9 u10 u11 u12 u13 u14 u15 u16 u17 u18 u19 u20 : Value) (th : Value) (sp al P : Nat → Int32) (Q : Nat → Option PcR) (B S : Nat → Option (Nat × Nat)) (L : List Tri) (hn : [m, sa, pa].Nodup) (hM : mpA P Q) (hS : msA sp al B S) (wh : Int32) : Met l y_Mo_count ws_Mo_count ({ frames := 3, cells := 0, slots := 0, locals := 90 } : Room) (vPre G lo [.ref m, .int wh] (vU V [(m, eO 8 [th, u1, u2, u3, .ref pa, .ref sa, u6, .int (nI L.length), u8, u9, u10, u11, u12, u13, u14, u15, u16, u17, u18, u19, u20]), (sa, eI (gI G) 62 sp), (pa, eI (gI G) 1769 P)]) sz) (vPost G lo (fun r V' k => r = some (.int (vaI (couR (Q, B, S, L) wh))) ∧ V' = vU V [(m, eO 8 [.int (thI (couR (Q, B, S, L) wh)), u1, u2, u3, .ref pa, .ref sa, u6, .int (nI L.length), u8, u9, u10, u11, u12, u13, u14, u15, u16, u17, u18, u19, u20]), (sa, eI (gI G) 62 sp), (pa, eI (gI G) 1769 P)] ∧ k = sz)) 0 0 (vL lo) := by
  refine vMet (R := RMo) (by decide) rfl (Nat.le_of_ble_eq_true rfl) ?_
  intro pg ev s mi args below meth cd hx hb hr hml hlk hnm hts hown hK hz hV ls hl
  have hl : lv_has ls 4 [(0, .ref m), (1, .int wh)] := hl
  have hV0 := hV
  obtain ⟨H, hH⟩ : ∃ H, H = s.heap := ⟨_, rfl⟩
  obtain ⟨locs, hlocs⟩ : ∃ locs : List Loc, locs = [] := ⟨_, rfl⟩
  rw [← hH, ← hlocs]
  rw [← hH] at hz
  replace hV : vS G.1 cls lo s H locs (vU V [(m, eO 8 [th, u1, u2, u3, .ref pa, .ref sa, u6, .int (nI L.length), u8, u9, u10, u11, u12, u13, u14, u15, u16, u17, u18, u19, u20]), (sa, eI (gI G) 62 sp), (pa, eI (gI G) 1769 P)]) := by rw [hH, hlocs]; exact hV
  clear hH hlocs hV0
  refine lv_aload_n hx hb d_Mo_count_0 rfl (lv_at hl 0 rfl) ?_
  refine lv_iload_n hx hb d_Mo_count_1 rfl (lv_at hl 1 rfl) ?_
  refine lv_iconst (v := 0) hx hb d_Mo_count_2 (by decide) ?_
  refine lv_iconst (v := 4) hx hb d_Mo_count_3 (by decide) ?_
  refine v_call (va_runS (As := [.int wh, .int 0, .int 4]) (rest := [.ref m]) ⟨hx, hb, hml, hown, hts⟩ (c_Mo_in l G lo _ _ wh ((0 : Int32)) ((4 : Int32))) (kwS 3 hts w_co_Mo_in rfl rfl w_it_Mo w_ml_Mo_54 w_st_Mo_in (by decide +kernel) ⟨(Nat.le_of_ble_eq_true rfl), (Nat.le_of_ble_eq_true rfl)⟩) (u_preS hK hV hn [] rfl hz) rfl rfl hl.1 rfl (lv_room (Nat.le_of_ble_eq_true rfl)) d_Mo_count_4 ⟨(Nat.le_of_ble_eq_true rfl), (Nat.le_of_ble_eq_true rfl)⟩) hV (fun r9 V9 H locs hp hV hle => ?_)
  obtain ⟨rfl, rfl, hz⟩ := hp
  replace hV := uu_same hV hn [] rfl
  rcases tf (inI wh ((0 : Int32)) ((4 : Int32))) with d_1 | d_1
  · obtain ⟨w9, hw0, hw9, ew⟩ := inI_bd (a := 0) (b := 4) (by decide) (by decide) d_1
    have hX := couR_2 (A := (Q, B, S, L)) hw9
    have hV : vS G.1 cls lo s H locs (vU V [(m, eO 8 [th, u1, u2, u3, .ref pa, .ref sa, u6, .int (nI L.length), u8, u9, u10, u11, u12, u13, u14, u15, u16, u17, u18, u19, u20]), (sa, eI (gI G) 62 sp), (pa, eI (gI G) 1769 P)]) := hV
    refine W.eq (g2 := F0 mi 7 ls [.int 1, .ref m]) (by rw [d_1]; rfl) ?_
    refine lv_iconst (v := 1) hx hb d_Mo_count_7 (by decide) ?_
    refine v_call (va_runV (As := [.int 1, .int 1]) (rest := []) ⟨hx, hb, hml, hown, hts⟩ (c_Mo_asks l G lo _ _ m u1 u2 u3 (.ref pa) (.ref sa) u6 (.int (nI L.length)) u8 u9 u10 u11 u12 u13 u14 u15 u16 u17 u18 u19 u20 th (by simp) 1 1 (by decide) (by decide)) (kwV 2 hts w_co_Mo_asks rfl rfl w_it_Mo w_ml_Mo_132 w_im_Mo_asks w_se_Mo__Mo_asks (by decide +kernel) ⟨(Nat.le_of_ble_eq_true rfl), (Nat.le_of_ble_eq_true rfl)⟩) (u_preV hK hV hn [0] rfl hz 0 rfl rfl) rfl rfl hl.1 rfl (lv_room (Nat.le_of_ble_eq_true rfl)) d_Mo_count_8 ⟨(Nat.le_of_ble_eq_true rfl), (Nat.le_of_ble_eq_true rfl)⟩) hV (fun r9 V9 H locs hp hV hle => ?_)
    obtain ⟨rfl, rfl, hz⟩ := hp
    replace hV := u_back hV hn [0] rfl
    have hV : vS G.1 cls lo s H locs (vU V [(m, eO 8 [.int 0, u1, u2, u3, .ref pa, .ref sa, u6, .int (nI L.length), u8, u9, u10, u11, u12, u13, u14, u15, u16, u17, u18, u19, u20]), (sa, eI (gI G) 62 sp), (pa, eI (gI G) 1769 P)]) := hV
    refine W.eq (g2 := F0 mi 11 ls [.int 1]) rfl ?_
    refine lv_if_ne (tgt := 16) hx hb d_Mo_count_11 (by decide) (fun _ => ?_) (fun c_2 => absurd c_2 (by decide))
    subst ew
    refine lv_iconst (v := 0) hx hb d_Mo_count_16 (by decide) ?_
    refine lv_istore_n (lv' := [(2, .int 0), (0, .ref m), (1, .int (nI w9))]) hx hb d_Mo_count_17 rfl hl (by decide) rfl (fun ls hl => ?_)
    refine lv_iconst (v := 1) hx hb d_Mo_count_18 (by decide) ?_
    refine lv_istore_n (lv' := [(3, .int 1), (2, .int 0), (0, .ref m), (1, .int (nI w9))]) hx hb d_Mo_count_19 rfl hl (by decide) rfl (fun ls hl => ?_)
    have l2 : ∀ (k : Nat) (i : Nat), 40 - i < k → (i ≤ 40) → ∀ (H : Heap) (locs : List Loc) (ls : Array Slot), H.size = sz → vS G.1 cls lo s H locs (vU V [(m, eO 8 [.int 0, u1, u2, u3, .ref pa, .ref sa, u6, .int (nI L.length), u8, u9, u10, u11, u12, u13, u14, u15, u16, u17, u18, u19, u20]), (sa, eI (gI G) 62 sp), (pa, eI (gI G) 1769 P)]) → lv_has ls 4 [(0, .ref m), (1, .int (nI w9)), (2, .int (nI (cnt (cf1 B S w9) 61 + cnt (cf2 Q w9) i))), (3, .int (nI (i + 1)))] → W pg l ev ({ frames := 3, cells := 0, slots := 0, locals := 90 } : Room) s mi args below meth cd H locs 0 0 (MQ below (vPost G lo (fun r V' k => r = some (.int (vaI (couR (Q, B, S, L) (nI w9)))) ∧ V' = vU V [(m, eO 8 [.int (thI (couR (Q, B, S, L) (nI w9))), u1, u2, u3, .ref pa, .ref sa, u6, .int (nI L.length), u8, u9, u10, u11, u12, u13, u14, u15, u16, u17, u18, u19, u20]), (sa, eI (gI G) 62 sp), (pa, eI (gI G) 1769 P)] ∧ k = sz)) args s 0 0 (vL lo)) (F0 mi 68 ls []) := by
      intro k
      induction k with
      | zero => intro i hk; exact absurd hk (by omega)
      | succ k ih =>
        intro i hk hi H locs ls hz hV hl
        refine lv_iload_n hx hb d_Mo_count_68 rfl (lv_at hl 3 rfl) ?_
        refine lv_bipush (v := 41) hx hb d_Mo_count_69 (by decide) ?_
        refine lv_icmp_ge (tgt := 108) hx hb d_Mo_count_71 (by decide) (fun c_3 => ?_) (fun c_3 => ?_)
        · replace c_3 : 41 ≤ i + 1 := (nI_leI (a := 41) (b := i + 1) (by omega) (by omega)).mp c_3
          have i40 : i = 40 := by omega
          have hc1 := cnt_le (cf1 B S w9) 61
          have hc2 := cnt_le (cf2 Q w9) i
          refine lv_iload_n hx hb d_Mo_count_108 rfl (lv_at hl 1 rfl) ?_
          refine lv_if_ne (tgt := 119) hx hb d_Mo_count_109 (by decide) (fun c_4 => ?_) (fun c_4 => ?_)
          · replace c_4 : ¬ w9 = 0 := fun z9 => c_4 ((nI_eq (a := w9) (b := 0) (by omega) (by omega)).mpr z9)
            refine lv_iload_n hx hb d_Mo_count_119 rfl (lv_at hl 1 rfl) ?_
            refine lv_iconst (v := 3) hx hb d_Mo_count_120 (by decide) ?_
            refine lv_icmp_ne (tgt := 131) hx hb d_Mo_count_121 (by decide) (fun c_5 => ?_) (fun c_5 => ?_)
            · replace c_5 : ¬ w9 = 3 := fun z9 => c_5 ((nI_eq (a := w9) (b := 3) (by omega) (by omega)).mpr z9)
              have hfin : nI (cntA (Q, B, S, L) w9) = nI (cnt (cf1 B S w9) 61 + cnt (cf2 Q w9) i) := by
                rw [i40]
                rcases (show w9 = 1 ∨ w9 = 2 ∨ w9 = 4 by omega) with z | z | z
                · rw [z, cf_1, cg_0 (by decide)]; rfl
                · rw [z, cf_2, cg_0 (by decide)]; rfl
                · rw [z, cf_0 (by decide) (by decide), cg_4, Nat.zero_add]; rfl
              refine lv_iload_n hx hb d_Mo_count_131 rfl (lv_at hl 2 rfl) ?_
              exact W.iret (v := nI (cnt (cf1 B S w9) 61 + cnt (cf2 Q w9) i)) hx hb hr (v_end hV ⟨by rw [hX, hfin]; rfl, by rw [hX]; rfl, hz⟩) hV.2.1.2.2 d_Mo_count_132
            · replace c_5 : w9 = 3 := (nI_eq (a := w9) (b := 3) (by omega) (by omega)).mp c_5
              have hfin : nI (cntA (Q, B, S, L) w9) = nI L.length := by rw [show w9 = 3 by omega]; rfl
              refine lv_aload_n hx hb d_Mo_count_124 rfl (lv_at hl 0 rfl) ?_
              refine u_get hx hb hts inMo hown hK hV hn 0 rfl rfl 7 (by decide) w_fl_Mo_111 rfl rfl d_Mo_count_125 ?_
              refine lv_goto (tgt := 132) hx hb d_Mo_count_128 (by decide) ?_
              exact W.iret (v := nI L.length) hx hb hr (v_end hV ⟨by rw [hX, hfin]; rfl, by rw [hX]; rfl, hz⟩) hV.2.1.2.2 d_Mo_count_132
          · replace c_4 : w9 = 0 := (nI_eq (a := w9) (b := 0) (by omega) (by omega)).mp c_4
            have hfin : nI (cntA (Q, B, S, L) w9) = nI (cnt (fun j => (Q j).isSome) 60) := by rw [show w9 = 0 by omega]; rfl
            refine lv_aload_n hx hb d_Mo_count_112 rfl (lv_at hl 0 rfl) ?_
            refine v_call (va_runV (As := []) (rest := []) ⟨hx, hb, hml, hown, hts⟩ (c_Mo_pieces l G lo _ _ m pa (.int 0) u1 u2 u3 (.ref sa) u6 (.int (nI L.length)) u8 u9 u10 u11 u12 u13 u14 u15 u16 u17 u18 u19 u20 P Q (nd_sub hn [0, 2] (by decide) rfl) hM) (kwV 0 hts w_co_Mo_pieces rfl rfl w_it_Mo w_ml_Mo_126 w_im_Mo_pieces w_se_Mo__Mo_pieces (by decide +kernel) ⟨(Nat.le_of_ble_eq_true rfl), (Nat.le_of_ble_eq_true rfl)⟩) (u_preV hK hV hn [0, 2] rfl hz 0 rfl rfl) rfl rfl hl.1 rfl (lv_room (Nat.le_of_ble_eq_true rfl)) d_Mo_count_113 ⟨(Nat.le_of_ble_eq_true rfl), (Nat.le_of_ble_eq_true rfl)⟩) hV (fun r9 V9 H locs hp hV hle => ?_)
            obtain ⟨rfl, rfl, hz⟩ := hp
            replace hV := uu_same hV hn [0, 2] rfl
            have hV : vS G.1 cls lo s H locs (vU V [(m, eO 8 [.int 0, u1, u2, u3, .ref pa, .ref sa, u6, .int (nI L.length), u8, u9, u10, u11, u12, u13, u14, u15, u16, u17, u18, u19, u20]), (sa, eI (gI G) 62 sp), (pa, eI (gI G) 1769 P)]) := hV
            refine W.eq (g2 := F0 mi 116 ls [.int (nI (cnt (fun j => (Q j).isSome) 60))]) rfl ?_
            refine lv_goto (tgt := 132) hx hb d_Mo_count_116 (by decide) ?_
            exact W.iret (v := nI (cnt (fun j => (Q j).isSome) 60)) hx hb hr (v_end hV ⟨by rw [hX, hfin]; rfl, by rw [hX]; rfl, hz⟩) hV.2.1.2.2 d_Mo_count_132
        · replace c_3 : ¬ 41 ≤ i + 1 := fun z9 => c_3 ((nI_leI (a := 41) (b := i + 1) (by omega) (by omega)).mpr z9)
          have hc1 := cnt_le (cf1 B S w9) 61
          have hc2 := cnt_le (cf2 Q w9) i
          refine lv_iload_n hx hb d_Mo_count_74 rfl (lv_at hl 1 rfl) ?_
          refine lv_iconst (v := 4) hx hb d_Mo_count_75 (by decide) ?_
          refine lv_icmp_ne (tgt := 102) hx hb d_Mo_count_76 (by decide) (fun c_6 => ?_) (fun c_6 => ?_)
          · replace c_6 : ¬ w9 = 4 := fun z9 => c_6 ((nI_eq (a := w9) (b := 4) (by omega) (by omega)).mpr z9)
            have hs9 : cnt (cf2 Q w9) (i + 1) = cnt (cf2 Q w9) i := cnt_n (by simp only [cf2, decide_eq_false c_6, Bool.false_and])
            rw [← hs9] at hl
            refine lv_iinc (v := nI (i + 2)) (lv' := [(3, .int (nI (i + 2))), (0, .ref m), (1, .int (nI w9)), (2, .int (nI (cnt (cf1 B S w9) 61 + cnt (cf2 Q w9) (i + 1))))]) hx hb d_Mo_count_102 hl (k := 3) rfl (nI_add (i + 1) 1) (by decide) rfl (fun ls hl => ?_)
            refine lv_goto (tgt := 68) hx hb d_Mo_count_105 (by decide) ?_
            exact ih (i + 1) (by omega) (by omega) H locs ls hz hV (lv_sub hl [1, 2, 3, 0] rfl)
          · replace c_6 : w9 = 4 := (nI_eq (a := w9) (b := 4) (by omega) (by omega)).mp c_6
            have e4 := c_6
            refine lv_aload_n hx hb d_Mo_count_79 rfl (lv_at hl 0 rfl) ?_
            refine lv_iload_n hx hb d_Mo_count_80 rfl (lv_at hl 3 rfl) ?_
            refine lv_iconst (v := 0) hx hb d_Mo_count_81 (by decide) ?_
            refine lv_iconst (v := 0) hx hb d_Mo_count_82 (by decide) ?_
            refine v_call (va_runV (As := [.int (nI (i + 1)), .int 0, .int 0]) (rest := []) ⟨hx, hb, hml, hown, hts⟩ (c_Mo_goes l G lo _ _ m pa (.int 0) u1 u2 u3 (.ref sa) u6 (.int (nI L.length)) u8 u9 u10 u11 u12 u13 u14 u15 u16 u17 u18 u19 u20 P Q (nd_sub hn [0, 2] (by decide) rfl) hM (i + 1) 0 0 (by omega) (by omega) (by decide)) (kwV 3 hts w_co_Mo_goes rfl rfl w_it_Mo w_ml_Mo_148 w_im_Mo_goes w_se_Mo__Mo_goes (by decide +kernel) ⟨(Nat.le_of_ble_eq_true rfl), (Nat.le_of_ble_eq_true rfl)⟩) (u_preV hK hV hn [0, 2] rfl hz 0 rfl rfl) rfl rfl hl.1 rfl (lv_room (Nat.le_of_ble_eq_true rfl)) d_Mo_count_83 ⟨(Nat.le_of_ble_eq_true rfl), (Nat.le_of_ble_eq_true rfl)⟩) hV (fun r9 V9 H locs hp hV hle => ?_)
            obtain ⟨rfl, rfl, hz⟩ := hp
            replace hV := uu_same hV hn [0, 2] rfl
            rcases tf (goQ Q 0 (i + 1) 0 60) with d_7 | d_7
            · have hs9 : cnt (cf2 Q w9) (i + 1) = cnt (cf2 Q w9) i + 1 := cnt_y (by simp only [cf2, decide_eq_true e4, Bool.true_and, d_7, Bool.true_or])
              have hV : vS G.1 cls lo s H locs (vU V [(m, eO 8 [.int 0, u1, u2, u3, .ref pa, .ref sa, u6, .int (nI L.length), u8, u9, u10, u11, u12, u13, u14, u15, u16, u17, u18, u19, u20]), (sa, eI (gI G) 62 sp), (pa, eI (gI G) 1769 P)]) := hV
              refine W.eq (g2 := F0 mi 86 ls [.int 1]) (by rw [d_7]; rfl) ?_
              refine lv_if_ne (tgt := 99) hx hb d_Mo_count_86 (by decide) (fun _ => ?_) (fun c_8 => absurd c_8 (by decide))
              refine lv_iinc (v := nI (cnt (cf1 B S w9) 61 + cnt (cf2 Q w9) (i + 1))) (lv' := [(2, .int (nI (cnt (cf1 B S w9) 61 + cnt (cf2 Q w9) (i + 1)))), (0, .ref m), (1, .int (nI w9)), (3, .int (nI (i + 1)))]) hx hb d_Mo_count_99 hl (k := 2) rfl (by rw [hs9]; exact nI_add (cnt (cf1 B S w9) 61 + cnt (cf2 Q w9) i) 1) (by decide) rfl (fun ls hl => ?_)
              refine lv_iinc (v := nI (i + 2)) (lv' := [(3, .int (nI (i + 2))), (2, .int (nI (cnt (cf1 B S w9) 61 + cnt (cf2 Q w9) (i + 1)))), (0, .ref m), (1, .int (nI w9))]) hx hb d_Mo_count_102 hl (k := 3) rfl (nI_add (i + 1) 1) (by decide) rfl (fun ls hl => ?_)
              refine lv_goto (tgt := 68) hx hb d_Mo_count_105 (by decide) ?_
              exact ih (i + 1) (by omega) (by omega) H locs ls hz hV (lv_sub hl [2, 3, 1, 0] rfl)
            · have g1 := d_7
              have hV : vS G.1 cls lo s H locs (vU V [(m, eO 8 [.int 0, u1, u2, u3, .ref pa, .ref sa, u6, .int (nI L.length), u8, u9, u10, u11, u12, u13, u14, u15, u16, u17, u18, u19, u20]), (sa, eI (gI G) 62 sp), (pa, eI (gI G) 1769 P)]) := hV
              refine W.eq (g2 := F0 mi 86 ls [.int 0]) (by rw [d_7]; rfl) ?_
              refine lv_if_ne (tgt := 99) hx hb d_Mo_count_86 (by decide) (fun c_9 => absurd c_9 (by decide)) (fun _ => ?_)
              refine lv_aload_n hx hb d_Mo_count_89 rfl (lv_at hl 0 rfl) ?_
              refine lv_iconst (v := 0) hx hb d_Mo_count_90 (by decide) ?_
              refine lv_iload_n hx hb d_Mo_count_91 rfl (lv_at hl 3 rfl) ?_
              refine lv_iconst (v := 0) hx hb d_Mo_count_92 (by decide) ?_
              refine v_call (va_runV (As := [.int 0, .int (nI (i + 1)), .int 0]) (rest := []) ⟨hx, hb, hml, hown, hts⟩ (c_Mo_goes l G lo _ _ m pa (.int 0) u1 u2 u3 (.ref sa) u6 (.int (nI L.length)) u8 u9 u10 u11 u12 u13 u14 u15 u16 u17 u18 u19 u20 P Q (nd_sub hn [0, 2] (by decide) rfl) hM 0 (i + 1) 0 (by omega) (by omega) (by decide)) (kwV 3 hts w_co_Mo_goes rfl rfl w_it_Mo w_ml_Mo_148 w_im_Mo_goes w_se_Mo__Mo_goes (by decide +kernel) ⟨(Nat.le_of_ble_eq_true rfl), (Nat.le_of_ble_eq_true rfl)⟩) (u_preV hK hV hn [0, 2] rfl hz 0 rfl rfl) rfl rfl hl.1 rfl (lv_room (Nat.le_of_ble_eq_true rfl)) d_Mo_count_93 ⟨(Nat.le_of_ble_eq_true rfl), (Nat.le_of_ble_eq_true rfl)⟩) hV (fun r9 V9 H locs hp hV hle => ?_)
              obtain ⟨rfl, rfl, hz⟩ := hp
              replace hV := uu_same hV hn [0, 2] rfl
              rcases tf (goQ Q 0 0 (i + 1) 60) with d_10 | d_10
              · have hs9 : cnt (cf2 Q w9) (i + 1) = cnt (cf2 Q w9) i + 1 := cnt_y (by simp only [cf2, decide_eq_true e4, Bool.true_and, d_10, Bool.or_true])
                have hV : vS G.1 cls lo s H locs (vU V [(m, eO 8 [.int 0, u1, u2, u3, .ref pa, .ref sa, u6, .int (nI L.length), u8, u9, u10, u11, u12, u13, u14, u15, u16, u17, u18, u19, u20]), (sa, eI (gI G) 62 sp), (pa, eI (gI G) 1769 P)]) := hV
                refine W.eq (g2 := F0 mi 96 ls [.int 1]) (by rw [d_10]; rfl) ?_
                refine lv_if_eq (tgt := 102) hx hb d_Mo_count_96 (by decide) (fun c_11 => absurd c_11 (by decide)) (fun _ => ?_)
                refine lv_iinc (v := nI (cnt (cf1 B S w9) 61 + cnt (cf2 Q w9) (i + 1))) (lv' := [(2, .int (nI (cnt (cf1 B S w9) 61 + cnt (cf2 Q w9) (i + 1)))), (0, .ref m), (1, .int (nI w9)), (3, .int (nI (i + 1)))]) hx hb d_Mo_count_99 hl (k := 2) rfl (by rw [hs9]; exact nI_add (cnt (cf1 B S w9) 61 + cnt (cf2 Q w9) i) 1) (by decide) rfl (fun ls hl => ?_)
                refine lv_iinc (v := nI (i + 2)) (lv' := [(3, .int (nI (i + 2))), (2, .int (nI (cnt (cf1 B S w9) 61 + cnt (cf2 Q w9) (i + 1)))), (0, .ref m), (1, .int (nI w9))]) hx hb d_Mo_count_102 hl (k := 3) rfl (nI_add (i + 1) 1) (by decide) rfl (fun ls hl => ?_)
                refine lv_goto (tgt := 68) hx hb d_Mo_count_105 (by decide) ?_
                exact ih (i + 1) (by omega) (by omega) H locs ls hz hV (lv_sub hl [2, 3, 1, 0] rfl)
              · have hs9 : cnt (cf2 Q w9) (i + 1) = cnt (cf2 Q w9) i := cnt_n (by simp only [cf2, g1, d_10, Bool.or_self, Bool.and_false])
                rw [← hs9] at hl
                have hV : vS G.1 cls lo s H locs (vU V [(m, eO 8 [.int 0, u1, u2, u3, .ref pa, .ref sa, u6, .int (nI L.length), u8, u9, u10, u11, u12, u13, u14, u15, u16, u17, u18, u19, u20]), (sa, eI (gI G) 62 sp), (pa, eI (gI G) 1769 P)]) := hV
                refine W.eq (g2 := F0 mi 96 ls [.int 0]) (by rw [d_10]; rfl) ?_
                refine lv_if_eq (tgt := 102) hx hb d_Mo_count_96 (by decide) (fun _ => ?_) (fun c_12 => absurd c_12 (by decide))
                refine lv_iinc (v := nI (i + 2)) (lv' := [(3, .int (nI (i + 2))), (0, .ref m), (1, .int (nI w9)), (2, .int (nI (cnt (cf1 B S w9) 61 + cnt (cf2 Q w9) (i + 1))))]) hx hb d_Mo_count_102 hl (k := 3) rfl (nI_add (i + 1) 1) (by decide) rfl (fun ls hl => ?_)
                refine lv_goto (tgt := 68) hx hb d_Mo_count_105 (by decide) ?_
                exact ih (i + 1) (by omega) (by omega) H locs ls hz hV (lv_sub hl [1, 2, 3, 0] rfl)
    have l1 : ∀ (k : Nat) (i : Nat), 61 - i < k → (i ≤ 61) → ∀ (H : Heap) (locs : List Loc) (ls : Array Slot), H.size = sz → vS G.1 cls lo s H locs (vU V [(m, eO 8 [.int 0, u1, u2, u3, .ref pa, .ref sa, u6, .int (nI L.length), u8, u9, u10, u11, u12, u13, u14, u15, u16, u17, u18, u19, u20]), (sa, eI (gI G) 62 sp), (pa, eI (gI G) 1769 P)]) → lv_has ls 4 [(0, .ref m), (1, .int (nI w9)), (2, .int (nI (cnt (cf1 B S w9) i))), (3, .int (nI (i + 1)))] → W pg l ev ({ frames := 3, cells := 0, slots := 0, locals := 90 } : Room) s mi args below meth cd H locs 0 0 (MQ below (vPost G lo (fun r V' k => r = some (.int (vaI (couR (Q, B, S, L) (nI w9)))) ∧ V' = vU V [(m, eO 8 [.int (thI (couR (Q, B, S, L) (nI w9))), u1, u2, u3, .ref pa, .ref sa, u6, .int (nI L.length), u8, u9, u10, u11, u12, u13, u14, u15, u16, u17, u18, u19, u20]), (sa, eI (gI G) 62 sp), (pa, eI (gI G) 1769 P)] ∧ k = sz)) args s 0 0 (vL lo)) (F0 mi 20 ls []) := by
      intro k
      induction k with
      | zero => intro i hk; exact absurd hk (by omega)
      | succ k ih =>
        intro i hk hi H locs ls hz hV hl
        refine lv_iload_n hx hb d_Mo_count_20 rfl (lv_at hl 3 rfl) ?_
        refine lv_bipush (v := 62) hx hb d_Mo_count_21 (by decide) ?_
        refine lv_icmp_ge (tgt := 66) hx hb d_Mo_count_23 (by decide) (fun c_13 => ?_) (fun c_13 => ?_)
        · replace c_13 : 62 ≤ i + 1 := (nI_leI (a := 62) (b := i + 1) (by omega) (by omega)).mp c_13
          refine lv_iconst (v := 1) hx hb d_Mo_count_66 (by decide) ?_
          refine lv_istore_n (lv' := [(3, .int 1), (0, .ref m), (1, .int (nI w9)), (2, .int (nI (cnt (cf1 B S w9) i)))]) hx hb d_Mo_count_67 rfl hl (by decide) rfl (fun ls hl => ?_)
          rw [show i = 61 by omega] at hl
          exact l2 41 0 (by omega) (by omega) H locs ls hz hV (lv_sub hl [1, 2, 3, 0] rfl)
        · replace c_13 : ¬ 62 ≤ i + 1 := fun z9 => c_13 ((nI_leI (a := 62) (b := i + 1) (by omega) (by omega)).mpr z9)
          rcases msA_k hS (k := i + 1) (by omega) (by omega) with ⟨h0, ho9⟩ | ⟨x9, y9, h0, h01, ho9, hx1, hx2, hy2⟩
          · have hs9 : cnt (cf1 B S w9) (i + 1) = cnt (cf1 B S w9) i := cnt_n (by unfold cf1; rw [ho9]; rfl)
            rw [← hs9] at hl
            refine lv_aload_n hx hb d_Mo_count_26 rfl (lv_at hl 0 rfl) ?_
            refine u_get hx hb hts inMo hown hK hV hn 0 rfl rfl 5 (by decide) w_fl_Mo_20 rfl rfl d_Mo_count_27 ?_
            refine lv_iload_n hx hb d_Mo_count_30 rfl (lv_at hl 3 rfl) ?_
            refine u_ialdN hx hb hK hV hn 1 rfl (by omega) (by decide) d_Mo_count_31 ?_
            rw [h0]
            refine lv_if_le (tgt := 60) hx hb d_Mo_count_32 (by decide) (fun _ => ?_) (fun c_14 => absurd c_14 (by decide))
            refine lv_iinc (v := nI (i + 2)) (lv' := [(3, .int (nI (i + 2))), (0, .ref m), (1, .int (nI w9)), (2, .int (nI (cnt (cf1 B S w9) (i + 1))))]) hx hb d_Mo_count_60 hl (k := 3) rfl (nI_add (i + 1) 1) (by decide) rfl (fun ls hl => ?_)
            refine lv_goto (tgt := 20) hx hb d_Mo_count_63 (by decide) ?_
            exact ih (i + 1) (by omega) (by omega) H locs ls hz hV (lv_sub hl [1, 2, 3, 0] rfl)
          · have hc1 := cnt_le (cf1 B S w9) i
            refine lv_aload_n hx hb d_Mo_count_26 rfl (lv_at hl 0 rfl) ?_
            refine u_get hx hb hts inMo hown hK hV hn 0 rfl rfl 5 (by decide) w_fl_Mo_20 rfl rfl d_Mo_count_27 ?_
            refine lv_iload_n hx hb d_Mo_count_30 rfl (lv_at hl 3 rfl) ?_
            refine u_ialdN hx hb hK hV hn 1 rfl (by omega) (by decide) d_Mo_count_31 ?_
            rw [h0]
            refine lv_if_le (tgt := 60) hx hb d_Mo_count_32 (by decide) (fun c_15 => absurd c_15 (fun z => absurd ((nI_leI (a := x9) (b := 0) (by omega) (by decide)).mp z) (by omega))) (fun c_15 => ?_)
            replace c_15 : ¬ x9 ≤ 0 := fun z9 => c_15 ((nI_leI (a := x9) (b := 0) (by omega) (by omega)).mpr z9)
            refine lv_iload_n hx hb d_Mo_count_35 rfl (lv_at hl 1 rfl) ?_
            refine lv_iconst (v := 1) hx hb d_Mo_count_36 (by decide) ?_
            refine lv_icmp_ne (tgt := 46) hx hb d_Mo_count_37 (by decide) (fun c_16 => ?_) (fun c_16 => ?_)
            · replace c_16 : ¬ w9 = 1 := fun z9 => c_16 ((nI_eq (a := w9) (b := 1) (by omega) (by omega)).mpr z9)
              refine lv_iload_n hx hb d_Mo_count_46 rfl (lv_at hl 1 rfl) ?_
              refine lv_iconst (v := 2) hx hb d_Mo_count_47 (by decide) ?_
              refine lv_icmp_ne (tgt := 60) hx hb d_Mo_count_48 (by decide) (fun c_17 => ?_) (fun c_17 => ?_)
              · replace c_17 : ¬ w9 = 2 := fun z9 => c_17 ((nI_eq (a := w9) (b := 2) (by omega) (by omega)).mpr z9)
                have hs9 : cnt (cf1 B S w9) (i + 1) = cnt (cf1 B S w9) i := cnt_n (by exact cf1_no (by omega) (by omega))
                rw [← hs9] at hl
                refine lv_iinc (v := nI (i + 2)) (lv' := [(3, .int (nI (i + 2))), (0, .ref m), (1, .int (nI w9)), (2, .int (nI (cnt (cf1 B S w9) (i + 1))))]) hx hb d_Mo_count_60 hl (k := 3) rfl (nI_add (i + 1) 1) (by decide) rfl (fun ls hl => ?_)
                refine lv_goto (tgt := 20) hx hb d_Mo_count_63 (by decide) ?_
                exact ih (i + 1) (by omega) (by omega) H locs ls hz hV (lv_sub hl [1, 2, 3, 0] rfl)
              · replace c_17 : w9 = 2 := (nI_eq (a := w9) (b := 2) (by omega) (by omega)).mp c_17
                refine lv_iload_n hx hb d_Mo_count_51 rfl (lv_at hl 3 rfl) ?_
                refine lv_bipush (v := 31) hx hb d_Mo_count_52 (by decide) ?_
                refine lv_icmp_le (tgt := 60) hx hb d_Mo_count_54 (by decide) (fun c_18 => ?_) (fun c_18 => ?_)
                · replace c_18 : i + 1 ≤ 31 := (nI_leI (a := i + 1) (b := 31) (by omega) (by omega)).mp c_18
                  have hs9 : cnt (cf1 B S w9) (i + 1) = cnt (cf1 B S w9) i := cnt_n (by exact cf1_no (by omega) (by omega))
                  rw [← hs9] at hl
                  refine lv_iinc (v := nI (i + 2)) (lv' := [(3, .int (nI (i + 2))), (0, .ref m), (1, .int (nI w9)), (2, .int (nI (cnt (cf1 B S w9) (i + 1))))]) hx hb d_Mo_count_60 hl (k := 3) rfl (nI_add (i + 1) 1) (by decide) rfl (fun ls hl => ?_)
                  refine lv_goto (tgt := 20) hx hb d_Mo_count_63 (by decide) ?_
                  exact ih (i + 1) (by omega) (by omega) H locs ls hz hV (lv_sub hl [1, 2, 3, 0] rfl)
                · replace c_18 : ¬ i + 1 ≤ 31 := fun z9 => c_18 ((nI_leI (a := i + 1) (b := 31) (by omega) (by omega)).mpr z9)
                  have hs9 : cnt (cf1 B S w9) (i + 1) = cnt (cf1 B S w9) i + 1 := cnt_y (by rw [cf1_yes (by omega), ho9]; rfl)
                  refine lv_iinc (v := nI (cnt (cf1 B S w9) (i + 1))) (lv' := [(2, .int (nI (cnt (cf1 B S w9) (i + 1)))), (0, .ref m), (1, .int (nI w9)), (3, .int (nI (i + 1)))]) hx hb d_Mo_count_57 hl (k := 2) rfl (by rw [hs9]; exact nI_add (cnt (cf1 B S w9) i) 1) (by decide) rfl (fun ls hl => ?_)
                  refine lv_iinc (v := nI (i + 2)) (lv' := [(3, .int (nI (i + 2))), (2, .int (nI (cnt (cf1 B S w9) (i + 1)))), (0, .ref m), (1, .int (nI w9))]) hx hb d_Mo_count_60 hl (k := 3) rfl (nI_add (i + 1) 1) (by decide) rfl (fun ls hl => ?_)
                  refine lv_goto (tgt := 20) hx hb d_Mo_count_63 (by decide) ?_
                  exact ih (i + 1) (by omega) (by omega) H locs ls hz hV (lv_sub hl [2, 3, 1, 0] rfl)
            · replace c_16 : w9 = 1 := (nI_eq (a := w9) (b := 1) (by omega) (by omega)).mp c_16
              refine lv_iload_n hx hb d_Mo_count_40 rfl (lv_at hl 3 rfl) ?_
              refine lv_bipush (v := 31) hx hb d_Mo_count_41 (by decide) ?_
              refine lv_icmp_lt (tgt := 57) hx hb d_Mo_count_43 (by decide) (fun c_19 => ?_) (fun c_19 => ?_)
              · replace c_19 : i + 1 < 31 := (nI_ltI (a := i + 1) (b := 31) (by omega) (by omega)).mp c_19
                have hs9 : cnt (cf1 B S w9) (i + 1) = cnt (cf1 B S w9) i + 1 := cnt_y (by rw [cf1_yes (by omega), ho9]; rfl)
                refine lv_iinc (v := nI (cnt (cf1 B S w9) (i + 1))) (lv' := [(2, .int (nI (cnt (cf1 B S w9) (i + 1)))), (0, .ref m), (1, .int (nI w9)), (3, .int (nI (i + 1)))]) hx hb d_Mo_count_57 hl (k := 2) rfl (by rw [hs9]; exact nI_add (cnt (cf1 B S w9) i) 1) (by decide) rfl (fun ls hl => ?_)
                refine lv_iinc (v := nI (i + 2)) (lv' := [(3, .int (nI (i + 2))), (2, .int (nI (cnt (cf1 B S w9) (i + 1)))), (0, .ref m), (1, .int (nI w9))]) hx hb d_Mo_count_60 hl (k := 3) rfl (nI_add (i + 1) 1) (by decide) rfl (fun ls hl => ?_)
                refine lv_goto (tgt := 20) hx hb d_Mo_count_63 (by decide) ?_
                exact ih (i + 1) (by omega) (by omega) H locs ls hz hV (lv_sub hl [2, 3, 1, 0] rfl)
              · replace c_19 : ¬ i + 1 < 31 := fun z9 => c_19 ((nI_ltI (a := i + 1) (b := 31) (by omega) (by omega)).mpr z9)
                refine lv_iload_n hx hb d_Mo_count_46 rfl (lv_at hl 1 rfl) ?_
                refine lv_iconst (v := 2) hx hb d_Mo_count_47 (by decide) ?_
                refine lv_icmp_ne (tgt := 60) hx hb d_Mo_count_48 (by decide) (fun _ => ?_) (fun c_20 => absurd ((nI_eq (a := w9) (b := 2) (by omega) (by omega)).mp c_20) (by omega))
                have hs9 : cnt (cf1 B S w9) (i + 1) = cnt (cf1 B S w9) i := cnt_n (by exact cf1_no (by omega) (by omega))
                rw [← hs9] at hl
                refine lv_iinc (v := nI (i + 2)) (lv' := [(3, .int (nI (i + 2))), (0, .ref m), (1, .int (nI w9)), (2, .int (nI (cnt (cf1 B S w9) (i + 1))))]) hx hb d_Mo_count_60 hl (k := 3) rfl (nI_add (i + 1) 1) (by decide) rfl (fun ls hl => ?_)
                refine lv_goto (tgt := 20) hx hb d_Mo_count_63 (by decide) ?_
                exact ih (i + 1) (by omega) (by omega) H locs ls hz hV (lv_sub hl [1, 2, 3, 0] rfl)
    exact l1 62 0 (by omega) (by omega) H locs ls hz hV (lv_sub hl [2, 3, 1, 0] rfl)
  · have hX : couR (Q, B, S, L) wh = .inl 1 := if_pos (inI_lt (a := 0) (b := 4) d_1)
    have hV : vS G.1 cls lo s H locs (vU V [(m, eO 8 [th, u1, u2, u3, .ref pa, .ref sa, u6, .int (nI L.length), u8, u9, u10, u11, u12, u13, u14, u15, u16, u17, u18, u19, u20]), (sa, eI (gI G) 62 sp), (pa, eI (gI G) 1769 P)]) := hV
    refine W.eq (g2 := F0 mi 7 ls [.int 0, .ref m]) (by rw [d_1]; rfl) ?_
    refine lv_iconst (v := 1) hx hb d_Mo_count_7 (by decide) ?_
    refine v_call (va_runV (As := [.int 0, .int 1]) (rest := []) ⟨hx, hb, hml, hown, hts⟩ (c_Mo_asks l G lo _ _ m u1 u2 u3 (.ref pa) (.ref sa) u6 (.int (nI L.length)) u8 u9 u10 u11 u12 u13 u14 u15 u16 u17 u18 u19 u20 th (by simp) 0 1 (by decide) (by decide)) (kwV 2 hts w_co_Mo_asks rfl rfl w_it_Mo w_ml_Mo_132 w_im_Mo_asks w_se_Mo__Mo_asks (by decide +kernel) ⟨(Nat.le_of_ble_eq_true rfl), (Nat.le_of_ble_eq_true rfl)⟩) (u_preV hK hV hn [0] rfl hz 0 rfl rfl) rfl rfl hl.1 rfl (lv_room (Nat.le_of_ble_eq_true rfl)) d_Mo_count_8 ⟨(Nat.le_of_ble_eq_true rfl), (Nat.le_of_ble_eq_true rfl)⟩) hV (fun r9 V9 H locs hp hV hle => ?_)
    obtain ⟨rfl, rfl, hz⟩ := hp
    replace hV := u_back hV hn [0] rfl
    have hV : vS G.1 cls lo s H locs (vU V [(m, eO 8 [.int 1, u1, u2, u3, .ref pa, .ref sa, u6, .int (nI L.length), u8, u9, u10, u11, u12, u13, u14, u15, u16, u17, u18, u19, u20]), (sa, eI (gI G) 62 sp), (pa, eI (gI G) 1769 P)]) := hV
    refine W.eq (g2 := F0 mi 11 ls [.int 0]) rfl ?_
    refine lv_if_ne (tgt := 16) hx hb d_Mo_count_11 (by decide) (fun c_21 => absurd c_21 (by decide)) (fun _ => ?_)
    refine lv_iconst (v := 0) hx hb d_Mo_count_14 (by decide) ?_
    exact W.iret (v := 0) hx hb hr (v_end hV ⟨by rw [hX]; rfl, by rw [hX]; rfl, hz⟩) hV.2.1.2.2 d_Mo_count_15

set_option maxHeartbeats 4000000 in
set_option maxRecDepth 100000 in
/-- sign -/
theorem c_Mo_sign (l : Launch) (G : Gx) (lo : Nat) (V : Vw) (sz : Nat) (m mt : Nat) (u3 u4 u5 u6 u7 u8 u9 u10 u11 u12 u13 u14 u15 u16 u17 u18 u19 u20 : Value) (th : Value) (g : Nat → Int32) (n : Nat) (hn : [m, mt].Nodup) (h4 : n ≤ 400) (b : Int64) (kk : Int32) : Met l y_Mo_sign ws_Mo_sign ({ frames := 1, cells := 0, slots := 0, locals := 25 } : Room) (vPre G lo [.ref m, .long b, .int kk] (vU V [(m, eO 8 [th, .int (nI n), .ref mt, u3, u4, u5, u6, u7, u8, u9, u10, u11, u12, u13, u14, u15, u16, u17, u18, u19, u20]), (mt, eI (gI G) 400 g)]) sz) (vPost G lo (fun r V' k => r = some (.int (vaS (sgnR n kk))) ∧ V' = vU V [(m, eO 8 [.int (thI (sgnR n kk)), .int (nI (tpS n (sgnR n kk))), .ref mt, u3, u4, u5, u6, u7, u8, u9, u10, u11, u12, u13, u14, u15, u16, u17, u18, u19, u20]), (mt, eI (gI G) 400 (apS b g n (sgnR n kk)))] ∧ k = sz)) 0 0 (vL lo) := by
  refine vMet (R := RMo) (by decide) rfl (Nat.le_of_ble_eq_true rfl) ?_
  intro pg ev s mi args below meth cd hx hb hr hml hlk hnm hts hown hK hz hV ls hl
  have hl : lv_has ls 5 [(0, .ref m), (1, .long b), (3, .int kk)] := hl
  have hV0 := hV
  obtain ⟨H, hH⟩ : ∃ H, H = s.heap := ⟨_, rfl⟩
  obtain ⟨locs, hlocs⟩ : ∃ locs : List Loc, locs = [] := ⟨_, rfl⟩
  rw [← hH, ← hlocs]
  rw [← hH] at hz
  replace hV : vS G.1 cls lo s H locs (vU V [(m, eO 8 [th, .int (nI n), .ref mt, u3, u4, u5, u6, u7, u8, u9, u10, u11, u12, u13, u14, u15, u16, u17, u18, u19, u20]), (mt, eI (gI G) 400 g)]) := by rw [hH, hlocs]; exact hV
  clear hH hlocs hV0
  refine lv_aload_n hx hb d_Mo_sign_0 rfl (lv_at hl 0 rfl) ?_
  refine lv_iload_n hx hb d_Mo_sign_1 rfl (lv_at hl 2 rfl) ?_
  refine lv_iconst (v := 1) hx hb d_Mo_sign_2 (by decide) ?_
  refine lv_bipush (v := 8) hx hb d_Mo_sign_3 (by decide) ?_
  refine v_call (va_runS (As := [.int kk, .int 1, .int 8]) (rest := [.ref m]) ⟨hx, hb, hml, hown, hts⟩ (c_Mo_in l G lo _ _ kk ((1 : Int32)) ((8 : Int32))) (kwS 3 hts w_co_Mo_in rfl rfl w_it_Mo w_ml_Mo_54 w_st_Mo_in (by decide +kernel) ⟨(Nat.le_of_ble_eq_true rfl), (Nat.le_of_ble_eq_true rfl)⟩) (u_preS hK hV hn [] rfl hz) rfl rfl hl.1 rfl (lv_room (Nat.le_of_ble_eq_true rfl)) d_Mo_sign_5 ⟨(Nat.le_of_ble_eq_true rfl), (Nat.le_of_ble_eq_true rfl)⟩) hV (fun r9 V9 H locs hp hV hle => ?_)
  obtain ⟨rfl, rfl, hz⟩ := hp
  replace hV := uu_same hV hn [] rfl
  rcases tf (inI kk ((1 : Int32)) ((8 : Int32))) with d_1 | d_1
  · obtain ⟨j, hj1, hj2, ek⟩ := inI_bd (a := 1) (b := 8) (by decide) (by decide) d_1
    subst ek
    have hV : vS G.1 cls lo s H locs (vU V [(m, eO 8 [th, .int (nI n), .ref mt, u3, u4, u5, u6, u7, u8, u9, u10, u11, u12, u13, u14, u15, u16, u17, u18, u19, u20]), (mt, eI (gI G) 400 g)]) := hV
    refine W.eq (g2 := F0 mi 8 ls [.int 1, .ref m]) (by rw [d_1]; rfl) ?_
    refine lv_if_ne (tgt := 15) hx hb d_Mo_sign_8 (by decide) (fun _ => ?_) (fun c_2 => absurd c_2 (by decide))
    refine lv_aload_n hx hb d_Mo_sign_15 rfl (lv_at hl 0 rfl) ?_
    refine u_get hx hb hts inMo hown hK hV hn 0 rfl rfl 1 (by decide) w_fl_Mo_58 rfl rfl d_Mo_sign_16 ?_
    refine lv_iload_n hx hb d_Mo_sign_19 rfl (lv_at hl 2 rfl) ?_
    refine e_iadd (v := nI (n + j)) hx hb d_Mo_sign_20 (nI_add n j) ?_
    refine lv_sipush (v := 400) hx hb d_Mo_sign_21 (by decide) ?_
    refine lv_icmp_le (tgt := 31) hx hb d_Mo_sign_24 (by decide) (fun c_3 => ?_) (fun c_3 => ?_)
    · replace c_3 : n + j ≤ 400 := (nI_leI (a := n + j) (b := 400) (by omega) (by omega)).mp c_3
      have hX : sgnR n (nI j) = .inr (n + j) := sgnR_3 hj1 hj2 (by omega)
      refine lv_iconst (v := 0) hx hb d_Mo_sign_31 (by decide) ?_
      refine u_put hx hb hts inMo tyMo tyMo_ok nmMo hown hK hV hn 0 rfl rfl 0 (by decide) w_fl_Mo_51 rfl rfl rfl rfl (Nat.le_of_ble_eq_true rfl) d_Mo_sign_32 (fun H locs hV hz9 => ?_)
      have hV : vS G.1 cls lo s H locs (vU V [(m, eO 8 [.int 0, .int (nI n), .ref mt, u3, u4, u5, u6, u7, u8, u9, u10, u11, u12, u13, u14, u15, u16, u17, u18, u19, u20]), (mt, eI (gI G) 400 g)]) := hV
      replace hz := hz9.trans hz
      refine lv_aload_n hx hb d_Mo_sign_35 rfl (lv_at hl 0 rfl) ?_
      refine u_get hx hb hts inMo hown hK hV hn 0 rfl rfl 0 (by decide) w_fl_Mo_51 rfl rfl d_Mo_sign_36 ?_
      refine lv_if_le (tgt := 44) hx hb d_Mo_sign_39 (by decide) (fun _ => ?_) (fun c_4 => absurd c_4 (by decide))
      refine lv_iload_n hx hb d_Mo_sign_44 rfl (lv_at hl 2 rfl) ?_
      refine lv_iconst (v := 1) hx hb d_Mo_sign_45 (by decide) ?_
      refine e_isub (v := (nI j) - 1) hx hb d_Mo_sign_46 (rfl) ?_
      refine lv_istore (lv' := [(4, .int ((nI j) - 1)), (0, .ref m), (1, .long b), (3, .int (nI j))]) hx hb d_Mo_sign_47 hl (by decide) rfl (fun ls hl => ?_)
      have loop : ∀ (k : Nat) (c r : Nat), r < k → (c + r = j) → ∀ (H : Heap) (locs : List Loc) (ls : Array Slot), H.size = sz → vS G.1 cls lo s H locs (vU V [(m, eO 8 [.int 0, .int (nI (n + c)), .ref mt, u3, u4, u5, u6, u7, u8, u9, u10, u11, u12, u13, u14, u15, u16, u17, u18, u19, u20]), (mt, eI (gI G) 400 (apM b g n j c))]) → lv_has ls 5 [(0, .ref m), (1, .long b), (3, .int (nI j)), (4, .int (nI r - 1))] → W pg l ev ({ frames := 1, cells := 0, slots := 0, locals := 25 } : Room) s mi args below meth cd H locs 0 0 (MQ below (vPost G lo (fun r V' k => r = some (.int (vaS (sgnR n (nI j)))) ∧ V' = vU V [(m, eO 8 [.int (thI (sgnR n (nI j))), .int (nI (tpS n (sgnR n (nI j)))), .ref mt, u3, u4, u5, u6, u7, u8, u9, u10, u11, u12, u13, u14, u15, u16, u17, u18, u19, u20]), (mt, eI (gI G) 400 (apS b g n (sgnR n (nI j))))] ∧ k = sz)) args s 0 0 (vL lo)) (F0 mi 49 ls []) := by
        intro k
        induction k with
        | zero => intro c r hk; exact absurd hk (by omega)
        | succ k ih =>
          intro c r hk hcr H locs ls hz hV hl
          refine lv_iload hx hb d_Mo_sign_49 (lv_at hl 3 rfl) ?_
          refine lv_if_lt (tgt := 91) hx hb d_Mo_sign_51 (by decide) (fun c_5 => ?_) (fun c_5 => ?_)
          · have r0 : r = 0 := (i_pred (by omega)).mp c_5
            have ec : c = j := by omega
            subst ec
            refine lv_aload_n hx hb d_Mo_sign_91 rfl (lv_at hl 0 rfl) ?_
            refine u_get hx hb hts inMo hown hK hV hn 0 rfl rfl 1 (by decide) w_fl_Mo_58 rfl rfl d_Mo_sign_92 ?_
            exact W.iret (v := nI (n + c)) hx hb hr (v_end hV ⟨by rw [hX]; rfl, by rw [hX]; simp only [tpS, apS, thI, Nat.add_sub_cancel_left], hz⟩) hV.2.1.2.2 d_Mo_sign_95
          · have r0 : ¬ r = 0 := fun z => c_5 ((i_pred (by omega)).mpr z)
            obtain ⟨q, rfl⟩ : ∃ q, r = q + 1 := ⟨r - 1, by omega⟩
            rw [show nI (q + 1) - 1 = nI q from nI_sub (a := q + 1) (b := 1) (by omega)] at hl
            refine lv_aload_n hx hb d_Mo_sign_54 rfl (lv_at hl 0 rfl) ?_
            refine u_get hx hb hts inMo hown hK hV hn 0 rfl rfl 2 (by decide) w_fl_Mo_7 rfl rfl d_Mo_sign_55 ?_
            refine lv_aload_n hx hb d_Mo_sign_58 rfl (lv_at hl 0 rfl) ?_
            refine u_get hx hb hts inMo hown hK hV hn 0 rfl rfl 1 (by decide) w_fl_Mo_58 rfl rfl d_Mo_sign_59 ?_
            refine lv_lload_n hx hb d_Mo_sign_62 rfl (lv_at hl 1 rfl) ?_
            refine lv_bipush (v := 8) hx hb d_Mo_sign_63 (by decide) ?_
            refine lv_iload hx hb d_Mo_sign_65 (lv_at hl 3 rfl) ?_
            refine e_imul (v := nI (8 * q)) hx hb d_Mo_sign_67 (nI_mul 8 q) ?_
            refine lv_lshr (v := b >>> ((nI (8 * q)).toInt64 &&& 63)) hx hb d_Mo_sign_68 (rfl) ?_
            refine lv_l2i (v := (b >>> ((nI (8 * q)).toInt64 &&& 63)).toInt32) hx hb d_Mo_sign_69 (rfl) ?_
            refine lv_sipush (v := 255) hx hb d_Mo_sign_70 (by decide) ?_
            refine e_iand (v := sgM b q) hx hb d_Mo_sign_73 (rfl) ?_
            refine u_iastN hx hb hK hV hn 1 rfl (by omega) (by decide) d_Mo_sign_74 (fun H locs hV hz9 => ?_)
            have hV : vS G.1 cls lo s H locs (vU V [(m, eO 8 [.int 0, .int (nI (n + c)), .ref mt, u3, u4, u5, u6, u7, u8, u9, u10, u11, u12, u13, u14, u15, u16, u17, u18, u19, u20]), (mt, eI (gI G) 400 (upd (apM b g n j c) (n + c) (sgM b q)))]) := hV
            replace hz := hz9.trans hz
            rw [apM_step b g (show c + q + 1 = j by omega)] at hV
            refine lv_aload_n hx hb d_Mo_sign_75 rfl (lv_at hl 0 rfl) ?_
            refine lv_dup hx hb d_Mo_sign_76 rfl ?_
            refine u_get hx hb hts inMo hown hK hV hn 0 rfl rfl 1 (by decide) w_fl_Mo_58 rfl rfl d_Mo_sign_77 ?_
            refine lv_iconst (v := 1) hx hb d_Mo_sign_80 (by decide) ?_
            refine e_iadd (v := nI (n + c + 1)) hx hb d_Mo_sign_81 (nI_add (n + c) 1) ?_
            refine u_put hx hb hts inMo tyMo tyMo_ok nmMo hown hK hV hn 0 rfl rfl 1 (by decide) w_fl_Mo_58 rfl rfl rfl rfl (Nat.le_of_ble_eq_true rfl) d_Mo_sign_82 (fun H locs hV hz9 => ?_)
            have hV : vS G.1 cls lo s H locs (vU V [(m, eO 8 [.int 0, .int (nI (n + c + 1)), .ref mt, u3, u4, u5, u6, u7, u8, u9, u10, u11, u12, u13, u14, u15, u16, u17, u18, u19, u20]), (mt, eI (gI G) 400 (apM b g n j (c + 1)))]) := hV
            replace hz := hz9.trans hz
            refine lv_iinc (v := nI q - 1) (lv' := [(4, .int (nI q - 1)), (0, .ref m), (1, .long b), (3, .int (nI j))]) hx hb d_Mo_sign_85 hl (k := 3) rfl (i_dec q) (by decide) rfl (fun ls hl => ?_)
            refine lv_goto (tgt := 49) hx hb d_Mo_sign_88 (by decide) ?_
            exact ih (c + 1) q (by omega) (by omega) H locs ls hz hV (lv_sub hl [1, 2, 3, 0] rfl)
      have hV : vS G.1 cls lo s H locs (vU V [(m, eO 8 [.int 0, .int (nI (n + 0)), .ref mt, u3, u4, u5, u6, u7, u8, u9, u10, u11, u12, u13, u14, u15, u16, u17, u18, u19, u20]), (mt, eI (gI G) 400 (apM b g n j 0))]) := by rw [apM_0]; exact hV
      exact loop (j + 1) 0 j (by omega) (by omega) H locs ls hz hV (lv_sub hl [1, 2, 3, 0] rfl)
    · replace c_3 : ¬ n + j ≤ 400 := fun z9 => c_3 ((nI_leI (a := n + j) (b := 400) (by omega) (by omega)).mpr z9)
      have hX : sgnR n (nI j) = .inl 2 := sgnR_2 hj1 hj2 (by omega)
      refine lv_iconst (v := 2) hx hb d_Mo_sign_27 (by decide) ?_
      refine lv_goto (tgt := 32) hx hb d_Mo_sign_28 (by decide) ?_
      refine u_put hx hb hts inMo tyMo tyMo_ok nmMo hown hK hV hn 0 rfl rfl 0 (by decide) w_fl_Mo_51 rfl rfl rfl rfl (Nat.le_of_ble_eq_true rfl) d_Mo_sign_32 (fun H locs hV hz9 => ?_)
      have hV : vS G.1 cls lo s H locs (vU V [(m, eO 8 [.int 2, .int (nI n), .ref mt, u3, u4, u5, u6, u7, u8, u9, u10, u11, u12, u13, u14, u15, u16, u17, u18, u19, u20]), (mt, eI (gI G) 400 g)]) := hV
      replace hz := hz9.trans hz
      refine lv_aload_n hx hb d_Mo_sign_35 rfl (lv_at hl 0 rfl) ?_
      refine u_get hx hb hts inMo hown hK hV hn 0 rfl rfl 0 (by decide) w_fl_Mo_51 rfl rfl d_Mo_sign_36 ?_
      refine lv_if_le (tgt := 44) hx hb d_Mo_sign_39 (by decide) (fun c_6 => absurd c_6 (by decide)) (fun _ => ?_)
      refine lv_iconst (v := 0) hx hb d_Mo_sign_42 (by decide) ?_
      exact W.iret (v := 0) hx hb hr (v_end hV ⟨by rw [hX]; rfl, by rw [hX]; rfl, hz⟩) hV.2.1.2.2 d_Mo_sign_43
  · have hX : sgnR n kk = .inl 1 := sgnR_1 (inI_lt (a := 1) (b := 8) d_1)
    have hV : vS G.1 cls lo s H locs (vU V [(m, eO 8 [th, .int (nI n), .ref mt, u3, u4, u5, u6, u7, u8, u9, u10, u11, u12, u13, u14, u15, u16, u17, u18, u19, u20]), (mt, eI (gI G) 400 g)]) := hV
    refine W.eq (g2 := F0 mi 8 ls [.int 0, .ref m]) (by rw [d_1]; rfl) ?_
    refine lv_if_ne (tgt := 15) hx hb d_Mo_sign_8 (by decide) (fun c_7 => absurd c_7 (by decide)) (fun _ => ?_)
    refine lv_iconst (v := 1) hx hb d_Mo_sign_11 (by decide) ?_
    refine lv_goto (tgt := 32) hx hb d_Mo_sign_12 (by decide) ?_
    refine u_put hx hb hts inMo tyMo tyMo_ok nmMo hown hK hV hn 0 rfl rfl 0 (by decide) w_fl_Mo_51 rfl rfl rfl rfl (Nat.le_of_ble_eq_true rfl) d_Mo_sign_32 (fun H locs hV hz9 => ?_)
    have hV : vS G.1 cls lo s H locs (vU V [(m, eO 8 [.int 1, .int (nI n), .ref mt, u3, u4, u5, u6, u7, u8, u9, u10, u11, u12, u13, u14, u15, u16, u17, u18, u19, u20]), (mt, eI (gI G) 400 g)]) := hV
    replace hz := hz9.trans hz
    refine lv_aload_n hx hb d_Mo_sign_35 rfl (lv_at hl 0 rfl) ?_
    refine u_get hx hb hts inMo hown hK hV hn 0 rfl rfl 0 (by decide) w_fl_Mo_51 rfl rfl d_Mo_sign_36 ?_
    refine lv_if_le (tgt := 44) hx hb d_Mo_sign_39 (by decide) (fun c_8 => absurd c_8 (by decide)) (fun _ => ?_)
    refine lv_iconst (v := 0) hx hb d_Mo_sign_42 (by decide) ?_
    exact W.iret (v := 0) hx hb hr (v_end hV ⟨by rw [hX]; rfl, by rw [hX]; rfl, hz⟩) hV.2.1.2.2 d_Mo_sign_43
