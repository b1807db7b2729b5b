theorem rnd_lt {G : Gx} {V : Vw} {dy sz : Nat} {pf : Nat → Option Nat} {Q : Nat → Option PcR} (hB : twB G V dy sz pf Q) {m : Nat} (hm : m < 2 ^ 41) : ∀ k, k ≤ 60 → rnd Q m k < 2 ^ 41
  | 0, _ => hm
  | k + 1, hk => by
    have ih := rnd_lt hB hm k (by omega)
    rcases hB (k + 1) (by omega) hk with ⟨-, q⟩ | ⟨a, R, -, q, q3, -⟩
    · rw [rnd_n q]; exact ih
    · rw [rnd_s q]; exact whQ_lt q3.2.2 ih
theorem rnds_lt {G : Gx} {V : Vw} {dy sz : Nat} {pf : Nat → Option Nat} {Q : Nat → Option PcR} (hB : twB G V dy sz pf Q) {m : Nat} (hm : m < 2 ^ 41) : ∀ k, rnds Q m k < 2 ^ 41
  | 0 => hm
  | k + 1 => rnd_lt hB (rnds_lt hB hm k) 60 (by omega)
set_option maxHeartbeats 4000000 in
set_option maxRecDepth 100000 in
/-- Checker.findIdleTurns -/
theorem c_Ck_findIdleTurns (l : Launch) (G : Gx) (lo : Nat) (V : Vw) (sz : Nat) (ck kk kn : Nat) (fk fn : Nat → Int32) (F : List Two) (tw ps bl sn tu af ao a3 : Nat) (fr ov tt : Nat → Int32) (L : List Tri) (of : Bool) (pf : Nat → Option Nat) (Q : Nat → Option PcR) (dy : Nat) (hn : [ck, kk, kn, tw, ps, tu, af, ao, a3].Nodup) (hO : ckOk fk fn F) (hF : F.length ≤ 120) (hB : twB G V dy sz pf Q) (hdc : ∀ a ∈ [ck, kk, kn, tw, ps, tu, af, ao, a3], a < dy) (hT : tnOk fr ov tt L) (hL : L.length ≤ 20) : Met l y_Ck_findIdleTurns ws_Ck_findIdleTurns ({ frames := 2, cells := 0, slots := 0, locals := 46 } : Room) (vPre G lo [.ref ck, .ref tw] (vU V [(ck, eO 0 [.ref kk, .ref kn, .int (nI F.length)]), (kk, eI (gI G) 250 fk), (kn, eI (gI G) 250 fn), (tw, eO 5 [.ref ps, .ref bl, .ref sn, .ref tu]), (ps, eQ (gP G) 61 pf), (tu, eO 6 [.ref af, .ref ao, .ref a3, .int (nI L.length), .int (b2i of)]), (af, eI (gI G) 20 fr), (ao, eI (gI G) 20 ov), (a3, eI (gI G) 20 tt)]) sz) (vPost G lo (fun r V' k => r = none ∧ (∃ f1 f2 : Nat → Int32, V' = vU V [(ck, eO 0 [.ref kk, .ref kn, .int (nI ((F ++ idlQ Q L 40).length))]), (kk, eI (gI G) 250 f1), (kn, eI (gI G) 250 f2), (tw, eO 5 [.ref ps, .ref bl, .ref sn, .ref tu]), (ps, eQ (gP G) 61 pf), (tu, eO 6 [.ref af, .ref ao, .ref a3, .int (nI L.length), .int (b2i of)]), (af, eI (gI G) 20 fr), (ao, eI (gI G) 20 ov), (a3, eI (gI G) 20 tt)] ∧ ckOk f1 f2 (F ++ idlQ Q L 40)) ∧ k = sz)) 0 0 (vL lo) := by
  refine vMet (R := RCk) (by decide) rfl (Nat.le_of_ble_eq_true rfl) ?_
  intro pg ev s mi args below meth cd hx hb hr hml hlk hnm hts hown hK hz hV ls hl
  have hl : lv_has ls 5 [(0, .ref ck), (1, .ref tw)] := hl
  have hV0 := hV
  obtain ⟨H, hH⟩ : ∃ H, H = s.heap := ⟨_, rfl⟩
  obtain ⟨locs, hlocs⟩ : ∃ locs : List Loc, locs = [] := ⟨_, rfl⟩
  rw [← hH, ← hlocs]
  rw [← hH] at hz
  replace hV : vS G.1 cls lo s H locs (vU V [(ck, eO 0 [.ref kk, .ref kn, .int (nI F.length)]), (kk, eI (gI G) 250 fk), (kn, eI (gI G) 250 fn), (tw, eO 5 [.ref ps, .ref bl, .ref sn, .ref tu]), (ps, eQ (gP G) 61 pf), (tu, eO 6 [.ref af, .ref ao, .ref a3, .int (nI L.length), .int (b2i of)]), (af, eI (gI G) 20 fr), (ao, eI (gI G) 20 ov), (a3, eI (gI G) 20 tt)]) := by rw [hH, hlocs]; exact hV
  clear hH hlocs hV0
  refine lv_aload_n hx hb d_Ck_findIdleTurns_0 rfl (lv_at hl 1 rfl) ?_
  refine u_get hx hb hts inTw hown hK hV hn 3 rfl rfl 3 (by decide) w_fl_Ck_42 rfl rfl d_Ck_findIdleTurns_1 ?_
  refine lv_astore_n (lv' := [(2, .ref tu), (0, .ref ck), (1, .ref tw)]) hx hb d_Ck_findIdleTurns_4 rfl hl (by decide) rfl (fun ls hl => ?_)
  refine lv_iconst (v := 1) hx hb d_Ck_findIdleTurns_5 (by decide) ?_
  refine lv_istore_n (lv' := [(3, .int 1), (2, .ref tu), (0, .ref ck), (1, .ref tw)]) hx hb d_Ck_findIdleTurns_6 rfl hl (by decide) rfl (fun ls hl => ?_)
  have loop : ∀ (k : Nat) (j : Nat) (fk fn : Nat → Int32), 40 - j < k → (j ≤ 40) → (ckOk fk fn (F ++ idlQ Q L j)) → ∀ (H : Heap) (locs : List Loc) (ls : Array Slot), H.size = sz → vS G.1 cls lo s H locs (vU V [(ck, eO 0 [.ref kk, .ref kn, .int (nI ((F ++ idlQ Q L j).length))]), (kk, eI (gI G) 250 fk), (kn, eI (gI G) 250 fn), (tw, eO 5 [.ref ps, .ref bl, .ref sn, .ref tu]), (ps, eQ (gP G) 61 pf), (tu, eO 6 [.ref af, .ref ao, .ref a3, .int (nI L.length), .int (b2i of)]), (af, eI (gI G) 20 fr), (ao, eI (gI G) 20 ov), (a3, eI (gI G) 20 tt)]) → lv_has ls 5 [(0, .ref ck), (1, .ref tw), (2, .ref tu), (3, .int (nI (j + 1)))] → W pg l ev ({ frames := 2, cells := 0, slots := 0, locals := 46 } : Room) s mi args below meth cd H locs 0 0 (MQ below (vPost G lo (fun r V' k => r = none ∧ (∃ f1 f2 : Nat → Int32, V' = vU V [(ck, eO 0 [.ref kk, .ref kn, .int (nI ((F ++ idlQ Q L 40).length))]), (kk, eI (gI G) 250 f1), (kn, eI (gI G) 250 f2), (tw, eO 5 [.ref ps, .ref bl, .ref sn, .ref tu]), (ps, eQ (gP G) 61 pf), (tu, eO 6 [.ref af, .ref ao, .ref a3, .int (nI L.length), .int (b2i of)]), (af, eI (gI G) 20 fr), (ao, eI (gI G) 20 ov), (a3, eI (gI G) 20 tt)] ∧ ckOk f1 f2 (F ++ idlQ Q L 40)) ∧ k = sz)) args s 0 0 (vL lo)) (F0 mi 7 ls []) := by
    intro k
    induction k with
    | zero => intro j fk fn hk; exact absurd hk (by omega)
    | succ k ih =>
      intro j fk fn hk hj hO H locs ls hz hV hl
      refine lv_iload_n hx hb d_Ck_findIdleTurns_7 rfl (lv_at hl 3 rfl) ?_
      refine lv_bipush (v := 40) hx hb d_Ck_findIdleTurns_8 (by decide) ?_
      refine lv_icmp_gt (tgt := 84) hx hb d_Ck_findIdleTurns_10 (by decide) (fun c_1 => ?_) (fun c_1 => ?_)
      · replace c_1 : 40 < j + 1 := (nI_ltI (a := 40) (b := j + 1) (by omega) (by omega)).mp c_1
        exact W.vret hx hb hr (v_end hV ⟨rfl, ⟨fk, fn, by rw [show j = 40 by omega], by rw [show j = 40 by omega] at hO; exact hO⟩, hz⟩) hV.2.1.2.2 d_Ck_findIdleTurns_84
      · replace c_1 : ¬ 40 < j + 1 := fun z9 => c_1 ((nI_ltI (a := 40) (b := j + 1) (by omega) (by omega)).mpr z9)
        refine lv_iconst (v := 0) hx hb d_Ck_findIdleTurns_13 (by decide) ?_
        refine lv_istore (lv' := [(4, .int 0), (0, .ref ck), (1, .ref tw), (2, .ref tu), (3, .int (nI (j + 1)))]) hx hb d_Ck_findIdleTurns_14 hl (by decide) rfl (fun ls hl => ?_)
        have ihO := @ih
        have hk9 := hk
        have eI0 : F ++ idlQ Q L j ++ idl Q L (j + 1) 0 = F ++ idlQ Q L j := List.append_nil _
        rw [← eI0] at hV hO
        have inner : ∀ (k : Nat) (i : Nat) (fk fn : Nat → Int32), L.length - i < k → (i ≤ L.length) → (ckOk fk fn (F ++ idlQ Q L j ++ idl Q L (j + 1) i)) → ∀ (H : Heap) (locs : List Loc) (ls : Array Slot), H.size = sz → vS G.1 cls lo s H locs (vU V [(ck, eO 0 [.ref kk, .ref kn, .int (nI ((F ++ idlQ Q L j ++ idl Q L (j + 1) i).length))]), (kk, eI (gI G) 250 fk), (kn, eI (gI G) 250 fn), (tw, eO 5 [.ref ps, .ref bl, .ref sn, .ref tu]), (ps, eQ (gP G) 61 pf), (tu, eO 6 [.ref af, .ref ao, .ref a3, .int (nI L.length), .int (b2i of)]), (af, eI (gI G) 20 fr), (ao, eI (gI G) 20 ov), (a3, eI (gI G) 20 tt)]) → lv_has ls 5 [(0, .ref ck), (1, .ref tw), (2, .ref tu), (3, .int (nI (j + 1))), (4, .int (nI i))] → W pg l ev ({ frames := 2, cells := 0, slots := 0, locals := 46 } : Room) s mi args below meth cd H locs 0 0 (MQ below (vPost G lo (fun r V' k => r = none ∧ (∃ f1 f2 : Nat → Int32, V' = vU V [(ck, eO 0 [.ref kk, .ref kn, .int (nI ((F ++ idlQ Q L 40).length))]), (kk, eI (gI G) 250 f1), (kn, eI (gI G) 250 f2), (tw, eO 5 [.ref ps, .ref bl, .ref sn, .ref tu]), (ps, eQ (gP G) 61 pf), (tu, eO 6 [.ref af, .ref ao, .ref a3, .int (nI L.length), .int (b2i of)]), (af, eI (gI G) 20 fr), (ao, eI (gI G) 20 ov), (a3, eI (gI G) 20 tt)] ∧ ckOk f1 f2 (F ++ idlQ Q L 40)) ∧ k = sz)) args s 0 0 (vL lo)) (F0 mi 16 ls []) := by
          intro k
          induction k with
          | zero => intro i fk fn hk; exact absurd hk (by omega)
          | succ k ih =>
            intro i fk fn hk hi hO H locs ls hz hV hl
            refine lv_iload hx hb d_Ck_findIdleTurns_16 (lv_at hl 4 rfl) ?_
            refine lv_aload_n hx hb d_Ck_findIdleTurns_18 rfl (lv_at hl 2 rfl) ?_
            refine u_get hx hb hts inTn hown hK hV hn 5 rfl rfl 3 (by decide) w_fl_Ck_89 rfl rfl d_Ck_findIdleTurns_19 ?_
            refine lv_icmp_ge (tgt := 78) hx hb d_Ck_findIdleTurns_22 (by decide) (fun c_2 => ?_) (fun c_2 => ?_)
            · replace c_2 : L.length ≤ i := (nI_leI (a := L.length) (b := i) (by omega) (by omega)).mp c_2
              have eO : F ++ idlQ Q L j ++ idl Q L (j + 1) i = F ++ idlQ Q L (j + 1) := by rw [show i = L.length by omega, List.append_assoc]; rfl
              rw [eO] at hV hO
              refine lv_iinc (v := nI (j + 2)) (lv' := [(3, .int (nI (j + 2))), (0, .ref ck), (1, .ref tw), (2, .ref tu), (4, .int (nI i))]) hx hb d_Ck_findIdleTurns_78 hl (k := 3) rfl (nI_add (j + 1) 1) (by decide) rfl (fun ls hl => ?_)
              refine lv_goto (tgt := 7) hx hb d_Ck_findIdleTurns_81 (by decide) ?_
              exact ihO (j + 1) fk fn (by omega) (by omega) hO H locs ls hz hV (lv_sub hl [1, 2, 3, 0] rfl)
            · replace c_2 : ¬ L.length ≤ i := fun z9 => c_2 ((nI_leI (a := L.length) (b := i) (by omega) (by omega)).mpr z9)
              obtain ⟨o1, o2, o3, o4, o5, o6⟩ := hT i (by omega)
              refine lv_aload_n hx hb d_Ck_findIdleTurns_25 rfl (lv_at hl 2 rfl) ?_
              refine u_get hx hb hts inTn hown hK hV hn 5 rfl rfl 1 (by decide) w_fl_Ck_92 rfl rfl d_Ck_findIdleTurns_26 ?_
              refine lv_iload hx hb d_Ck_findIdleTurns_29 (lv_at hl 4 rfl) ?_
              refine u_ialdN hx hb hK hV hn 7 rfl (by omega) (by decide) d_Ck_findIdleTurns_31 ?_
              rw [o2]
              refine lv_iload_n hx hb d_Ck_findIdleTurns_32 rfl (lv_at hl 3 rfl) ?_
              refine lv_icmp_ne (tgt := 72) hx hb d_Ck_findIdleTurns_33 (by decide) (fun c_3 => ?_) (fun c_3 => ?_)
              · replace c_3 : ¬ (L.getD i z3).2.1 = j + 1 := fun z9 => c_3 ((nI_eq (a := (L.getD i z3).2.1) (b := j + 1) (by omega) (by omega)).mpr z9)
                have hE : idleP Q L (j + 1) i = false := by simp only [idleP, decide_eq_false c_3, Bool.false_and]
                rw [← idl_n hE] at hV hO
                refine lv_iinc (v := nI (i + 1)) (lv' := [(4, .int (nI (i + 1))), (0, .ref ck), (1, .ref tw), (2, .ref tu), (3, .int (nI (j + 1)))]) hx hb d_Ck_findIdleTurns_72 hl (k := 4) rfl (nI_add i 1) (by decide) rfl (fun ls hl => ?_)
                refine lv_goto (tgt := 16) hx hb d_Ck_findIdleTurns_75 (by decide) ?_
                exact ih (i + 1) fk fn (by omega) (by omega) hO H locs ls hz hV (lv_sub hl [1, 2, 3, 4, 0] rfl)
              · replace c_3 : (L.getD i z3).2.1 = j + 1 := (nI_eq (a := (L.getD i z3).2.1) (b := j + 1) (by omega) (by omega)).mp c_3
                have hov := c_3
                refine lv_aload_n hx hb d_Ck_findIdleTurns_36 rfl (lv_at hl 1 rfl) ?_
                refine lv_aload_n hx hb d_Ck_findIdleTurns_37 rfl (lv_at hl 2 rfl) ?_
                refine u_get hx hb hts inTn hown hK hV hn 5 rfl rfl 0 (by decide) w_fl_Ck_95 rfl rfl d_Ck_findIdleTurns_38 ?_
                refine lv_iload hx hb d_Ck_findIdleTurns_41 (lv_at hl 4 rfl) ?_
                refine u_ialdN hx hb hK hV hn 6 rfl (by omega) (by decide) d_Ck_findIdleTurns_43 ?_
                rw [o1]
                refine lv_iload_n hx hb d_Ck_findIdleTurns_44 rfl (lv_at hl 3 rfl) ?_
                refine v_call (va_runV (As := [.int (nI ((L.getD i z3).1)), .int (nI (j + 1))]) (rest := []) ⟨hx, hb, hml, hown, hts⟩ (c_Tw_leads l G lo _ _ tw ps bl sn tu pf (nd_sub hn [3, 4] (by decide) rfl) Q (by rw [vU_sub (CS := [(ck, eO 0 [.ref kk, .ref kn, .int (nI ((F ++ idlQ Q L j ++ idl Q L (j + 1) i).length))]), (kk, eI (gI G) 250 fk), (kn, eI (gI G) 250 fn), (tw, eO 5 [.ref ps, .ref bl, .ref sn, .ref tu]), (ps, eQ (gP G) 61 pf), (tu, eO 6 [.ref af, .ref ao, .ref a3, .int (nI L.length), .int (b2i of)]), (af, eI (gI G) 20 fr), (ao, eI (gI G) 20 ov), (a3, eI (gI G) 20 tt)]) hn [3, 4] rfl]; exact twB_P hB hdc) ((L.getD i z3).1) (j + 1) (by omega) (by omega)) (kwV 2 hts w_co_Tw_leads rfl rfl w_it_Tw w_ml_Ck_98 w_im_Tw_leads w_se_Tw__Tw_leads (by decide +kernel) ⟨(Nat.le_of_ble_eq_true rfl), (Nat.le_of_ble_eq_true rfl)⟩) (u_preV hK hV hn [3, 4] rfl hz 3 rfl rfl) rfl rfl hl.1 rfl (lv_room (Nat.le_of_ble_eq_true rfl)) d_Ck_findIdleTurns_45 ⟨(Nat.le_of_ble_eq_true rfl), (Nat.le_of_ble_eq_true rfl)⟩) hV (fun r9 V9 H locs hp hV hle => ?_)
                obtain ⟨rfl, rfl, hz⟩ := hp
                replace hV := uu_same hV hn [3, 4] rfl
                rcases tf (leadQ Q ((L.getD i z3).1) (j + 1) 60) with d_4 | d_4
                · have hl1 := d_4
                  have hV : vS G.1 cls lo s H locs (vU V [(ck, eO 0 [.ref kk, .ref kn, .int (nI ((F ++ idlQ Q L j ++ idl Q L (j + 1) i).length))]), (kk, eI (gI G) 250 fk), (kn, eI (gI G) 250 fn), (tw, eO 5 [.ref ps, .ref bl, .ref sn, .ref tu]), (ps, eQ (gP G) 61 pf), (tu, eO 6 [.ref af, .ref ao, .ref a3, .int (nI L.length), .int (b2i of)]), (af, eI (gI G) 20 fr), (ao, eI (gI G) 20 ov), (a3, eI (gI G) 20 tt)]) := hV
                  refine W.eq (g2 := F0 mi 48 ls [.int 1]) (by rw [d_4]; rfl) ?_
                  refine lv_if_eq (tgt := 66) hx hb d_Ck_findIdleTurns_48 (by decide) (fun c_5 => absurd c_5 (by decide)) (fun _ => ?_)
                  refine lv_aload_n hx hb d_Ck_findIdleTurns_51 rfl (lv_at hl 1 rfl) ?_
                  refine lv_iload_n hx hb d_Ck_findIdleTurns_52 rfl (lv_at hl 3 rfl) ?_
                  refine lv_aload_n hx hb d_Ck_findIdleTurns_53 rfl (lv_at hl 2 rfl) ?_
                  refine u_get hx hb hts inTn hown hK hV hn 5 rfl rfl 2 (by decide) w_fl_Ck_102 rfl rfl d_Ck_findIdleTurns_54 ?_
                  refine lv_iload hx hb d_Ck_findIdleTurns_57 (lv_at hl 4 rfl) ?_
                  refine u_ialdN hx hb hK hV hn 8 rfl (by omega) (by decide) d_Ck_findIdleTurns_59 ?_
                  rw [o3]
                  refine v_call (va_runV (As := [.int (nI (j + 1)), .int (nI ((L.getD i z3).2.2))]) (rest := []) ⟨hx, hb, hml, hown, hts⟩ (c_Tw_leads l G lo _ _ tw ps bl sn tu pf (nd_sub hn [3, 4] (by decide) rfl) Q (by rw [vU_sub (CS := [(ck, eO 0 [.ref kk, .ref kn, .int (nI ((F ++ idlQ Q L j ++ idl Q L (j + 1) i).length))]), (kk, eI (gI G) 250 fk), (kn, eI (gI G) 250 fn), (tw, eO 5 [.ref ps, .ref bl, .ref sn, .ref tu]), (ps, eQ (gP G) 61 pf), (tu, eO 6 [.ref af, .ref ao, .ref a3, .int (nI L.length), .int (b2i of)]), (af, eI (gI G) 20 fr), (ao, eI (gI G) 20 ov), (a3, eI (gI G) 20 tt)]) hn [3, 4] rfl]; exact twB_P hB hdc) (j + 1) ((L.getD i z3).2.2) (by omega) (by omega)) (kwV 2 hts w_co_Tw_leads rfl rfl w_it_Tw w_ml_Ck_98 w_im_Tw_leads w_se_Tw__Tw_leads (by decide +kernel) ⟨(Nat.le_of_ble_eq_true rfl), (Nat.le_of_ble_eq_true rfl)⟩) (u_preV hK hV hn [3, 4] rfl hz 3 rfl rfl) rfl rfl hl.1 rfl (lv_room (Nat.le_of_ble_eq_true rfl)) d_Ck_findIdleTurns_60 ⟨(Nat.le_of_ble_eq_true rfl), (Nat.le_of_ble_eq_true rfl)⟩) hV (fun r9 V9 H locs hp hV hle => ?_)
                  obtain ⟨rfl, rfl, hz⟩ := hp
                  replace hV := uu_same hV hn [3, 4] rfl
                  rcases tf (leadQ Q (j + 1) ((L.getD i z3).2.2) 60) with d_6 | d_6
                  · have hE : idleP Q L (j + 1) i = false := by simp only [idleP, hl1, d_6, Bool.and_self, Bool.not_true, Bool.and_false]
                    have hV : vS G.1 cls lo s H locs (vU V [(ck, eO 0 [.ref kk, .ref kn, .int (nI ((F ++ idlQ Q L j ++ idl Q L (j + 1) i).length))]), (kk, eI (gI G) 250 fk), (kn, eI (gI G) 250 fn), (tw, eO 5 [.ref ps, .ref bl, .ref sn, .ref tu]), (ps, eQ (gP G) 61 pf), (tu, eO 6 [.ref af, .ref ao, .ref a3, .int (nI L.length), .int (b2i of)]), (af, eI (gI G) 20 fr), (ao, eI (gI G) 20 ov), (a3, eI (gI G) 20 tt)]) := hV
                    refine W.eq (g2 := F0 mi 63 ls [.int 1]) (by rw [d_6]; rfl) ?_
                    refine lv_if_ne (tgt := 72) hx hb d_Ck_findIdleTurns_63 (by decide) (fun _ => ?_) (fun c_7 => absurd c_7 (by decide))
                    rw [← idl_n hE] at hV hO
                    refine lv_iinc (v := nI (i + 1)) (lv' := [(4, .int (nI (i + 1))), (0, .ref ck), (1, .ref tw), (2, .ref tu), (3, .int (nI (j + 1)))]) hx hb d_Ck_findIdleTurns_72 hl (k := 4) rfl (nI_add i 1) (by decide) rfl (fun ls hl => ?_)
                    refine lv_goto (tgt := 16) hx hb d_Ck_findIdleTurns_75 (by decide) ?_
                    exact ih (i + 1) fk fn (by omega) (by omega) hO H locs ls hz hV (lv_sub hl [1, 2, 3, 4, 0] rfl)
                  · have hE : idleP Q L (j + 1) i = true := by simp only [idleP, decide_eq_true hov, d_6, Bool.and_false, Bool.false_and, Bool.not_false, Bool.and_true]
                    have hV : vS G.1 cls lo s H locs (vU V [(ck, eO 0 [.ref kk, .ref kn, .int (nI ((F ++ idlQ Q L j ++ idl Q L (j + 1) i).length))]), (kk, eI (gI G) 250 fk), (kn, eI (gI G) 250 fn), (tw, eO 5 [.ref ps, .ref bl, .ref sn, .ref tu]), (ps, eQ (gP G) 61 pf), (tu, eO 6 [.ref af, .ref ao, .ref a3, .int (nI L.length), .int (b2i of)]), (af, eI (gI G) 20 fr), (ao, eI (gI G) 20 ov), (a3, eI (gI G) 20 tt)]) := hV
                    refine W.eq (g2 := F0 mi 63 ls [.int 0]) (by rw [d_6]; rfl) ?_
                    refine lv_if_ne (tgt := 72) hx hb d_Ck_findIdleTurns_63 (by decide) (fun c_8 => absurd c_8 (by decide)) (fun _ => ?_)
                    refine lv_aload_n hx hb d_Ck_findIdleTurns_66 rfl (lv_at hl 0 rfl) ?_
                    refine lv_iconst (v := 4) hx hb d_Ck_findIdleTurns_67 (by decide) ?_
                    refine lv_iload_n hx hb d_Ck_findIdleTurns_68 rfl (lv_at hl 3 rfl) ?_
                    refine v_call (va_runV (As := [.int 4, .int (nI (j + 1))]) (rest := []) ⟨hx, hb, hml, hown, hts⟩ (c_Ck_add l G lo _ _ ck kk kn fk fn (F ++ idlQ Q L j ++ idl Q L (j + 1) i) (nd_sub hn [0, 1, 2] (by decide) rfl) hO (by rw [List.length_append, List.length_append]; have := idl_bd Q L (k := j) (i := i) (by omega); omega) 4 (j + 1)) (kwV 2 hts w_co_Ck_add rfl rfl w_it_Ck w_ml_Ck_77 w_im_Ck_add w_se_Ck__Ck_add (by decide +kernel) ⟨(Nat.le_of_ble_eq_true rfl), (Nat.le_of_ble_eq_true rfl)⟩) (u_preV hK hV hn [0, 1, 2] rfl hz 0 rfl rfl) rfl rfl hl.1 rfl (lv_room (Nat.le_of_ble_eq_true rfl)) d_Ck_findIdleTurns_69 ⟨(Nat.le_of_ble_eq_true rfl), (Nat.le_of_ble_eq_true rfl)⟩) hV (fun r9 V9 H locs hp hV hle => ?_)
                    obtain ⟨rfl, ⟨g_9k, g_9n, rfl, hO_g_9⟩, hz⟩ := hp
                    replace hV := u_back hV hn [0, 1, 2] rfl
                    have hV : vS G.1 cls lo s H locs (vU V [(ck, eO 0 [.ref kk, .ref kn, .int (nI ((F ++ idlQ Q L j ++ idl Q L (j + 1) i ++ [(4, j + 1)]).length))]), (kk, eI (gI G) 250 g_9k), (kn, eI (gI G) 250 g_9n), (tw, eO 5 [.ref ps, .ref bl, .ref sn, .ref tu]), (ps, eQ (gP G) 61 pf), (tu, eO 6 [.ref af, .ref ao, .ref a3, .int (nI L.length), .int (b2i of)]), (af, eI (gI G) 20 fr), (ao, eI (gI G) 20 ov), (a3, eI (gI G) 20 tt)]) := hV
                    rw [List.append_assoc (F ++ idlQ Q L j), ← idl_y hE] at hV hO_g_9
                    refine lv_iinc (v := nI (i + 1)) (lv' := [(4, .int (nI (i + 1))), (0, .ref ck), (1, .ref tw), (2, .ref tu), (3, .int (nI (j + 1)))]) hx hb d_Ck_findIdleTurns_72 hl (k := 4) rfl (nI_add i 1) (by decide) rfl (fun ls hl => ?_)
                    refine lv_goto (tgt := 16) hx hb d_Ck_findIdleTurns_75 (by decide) ?_
                    exact ih (i + 1) g_9k g_9n (by omega) (by omega) hO_g_9 H locs ls hz hV (lv_sub hl [1, 2, 3, 4, 0] rfl)
                · have hE : idleP Q L (j + 1) i = true := by simp only [idleP, decide_eq_true hov, d_4, Bool.and_false, Bool.false_and, Bool.not_false, Bool.and_true]
                  have hV : vS G.1 cls lo s H locs (vU V [(ck, eO 0 [.ref kk, .ref kn, .int (nI ((F ++ idlQ Q L j ++ idl Q L (j + 1) i).length))]), (kk, eI (gI G) 250 fk), (kn, eI (gI G) 250 fn), (tw, eO 5 [.ref ps, .ref bl, .ref sn, .ref tu]), (ps, eQ (gP G) 61 pf), (tu, eO 6 [.ref af, .ref ao, .ref a3, .int (nI L.length), .int (b2i of)]), (af, eI (gI G) 20 fr), (ao, eI (gI G) 20 ov), (a3, eI (gI G) 20 tt)]) := hV
                  refine W.eq (g2 := F0 mi 48 ls [.int 0]) (by rw [d_4]; rfl) ?_
                  refine lv_if_eq (tgt := 66) hx hb d_Ck_findIdleTurns_48 (by decide) (fun _ => ?_) (fun c_10 => absurd c_10 (by decide))
                  refine lv_aload_n hx hb d_Ck_findIdleTurns_66 rfl (lv_at hl 0 rfl) ?_
                  refine lv_iconst (v := 4) hx hb d_Ck_findIdleTurns_67 (by decide) ?_
                  refine lv_iload_n hx hb d_Ck_findIdleTurns_68 rfl (lv_at hl 3 rfl) ?_
                  refine v_call (va_runV (As := [.int 4, .int (nI (j + 1))]) (rest := []) ⟨hx, hb, hml, hown, hts⟩ (c_Ck_add l G lo _ _ ck kk kn fk fn (F ++ idlQ Q L j ++ idl Q L (j + 1) i) (nd_sub hn [0, 1, 2] (by decide) rfl) hO (by rw [List.length_append, List.length_append]; have := idl_bd Q L (k := j) (i := i) (by omega); omega) 4 (j + 1)) (kwV 2 hts w_co_Ck_add rfl rfl w_it_Ck w_ml_Ck_77 w_im_Ck_add w_se_Ck__Ck_add (by decide +kernel) ⟨(Nat.le_of_ble_eq_true rfl), (Nat.le_of_ble_eq_true rfl)⟩) (u_preV hK hV hn [0, 1, 2] rfl hz 0 rfl rfl) rfl rfl hl.1 rfl (lv_room (Nat.le_of_ble_eq_true rfl)) d_Ck_findIdleTurns_69 ⟨(Nat.le_of_ble_eq_true rfl), (Nat.le_of_ble_eq_true rfl)⟩) hV (fun r9 V9 H locs hp hV hle => ?_)
                  obtain ⟨rfl, ⟨g_11k, g_11n, rfl, hO_g_11⟩, hz⟩ := hp
                  replace hV := u_back hV hn [0, 1, 2] rfl
                  have hV : vS G.1 cls lo s H locs (vU V [(ck, eO 0 [.ref kk, .ref kn, .int (nI ((F ++ idlQ Q L j ++ idl Q L (j + 1) i ++ [(4, j + 1)]).length))]), (kk, eI (gI G) 250 g_11k), (kn, eI (gI G) 250 g_11n), (tw, eO 5 [.ref ps, .ref bl, .ref sn, .ref tu]), (ps, eQ (gP G) 61 pf), (tu, eO 6 [.ref af, .ref ao, .ref a3, .int (nI L.length), .int (b2i of)]), (af, eI (gI G) 20 fr), (ao, eI (gI G) 20 ov), (a3, eI (gI G) 20 tt)]) := hV
                  rw [List.append_assoc (F ++ idlQ Q L j), ← idl_y hE] at hV hO_g_11
                  refine lv_iinc (v := nI (i + 1)) (lv' := [(4, .int (nI (i + 1))), (0, .ref ck), (1, .ref tw), (2, .ref tu), (3, .int (nI (j + 1)))]) hx hb d_Ck_findIdleTurns_72 hl (k := 4) rfl (nI_add i 1) (by decide) rfl (fun ls hl => ?_)
                  refine lv_goto (tgt := 16) hx hb d_Ck_findIdleTurns_75 (by decide) ?_
                  exact ih (i + 1) g_11k g_11n (by omega) (by omega) hO_g_11 H locs ls hz hV (lv_sub hl [1, 2, 3, 4, 0] rfl)
        exact inner (L.length + 1) 0 fk fn (by omega) (by omega) hO H locs ls hz hV (lv_sub hl [1, 2, 3, 4, 0] rfl)
  have eF : F ++ idlQ Q L 0 = F := List.append_nil F
  rw [← eF] at hV hO
  exact loop 41 0 fk fn (by omega) (by omega) hO H locs ls hz hV (lv_sub hl [2, 3, 1, 0] rfl)

set_option maxHeartbeats 4000000 in
set_option maxRecDepth 100000 in
/-- Checker.findEnds -/
theorem c_Ck_findEnds (l : Launch) (G : Gx) (lo : Nat) (V : Vw) (sz : Nat) (ck kk kn : Nat) (fk fn : Nat → Int32) (F : List Two) (tw ps bl sn tu : Nat) (pf : Nat → Option Nat) (Q : Nat → Option PcR) (dy : Nat) (hn : [ck, kk, kn, tw, ps].Nodup) (hO : ckOk fk fn F) (hF : F.length ≤ 210) (hB : twB G V dy sz pf Q) (hdc : ∀ a ∈ [ck, kk, kn, tw, ps], a < dy) : Met l y_Ck_findEnds ws_Ck_findEnds ({ frames := 2, cells := 0, slots := 0, locals := 40 } : Room) (vPre G lo [.ref ck, .ref tw] (vU V [(ck, eO 0 [.ref kk, .ref kn, .int (nI F.length)]), (kk, eI (gI G) 250 fk), (kn, eI (gI G) 250 fn), (tw, eO 5 [.ref ps, .ref bl, .ref sn, .ref tu]), (ps, eQ (gP G) 61 pf)]) sz) (vPost G lo (fun r V' k => r = none ∧ (∃ f1 f2 : Nat → Int32, V' = vU V [(ck, eO 0 [.ref kk, .ref kn, .int (nI ((F ++ flt 6 (endP Q) 40).length))]), (kk, eI (gI G) 250 f1), (kn, eI (gI G) 250 f2), (tw, eO 5 [.ref ps, .ref bl, .ref sn, .ref tu]), (ps, eQ (gP G) 61 pf)] ∧ ckOk f1 f2 (F ++ flt 6 (endP Q) 40)) ∧ k = sz)) 0 0 (vL lo) := by
  refine vMet (R := RCk) (by decide) rfl (Nat.le_of_ble_eq_true rfl) ?_
  intro pg ev s mi args below meth cd hx hb hr hml hlk hnm hts hown hK hz hV ls hl
  have hl : lv_has ls 9 [(0, .ref ck), (1, .ref tw)] := hl
  have hV0 := hV
  obtain ⟨H, hH⟩ : ∃ H, H = s.heap := ⟨_, rfl⟩
  obtain ⟨locs, hlocs⟩ : ∃ locs : List Loc, locs = [] := ⟨_, rfl⟩
  rw [← hH, ← hlocs]
  rw [← hH] at hz
  replace hV : vS G.1 cls lo s H locs (vU V [(ck, eO 0 [.ref kk, .ref kn, .int (nI F.length)]), (kk, eI (gI G) 250 fk), (kn, eI (gI G) 250 fn), (tw, eO 5 [.ref ps, .ref bl, .ref sn, .ref tu]), (ps, eQ (gP G) 61 pf)]) := by rw [hH, hlocs]; exact hV
  clear hH hlocs hV0
  have ends : ∀ (k : Nat) (i : Nat) (fk fn : Nat → Int32), 40 - i < k → (i ≤ 40) → (ckOk fk fn (F ++ flt 6 (endP Q) i)) → ∀ (H : Heap) (locs : List Loc) (ls : Array Slot), H.size = sz → vS G.1 cls lo s H locs (vU V [(ck, eO 0 [.ref kk, .ref kn, .int (nI ((F ++ flt 6 (endP Q) i).length))]), (kk, eI (gI G) 250 fk), (kn, eI (gI G) 250 fn), (tw, eO 5 [.ref ps, .ref bl, .ref sn, .ref tu]), (ps, eQ (gP G) 61 pf)]) → lv_has ls 9 [(0, .ref ck), (1, .ref tw), (6, .long (lN (toQ Q 60) &&& (lN (frQ Q 60) ^^^ (-1 : Int64)))), (8, .int (nI (i + 1)))] → W pg l ev ({ frames := 2, cells := 0, slots := 0, locals := 40 } : Room) s mi args below meth cd H locs 0 0 (MQ below (vPost G lo (fun r V' k => r = none ∧ (∃ f1 f2 : Nat → Int32, V' = vU V [(ck, eO 0 [.ref kk, .ref kn, .int (nI ((F ++ flt 6 (endP Q) 40).length))]), (kk, eI (gI G) 250 f1), (kn, eI (gI G) 250 f2), (tw, eO 5 [.ref ps, .ref bl, .ref sn, .ref tu]), (ps, eQ (gP G) 61 pf)] ∧ ckOk f1 f2 (F ++ flt 6 (endP Q) 40)) ∧ k = sz)) args s 0 0 (vL lo)) (F0 mi 65 ls []) := by
    intro k
    induction k with
    | zero => intro i fk fn hk; exact absurd hk (by omega)
    | succ k ih =>
      intro i fk fn hk hi hO H locs ls hz hV hl
      refine lv_iload hx hb d_Ck_findEnds_65 (lv_at hl 3 rfl) ?_
      refine lv_bipush (v := 40) hx hb d_Ck_findEnds_67 (by decide) ?_
      refine lv_icmp_gt (tgt := 98) hx hb d_Ck_findEnds_69 (by decide) (fun c_1 => ?_) (fun c_1 => ?_)
      · replace c_1 : 40 < i + 1 := (nI_ltI (a := 40) (b := i + 1) (by omega) (by omega)).mp c_1
        exact W.vret hx hb hr (v_end hV ⟨rfl, ⟨fk, fn, by rw [show i = 40 by omega], by rw [show i = 40 by omega] at hO; exact hO⟩, hz⟩) hV.2.1.2.2 d_Ck_findEnds_98
      · replace c_1 : ¬ 40 < i + 1 := fun z9 => c_1 ((nI_ltI (a := 40) (b := i + 1) (by omega) (by omega)).mpr z9)
        refine lv_lload hx hb d_Ck_findEnds_72 (lv_at hl 2 rfl) ?_
        refine lv_iload hx hb d_Ck_findEnds_74 (lv_at hl 3 rfl) ?_
        refine lv_lshr (v := (lN (toQ Q 60) &&& (lN (frQ Q 60) ^^^ (-1 : Int64))) >>> ((nI (i + 1)).toInt64 &&& 63)) hx hb d_Ck_findEnds_76 (rfl) ?_
        refine lv_lconst (v := 1) hx hb d_Ck_findEnds_77 (by decide) ?_
        refine e_land (v := ((lN (toQ Q 60) &&& (lN (frQ Q 60) ^^^ (-1 : Int64))) >>> ((nI (i + 1)).toInt64 &&& 63)) &&& ((1 : Int64))) hx hb d_Ck_findEnds_78 (rfl) ?_
        refine lv_lconst (v := 0) hx hb d_Ck_findEnds_79 (by decide) ?_
        refine W.lcmp hx hb d_Ck_findEnds_80 ?_
        refine lv_if_eq (tgt := 92) hx hb d_Ck_findEnds_81 (by decide) (fun c_2 => ?_) (fun c_2 => ?_)
        · have hE : endP Q (i + 1) = false := by have h9 := (bit_s (by omega)).mp ((lg_cmp_eq _ _).mp c_2); rw [bit_e (by omega)] at h9; exact h9
          rw [app_n hE] at hV hO
          refine lv_iinc (v := nI (i + 2)) (lv' := [(8, .int (nI (i + 2))), (0, .ref ck), (1, .ref tw), (6, .long (lN (toQ Q 60) &&& (lN (frQ Q 60) ^^^ (-1 : Int64))))]) hx hb d_Ck_findEnds_92 hl (k := 3) rfl (nI_add (i + 1) 1) (by decide) rfl (fun ls hl => ?_)
          refine lv_goto (tgt := 65) hx hb d_Ck_findEnds_95 (by decide) ?_
          exact ih (i + 1) fk fn (by omega) (by omega) hO H locs ls hz hV (lv_sub hl [1, 2, 3, 0] rfl)
        · have hE : endP Q (i + 1) = true := by
            refine ts_nf (fun h9 => c_2 ((lg_cmp_eq _ _).mpr ((bit_s (by omega)).mpr ?_)))
            rw [bit_e (by omega)]; exact h9
          refine lv_aload_n hx hb d_Ck_findEnds_84 rfl (lv_at hl 0 rfl) ?_
          refine lv_bipush (v := 6) hx hb d_Ck_findEnds_85 (by decide) ?_
          refine lv_iload hx hb d_Ck_findEnds_87 (lv_at hl 3 rfl) ?_
          refine v_call (va_runV (As := [.int 6, .int (nI (i + 1))]) (rest := []) ⟨hx, hb, hml, hown, hts⟩ (c_Ck_add l G lo _ _ ck kk kn fk fn (F ++ flt 6 (endP Q) i) (nd_sub hn [0, 1, 2] (by decide) rfl) hO (by rw [List.length_append]; have := flt_le 6 (endP Q) i; omega) 6 (i + 1)) (kwV 2 hts w_co_Ck_add rfl rfl w_it_Ck w_ml_Ck_77 w_im_Ck_add w_se_Ck__Ck_add (by decide +kernel) ⟨(Nat.le_of_ble_eq_true rfl), (Nat.le_of_ble_eq_true rfl)⟩) (u_preV hK hV hn [0, 1, 2] rfl hz 0 rfl rfl) rfl rfl hl.1 rfl (lv_room (Nat.le_of_ble_eq_true rfl)) d_Ck_findEnds_89 ⟨(Nat.le_of_ble_eq_true rfl), (Nat.le_of_ble_eq_true rfl)⟩) hV (fun r9 V9 H locs hp hV hle => ?_)
          obtain ⟨rfl, ⟨g_3k, g_3n, rfl, hO_g_3⟩, hz⟩ := hp
          replace hV := u_back hV hn [0, 1, 2] rfl
          have hV : vS G.1 cls lo s H locs (vU V [(ck, eO 0 [.ref kk, .ref kn, .int (nI ((F ++ flt 6 (endP Q) i ++ [(6, i + 1)]).length))]), (kk, eI (gI G) 250 g_3k), (kn, eI (gI G) 250 g_3n), (tw, eO 5 [.ref ps, .ref bl, .ref sn, .ref tu]), (ps, eQ (gP G) 61 pf)]) := hV
          rw [app_y hE] at hV hO_g_3
          refine lv_iinc (v := nI (i + 2)) (lv' := [(8, .int (nI (i + 2))), (0, .ref ck), (1, .ref tw), (6, .long (lN (toQ Q 60) &&& (lN (frQ Q 60) ^^^ (-1 : Int64))))]) hx hb d_Ck_findEnds_92 hl (k := 3) rfl (nI_add (i + 1) 1) (by decide) rfl (fun ls hl => ?_)
          refine lv_goto (tgt := 65) hx hb d_Ck_findEnds_95 (by decide) ?_
          exact ih (i + 1) g_3k g_3n (by omega) (by omega) hO_g_3 H locs ls hz hV (lv_sub hl [1, 2, 3, 0] rfl)
  refine lv_lconst (v := 0) hx hb d_Ck_findEnds_0 (by decide) ?_
  refine lv_lstore_n (lv' := [(2, .long ((0 : Int64))), (0, .ref ck), (1, .ref tw)]) hx hb d_Ck_findEnds_1 rfl hl (by decide) rfl (fun ls hl => ?_)
  refine lv_lconst (v := 0) hx hb d_Ck_findEnds_2 (by decide) ?_
  refine lv_lstore (lv' := [(4, .long ((0 : Int64))), (2, .long ((0 : Int64))), (0, .ref ck), (1, .ref tw)]) hx hb d_Ck_findEnds_3 hl (by decide) rfl (fun ls hl => ?_)
  refine lv_iconst (v := 1) hx hb d_Ck_findEnds_5 (by decide) ?_
  refine lv_istore (lv' := [(6, .int 1), (4, .long ((0 : Int64))), (2, .long ((0 : Int64))), (0, .ref ck), (1, .ref tw)]) hx hb d_Ck_findEnds_6 hl (by decide) rfl (fun ls hl => ?_)
  have loop : ∀ (k : Nat) (i : Nat), 60 - i < k → (i ≤ 60) → (toQ Q i < 2 ^ 41) → (frQ Q i < 2 ^ 41) → ∀ (H : Heap) (locs : List Loc) (ls : Array Slot), H.size = sz → vS G.1 cls lo s H locs (vU V [(ck, eO 0 [.ref kk, .ref kn, .int (nI F.length)]), (kk, eI (gI G) 250 fk), (kn, eI (gI G) 250 fn), (tw, eO 5 [.ref ps, .ref bl, .ref sn, .ref tu]), (ps, eQ (gP G) 61 pf)]) → lv_has ls 9 [(0, .ref ck), (1, .ref tw), (2, .long (lN (toQ Q i))), (4, .long (lN (frQ Q i))), (6, .int (nI (i + 1)))] → W pg l ev ({ frames := 2, cells := 0, slots := 0, locals := 40 } : Room) s mi args below meth cd H locs 0 0 (MQ below (vPost G lo (fun r V' k => r = none ∧ (∃ f1 f2 : Nat → Int32, V' = vU V [(ck, eO 0 [.ref kk, .ref kn, .int (nI ((F ++ flt 6 (endP Q) 40).length))]), (kk, eI (gI G) 250 f1), (kn, eI (gI G) 250 f2), (tw, eO 5 [.ref ps, .ref bl, .ref sn, .ref tu]), (ps, eQ (gP G) 61 pf)] ∧ ckOk f1 f2 (F ++ flt 6 (endP Q) 40)) ∧ k = sz)) args s 0 0 (vL lo)) (F0 mi 8 ls []) := by
    intro k
    induction k with
    | zero => intro i hk; exact absurd hk (by omega)
    | succ k ih =>
      intro i hk hi t0 f0 H locs ls hz hV hl
      refine lv_iload hx hb d_Ck_findEnds_8 (lv_at hl 4 rfl) ?_
      refine lv_bipush (v := 60) hx hb d_Ck_findEnds_10 (by decide) ?_
      refine lv_icmp_gt (tgt := 52) hx hb d_Ck_findEnds_12 (by decide) (fun c_4 => ?_) (fun c_4 => ?_)
      · replace c_4 : 60 < i + 1 := (nI_ltI (a := 60) (b := i + 1) (by omega) (by omega)).mp c_4
        have e60 : i = 60 := by omega
        subst e60
        refine lv_lload_n hx hb d_Ck_findEnds_52 rfl (lv_at hl 2 rfl) ?_
        refine lv_lload hx hb d_Ck_findEnds_53 (lv_at hl 3 rfl) ?_
        refine lv_ldc2 hx hb hown (hts _ w_cL_Ck_119) d_Ck_findEnds_55 ?_
        refine e_lxor (v := (lN (frQ Q 60)) ^^^ ((-1 : Int64))) hx hb d_Ck_findEnds_58 (rfl) ?_
        refine e_land (v := (lN (toQ Q 60)) &&& ((lN (frQ Q 60)) ^^^ ((-1 : Int64)))) hx hb d_Ck_findEnds_59 (rfl) ?_
        refine lv_lstore (lv' := [(6, .long ((lN (toQ Q 60)) &&& ((lN (frQ Q 60)) ^^^ ((-1 : Int64))))), (0, .ref ck), (1, .ref tw), (2, .long (lN (toQ Q 60))), (4, .long (lN (frQ Q 60)))]) hx hb d_Ck_findEnds_60 hl (by decide) rfl (fun ls hl => ?_)
        refine lv_iconst (v := 1) hx hb d_Ck_findEnds_62 (by decide) ?_
        refine lv_istore (lv' := [(8, .int 1), (6, .long ((lN (toQ Q 60)) &&& ((lN (frQ Q 60)) ^^^ ((-1 : Int64))))), (0, .ref ck), (1, .ref tw), (2, .long (lN (toQ Q 60))), (4, .long (lN (frQ Q 60)))]) hx hb d_Ck_findEnds_63 hl (by decide) rfl (fun ls hl => ?_)
        have eF : F ++ flt 6 (endP Q) 0 = F := List.append_nil F
        rw [← eF] at hV hO
        exact ends 41 0 fk fn (by omega) (by omega) hO H locs ls hz hV (lv_sub hl [2, 3, 1, 0] rfl)
      · replace c_4 : ¬ 60 < i + 1 := fun z9 => c_4 ((nI_ltI (a := 60) (b := i + 1) (by omega) (by omega)).mpr z9)
        refine lv_aload_n hx hb d_Ck_findEnds_15 rfl (lv_at hl 1 rfl) ?_
        refine lv_iload hx hb d_Ck_findEnds_16 (lv_at hl 4 rfl) ?_
        refine v_call (va_runV (As := [.int (nI (i + 1))]) (rest := []) ⟨hx, hb, hml, hown, hts⟩ (c_Tw_find l G lo _ _ tw ps bl sn tu pf (nd_sub hn [3, 4] (by decide) rfl) (nI (i + 1))) (kwV 1 hts w_co_Tw_find rfl rfl w_it_Tw w_ml_Ck_65 w_im_Tw_find w_se_Tw__Tw_find (by decide +kernel) ⟨(Nat.le_of_ble_eq_true rfl), (Nat.le_of_ble_eq_true rfl)⟩) (u_preV hK hV hn [3, 4] rfl hz 3 rfl rfl) rfl rfl hl.1 rfl (lv_room (Nat.le_of_ble_eq_true rfl)) d_Ck_findEnds_18 ⟨(Nat.le_of_ble_eq_true rfl), (Nat.le_of_ble_eq_true rfl)⟩) hV (fun r9 V9 H locs hp hV hle => ?_)
        obtain ⟨rfl, rfl, hz⟩ := hp
        replace hV := uu_same hV hn [3, 4] rfl
        have hV : vS G.1 cls lo s H locs (vU V [(ck, eO 0 [.ref kk, .ref kn, .int (nI F.length)]), (kk, eI (gI G) 250 fk), (kn, eI (gI G) 250 fn), (tw, eO 5 [.ref ps, .ref bl, .ref sn, .ref tu]), (ps, eQ (gP G) 61 pf)]) := hV
        refine W.eq (g2 := F0 mi 21 ls [va_rf (twFind pf (nI (i + 1)))]) rfl ?_
        rw [twFind_in (pf := pf) (j := i + 1) (by omega) (by omega)]
        rcases o_5 : pf (i + 1) with _ | a_5
        · refine W.eq (g2 := F0 mi 21 ls [.null]) rfl ?_
          have hQ_R := hB.no (j := i + 1) (by omega) (by omega) o_5
          have t2 : toQ Q (i + 1) < 2 ^ 41 := by rw [toQ_n hQ_R]; exact t0
          have f2 : frQ Q (i + 1) < 2 ^ 41 := by rw [frQ_n hQ_R]; exact f0
          rw [← toQ_n hQ_R, ← frQ_n hQ_R] at hl
          refine lv_astoreN (lv' := [(7, .null), (0, .ref ck), (1, .ref tw), (2, .long (lN (toQ Q (i + 1)))), (4, .long (lN (frQ Q (i + 1)))), (6, .int (nI (i + 1)))]) hx hb d_Ck_findEnds_21 hl (by decide) rfl (fun ls hl => ?_)
          refine lv_aloadN hx hb d_Ck_findEnds_23 (lv_at hl 0 rfl) ?_
          refine lv_ifnullN (tgt := 46) hx hb d_Ck_findEnds_25 (by decide) ?_
          refine lv_iinc (v := nI (i + 2)) (lv' := [(6, .int (nI (i + 2))), (7, .null), (0, .ref ck), (1, .ref tw), (2, .long (lN (toQ Q (i + 1)))), (4, .long (lN (frQ Q (i + 1))))]) hx hb d_Ck_findEnds_46 hl (k := 5) rfl (nI_add (i + 1) 1) (by decide) rfl (fun ls hl => ?_)
          refine lv_goto (tgt := 8) hx hb d_Ck_findEnds_49 (by decide) ?_
          exact ih (i + 1) (by omega) (by omega) t2 f2 H locs ls hz hV (lv_sub hl [2, 3, 4, 5, 0] rfl)
        · refine W.eq (g2 := F0 mi 21 ls [.ref a_5]) rfl ?_
          obtain ⟨R, hQ_R, hp, hdhp⟩ := hB.yes (j := i + 1) (by omega) (by omega) o_5
          have t2 : toQ Q (i + 1) < 2 ^ 41 := by rw [toQ_s hQ_R]; exact Nat.or_lt_two_pow t0 (toN_lt hp.2.2)
          have f2 : frQ Q (i + 1) < 2 ^ 41 := by rw [frQ_s hQ_R]; exact Nat.or_lt_two_pow f0 (fromN_lt hp.2.2)
          refine lv_astore (lv' := [(7, .ref a_5), (0, .ref ck), (1, .ref tw), (2, .long (lN (toQ Q i))), (4, .long (lN (frQ Q i))), (6, .int (nI (i + 1)))]) hx hb d_Ck_findEnds_21 hl (by decide) rfl (fun ls hl => ?_)
          refine lv_aload hx hb d_Ck_findEnds_23 (lv_at hl 0 rfl) ?_
          refine lv_ifnull hx hb d_Ck_findEnds_25 ?_
          refine lv_lload_n hx hb d_Ck_findEnds_28 rfl (lv_at hl 3 rfl) ?_
          refine lv_aload hx hb d_Ck_findEnds_29 (lv_at hl 0 rfl) ?_
          refine v_call (va_runV (As := []) (rest := [.long (lN (toQ Q i))]) ⟨hx, hb, hml, hown, hts⟩ (c_Pc_nodesToWhichItGoes l G lo _ _ a_5 _ _ _ R hp.2.2) (kwV 0 hts w_co_Pc_nodesToWhichItGoes rfl rfl w_it_Pc w_ml_Ck_112 w_im_Pc_nodesToWhichItGoes w_se_Pc__Pc_nodesToWhichItGoes (by decide +kernel) ⟨(Nat.le_of_ble_eq_true rfl), (Nat.le_of_ble_eq_true rfl)⟩) (v_preV hK hV (vU_all (fa1 (pcAt_vU (cs := [(ck, eO 0 [.ref kk, .ref kn, .int (nI F.length)]), (kk, eI (gI G) 250 fk), (kn, eI (gI G) 250 fn), (tw, eO 5 [.ref ps, .ref bl, .ref sn, .ref tu]), (ps, eQ (gP G) 61 pf)]) hp hdc hdhp).1)) hz (pcAt_vU (cs := [(ck, eO 0 [.ref kk, .ref kn, .int (nI F.length)]), (kk, eI (gI G) 250 fk), (kn, eI (gI G) 250 fn), (tw, eO 5 [.ref ps, .ref bl, .ref sn, .ref tu]), (ps, eQ (gP G) 61 pf)]) hp hdc hdhp).1 rfl) rfl rfl hl.1 rfl (lv_room (Nat.le_of_ble_eq_true rfl)) d_Ck_findEnds_31 ⟨(Nat.le_of_ble_eq_true rfl), (Nat.le_of_ble_eq_true rfl)⟩) hV (fun r9 V9 H locs hp hV hle => ?_)
          obtain ⟨rfl, rfl, hz⟩ := hp
          replace hV := vS_all (fa1 (pcAt_vU (cs := [(ck, eO 0 [.ref kk, .ref kn, .int (nI F.length)]), (kk, eI (gI G) 250 fk), (kn, eI (gI G) 250 fn), (tw, eO 5 [.ref ps, .ref bl, .ref sn, .ref tu]), (ps, eQ (gP G) 61 pf)]) hp hdc hdhp).1) hV
          have hV : vS G.1 cls lo s H locs (vU V [(ck, eO 0 [.ref kk, .ref kn, .int (nI F.length)]), (kk, eI (gI G) 250 fk), (kn, eI (gI G) 250 fn), (tw, eO 5 [.ref ps, .ref bl, .ref sn, .ref tu]), (ps, eQ (gP G) 61 pf)]) := hV
          refine W.eq (g2 := F0 mi 34 ls [.long (lN (toN R)), .long (lN (toQ Q i))]) rfl ?_
          refine e_lor (v := lN (toQ Q (i + 1))) hx hb d_Ck_findEnds_34 (by rw [toQ_s hQ_R]; exact lN_or t0 (toN_lt hp.2.2)) ?_
          refine lv_lstore_n (lv' := [(2, .long (lN (toQ Q (i + 1)))), (7, .ref a_5), (0, .ref ck), (1, .ref tw), (4, .long (lN (frQ Q i))), (6, .int (nI (i + 1)))]) hx hb d_Ck_findEnds_35 rfl hl (by decide) rfl (fun ls hl => ?_)
          refine lv_lload hx hb d_Ck_findEnds_36 (lv_at hl 4 rfl) ?_
          refine lv_aload hx hb d_Ck_findEnds_38 (lv_at hl 1 rfl) ?_
          refine v_call (va_runV (As := []) (rest := [.long (lN (frQ Q i))]) ⟨hx, hb, hml, hown, hts⟩ (c_Pc_nodesFromWhichItGoes l G lo _ _ a_5 _ _ _ R hp.2.2) (kwV 0 hts w_co_Pc_nodesFromWhichItGoes rfl rfl w_it_Pc w_ml_Ck_116 w_im_Pc_nodesFromWhichItGoes w_se_Pc__Pc_nodesFromWhichItGoes (by decide +kernel) ⟨(Nat.le_of_ble_eq_true rfl), (Nat.le_of_ble_eq_true rfl)⟩) (v_preV hK hV (vU_all (fa1 (pcAt_vU (cs := [(ck, eO 0 [.ref kk, .ref kn, .int (nI F.length)]), (kk, eI (gI G) 250 fk), (kn, eI (gI G) 250 fn), (tw, eO 5 [.ref ps, .ref bl, .ref sn, .ref tu]), (ps, eQ (gP G) 61 pf)]) hp hdc hdhp).1)) hz (pcAt_vU (cs := [(ck, eO 0 [.ref kk, .ref kn, .int (nI F.length)]), (kk, eI (gI G) 250 fk), (kn, eI (gI G) 250 fn), (tw, eO 5 [.ref ps, .ref bl, .ref sn, .ref tu]), (ps, eQ (gP G) 61 pf)]) hp hdc hdhp).1 rfl) rfl rfl hl.1 rfl (lv_room (Nat.le_of_ble_eq_true rfl)) d_Ck_findEnds_40 ⟨(Nat.le_of_ble_eq_true rfl), (Nat.le_of_ble_eq_true rfl)⟩) hV (fun r9 V9 H locs hp hV hle => ?_)
          obtain ⟨rfl, rfl, hz⟩ := hp
          replace hV := vS_all (fa1 (pcAt_vU (cs := [(ck, eO 0 [.ref kk, .ref kn, .int (nI F.length)]), (kk, eI (gI G) 250 fk), (kn, eI (gI G) 250 fn), (tw, eO 5 [.ref ps, .ref bl, .ref sn, .ref tu]), (ps, eQ (gP G) 61 pf)]) hp hdc hdhp).1) hV
          have hV : vS G.1 cls lo s H locs (vU V [(ck, eO 0 [.ref kk, .ref kn, .int (nI F.length)]), (kk, eI (gI G) 250 fk), (kn, eI (gI G) 250 fn), (tw, eO 5 [.ref ps, .ref bl, .ref sn, .ref tu]), (ps, eQ (gP G) 61 pf)]) := hV
          refine W.eq (g2 := F0 mi 43 ls [.long (lN (fromN R)), .long (lN (frQ Q i))]) rfl ?_
          refine e_lor (v := lN (frQ Q (i + 1))) hx hb d_Ck_findEnds_43 (by rw [frQ_s hQ_R]; exact lN_or f0 (fromN_lt hp.2.2)) ?_
          refine lv_lstore (lv' := [(4, .long (lN (frQ Q (i + 1)))), (2, .long (lN (toQ Q (i + 1)))), (7, .ref a_5), (0, .ref ck), (1, .ref tw), (6, .int (nI (i + 1)))]) hx hb d_Ck_findEnds_44 hl (by decide) rfl (fun ls hl => ?_)
          refine lv_iinc (v := nI (i + 2)) (lv' := [(6, .int (nI (i + 2))), (4, .long (lN (frQ Q (i + 1)))), (2, .long (lN (toQ Q (i + 1)))), (7, .ref a_5), (0, .ref ck), (1, .ref tw)]) hx hb d_Ck_findEnds_46 hl (k := 5) rfl (nI_add (i + 1) 1) (by decide) rfl (fun ls hl => ?_)
          refine lv_goto (tgt := 8) hx hb d_Ck_findEnds_49 (by decide) ?_
          exact ih (i + 1) (by omega) (by omega) t2 f2 H locs ls hz hV (lv_sub hl [4, 5, 2, 1, 0] rfl)
  exact loop 61 0 (by omega) (by omega) (show 0 < 2 ^ 41 by decide) (show 0 < 2 ^ 41 by decide) H locs ls hz hV (lv_sub hl [3, 4, 2, 1, 0] rfl)

set_option maxHeartbeats 4000000 in
set_option maxRecDepth 100000 in
/-- Checker.nodesReachedFrom -/
theorem c_Ck_nodesReachedFrom (l : Launch) (G : Gx) (lo : Nat) (V : Vw) (sz : Nat) (ck tw ps bl sn tu : Nat) (vs : List Value) (pf : Nat → Option Nat) (Q : Nat → Option PcR) (dy : Nat) (hn : [ck, tw, ps].Nodup) (hB : twB G V dy sz pf Q) (hdc : ∀ a ∈ [ck, tw, ps], a < dy) (m : Nat) (hm : m < 2 ^ 41) : Met l y_Ck_nodesReachedFrom ws_Ck_nodesReachedFrom ({ frames := 2, cells := 0, slots := 0, locals := 40 } : Room) (vPre G lo [.ref ck, .ref tw, .long (lN m)] (vU V [(ck, eO 0 vs), (tw, eO 5 [.ref ps, .ref bl, .ref sn, .ref tu]), (ps, eQ (gP G) 61 pf)]) sz) (vPost G lo (fun r V' k => r = some (.long (lN (rnds Q m 40))) ∧ V' = vU V [(ck, eO 0 vs), (tw, eO 5 [.ref ps, .ref bl, .ref sn, .ref tu]), (ps, eQ (gP G) 61 pf)] ∧ k = sz)) 0 0 (vL lo) := by
  refine vMet (R := RCk) (by decide) rfl (Nat.le_of_ble_eq_true rfl) ?_
  intro pg ev s mi args below meth cd hx hb hr hml hlk hnm hts hown hK hz hV ls hl
  have hl : lv_has ls 11 [(0, .ref ck), (1, .ref tw), (2, .long (lN m))] := hl
  have hV0 := hV
  obtain ⟨H, hH⟩ : ∃ H, H = s.heap := ⟨_, rfl⟩
  obtain ⟨locs, hlocs⟩ : ∃ locs : List Loc, locs = [] := ⟨_, rfl⟩
  rw [← hH, ← hlocs]
  rw [← hH] at hz
  replace hV : vS G.1 cls lo s H locs (vU V [(ck, eO 0 vs), (tw, eO 5 [.ref ps, .ref bl, .ref sn, .ref tu]), (ps, eQ (gP G) 61 pf)]) := by rw [hH, hlocs]; exact hV
  clear hH hlocs hV0
  refine lv_lload_n hx hb d_Ck_nodesReachedFrom_0 rfl (lv_at hl 2 rfl) ?_
  refine lv_lstore (lv' := [(4, .long (lN m)), (0, .ref ck), (1, .ref tw), (2, .long (lN m))]) hx hb d_Ck_nodesReachedFrom_1 hl (by decide) rfl (fun ls hl => ?_)
  refine lv_iconst (v := 0) hx hb d_Ck_nodesReachedFrom_3 (by decide) ?_
  refine lv_istore (lv' := [(6, .int 0), (4, .long (lN m)), (0, .ref ck), (1, .ref tw), (2, .long (lN m))]) hx hb d_Ck_nodesReachedFrom_4 hl (by decide) rfl (fun ls hl => ?_)
  have loop : ∀ (k : Nat) (r : Nat), 40 - r < k → (r ≤ 40) → (rnds Q m r < 2 ^ 41) → ∀ (H : Heap) (locs : List Loc) (ls : Array Slot), H.size = sz → vS G.1 cls lo s H locs (vU V [(ck, eO 0 vs), (tw, eO 5 [.ref ps, .ref bl, .ref sn, .ref tu]), (ps, eQ (gP G) 61 pf)]) → lv_has ls 11 [(0, .ref ck), (1, .ref tw), (4, .long (lN (rnds Q m r))), (6, .int (nI r))] → W pg l ev ({ frames := 2, cells := 0, slots := 0, locals := 40 } : Room) s mi args below meth cd H locs 0 0 (MQ below (vPost G lo (fun r V' k => r = some (.long (lN (rnds Q m 40))) ∧ V' = vU V [(ck, eO 0 vs), (tw, eO 5 [.ref ps, .ref bl, .ref sn, .ref tu]), (ps, eQ (gP G) 61 pf)] ∧ k = sz)) args s 0 0 (vL lo)) (F0 mi 6 ls []) := by
    intro k
    induction k with
    | zero => intro r hk; exact absurd hk (by omega)
    | succ k ih =>
      intro r hk hr0 hbr H locs ls hz hV hl
      refine lv_iload hx hb d_Ck_nodesReachedFrom_6 (lv_at hl 3 rfl) ?_
      refine lv_bipush (v := 40) hx hb d_Ck_nodesReachedFrom_8 (by decide) ?_
      refine lv_icmp_ge (tgt := 94) hx hb d_Ck_nodesReachedFrom_10 (by decide) (fun c_1 => ?_) (fun c_1 => ?_)
      · replace c_1 : 40 ≤ r := (nI_leI (a := 40) (b := r) (by omega) (by omega)).mp c_1
        refine lv_lload hx hb d_Ck_nodesReachedFrom_94 (lv_at hl 2 rfl) ?_
        exact W.lret (v := lN (rnds Q m r)) hx hb hr (v_end hV ⟨by rw [show r = 40 by omega], rfl, hz⟩) hV.2.1.2.2 d_Ck_nodesReachedFrom_96
      · replace c_1 : ¬ 40 ≤ r := fun z9 => c_1 ((nI_leI (a := 40) (b := r) (by omega) (by omega)).mpr z9)
        refine lv_lload hx hb d_Ck_nodesReachedFrom_13 (lv_at hl 2 rfl) ?_
        refine lv_lstore (lv' := [(7, .long (lN (rnds Q m r))), (0, .ref ck), (1, .ref tw), (4, .long (lN (rnds Q m r))), (6, .int (nI r))]) hx hb d_Ck_nodesReachedFrom_15 hl (by decide) rfl (fun ls hl => ?_)
        refine lv_iconst (v := 1) hx hb d_Ck_nodesReachedFrom_17 (by decide) ?_
        refine lv_istore (lv' := [(9, .int 1), (7, .long (lN (rnds Q m r))), (0, .ref ck), (1, .ref tw), (4, .long (lN (rnds Q m r))), (6, .int (nI r))]) hx hb d_Ck_nodesReachedFrom_18 hl (by decide) rfl (fun ls hl => ?_)
        have ihO := @ih
        have hk9 := hk
        have inner : ∀ (k : Nat) (i : Nat), 60 - i < k → (i ≤ 60) → (rnd Q (rnds Q m r) i < 2 ^ 41) → ∀ (H : Heap) (locs : List Loc) (ls : Array Slot), H.size = sz → vS G.1 cls lo s H locs (vU V [(ck, eO 0 vs), (tw, eO 5 [.ref ps, .ref bl, .ref sn, .ref tu]), (ps, eQ (gP G) 61 pf)]) → lv_has ls 11 [(0, .ref ck), (1, .ref tw), (4, .long (lN (rnd Q (rnds Q m r) i))), (6, .int (nI r)), (7, .long (lN (rnds Q m r))), (9, .int (nI (i + 1)))] → W pg l ev ({ frames := 2, cells := 0, slots := 0, locals := 40 } : Room) s mi args below meth cd H locs 0 0 (MQ below (vPost G lo (fun r V' k => r = some (.long (lN (rnds Q m 40))) ∧ V' = vU V [(ck, eO 0 vs), (tw, eO 5 [.ref ps, .ref bl, .ref sn, .ref tu]), (ps, eQ (gP G) 61 pf)] ∧ k = sz)) args s 0 0 (vL lo)) (F0 mi 20 ls []) := by
          intro k
          induction k with
          | zero => intro i hk; exact absurd hk (by omega)
          | succ k ih =>
            intro i hk hi hbi H locs ls hz hV hl
            refine lv_iload hx hb d_Ck_nodesReachedFrom_20 (lv_at hl 5 rfl) ?_
            refine lv_bipush (v := 60) hx hb d_Ck_nodesReachedFrom_22 (by decide) ?_
            refine lv_icmp_gt (tgt := 77) hx hb d_Ck_nodesReachedFrom_24 (by decide) (fun c_2 => ?_) (fun c_2 => ?_)
            · replace c_2 : 60 < i + 1 := (nI_ltI (a := 60) (b := i + 1) (by omega) (by omega)).mp c_2
              have e60 : i = 60 := by omega
              subst e60
              rw [show rnd Q (rnds Q m r) 60 = rnds Q m (r + 1) from rfl] at hl hbi
              refine lv_lload hx hb d_Ck_nodesReachedFrom_77 (lv_at hl 2 rfl) ?_
              refine lv_lload hx hb d_Ck_nodesReachedFrom_79 (lv_at hl 4 rfl) ?_
              refine W.lcmp hx hb d_Ck_nodesReachedFrom_81 ?_
              refine lv_if_ne (tgt := 88) hx hb d_Ck_nodesReachedFrom_82 (by decide) (fun c_3 => ?_) (fun c_3 => ?_)
              · refine lv_iinc (v := nI (r + 1)) (lv' := [(6, .int (nI (r + 1))), (0, .ref ck), (1, .ref tw), (4, .long (lN (rnds Q m (r + 1)))), (7, .long (lN (rnds Q m r))), (9, .int (nI (60 + 1)))]) hx hb d_Ck_nodesReachedFrom_88 hl (k := 3) rfl (nI_add r 1) (by decide) rfl (fun ls hl => ?_)
                refine lv_goto (tgt := 6) hx hb d_Ck_nodesReachedFrom_91 (by decide) ?_
                exact ihO (r + 1) (by omega) (by omega) hbi H locs ls hz hV (lv_sub hl [1, 2, 3, 0] rfl)
              · have hfix : rnds Q m (r + 1) = rnds Q m r := lN_inj (by omega) (by omega) ((lg_cmp_eq _ _).mp c_3)
                refine lv_goto (tgt := 94) hx hb d_Ck_nodesReachedFrom_85 (by decide) ?_
                refine lv_lload hx hb d_Ck_nodesReachedFrom_94 (lv_at hl 2 rfl) ?_
                exact W.lret (v := lN (rnds Q m (r + 1))) hx hb hr (v_end hV ⟨by rw [rnds_fix hfix 40 (by omega), ← hfix], rfl, hz⟩) hV.2.1.2.2 d_Ck_nodesReachedFrom_96
            · replace c_2 : ¬ 60 < i + 1 := fun z9 => c_2 ((nI_ltI (a := 60) (b := i + 1) (by omega) (by omega)).mpr z9)
              refine lv_aload_n hx hb d_Ck_nodesReachedFrom_27 rfl (lv_at hl 1 rfl) ?_
              refine lv_iload hx hb d_Ck_nodesReachedFrom_28 (lv_at hl 5 rfl) ?_
              refine v_call (va_runV (As := [.int (nI (i + 1))]) (rest := []) ⟨hx, hb, hml, hown, hts⟩ (c_Tw_find l G lo _ _ tw ps bl sn tu pf (nd_sub hn [1, 2] (by decide) rfl) (nI (i + 1))) (kwV 1 hts w_co_Tw_find rfl rfl w_it_Tw w_ml_Ck_65 w_im_Tw_find w_se_Tw__Tw_find (by decide +kernel) ⟨(Nat.le_of_ble_eq_true rfl), (Nat.le_of_ble_eq_true rfl)⟩) (u_preV hK hV hn [1, 2] rfl hz 1 rfl rfl) rfl rfl hl.1 rfl (lv_room (Nat.le_of_ble_eq_true rfl)) d_Ck_nodesReachedFrom_30 ⟨(Nat.le_of_ble_eq_true rfl), (Nat.le_of_ble_eq_true rfl)⟩) hV (fun r9 V9 H locs hp hV hle => ?_)
              obtain ⟨rfl, rfl, hz⟩ := hp
              replace hV := uu_same hV hn [1, 2] rfl
              have hV : vS G.1 cls lo s H locs (vU V [(ck, eO 0 vs), (tw, eO 5 [.ref ps, .ref bl, .ref sn, .ref tu]), (ps, eQ (gP G) 61 pf)]) := hV
              refine W.eq (g2 := F0 mi 33 ls [va_rf (twFind pf (nI (i + 1)))]) rfl ?_
              rw [twFind_in (pf := pf) (j := i + 1) (by omega) (by omega)]
              rcases o_4 : pf (i + 1) with _ | a_4
              · refine W.eq (g2 := F0 mi 33 ls [.null]) rfl ?_
                have hQ_R := hB.no (j := i + 1) (by omega) (by omega) o_4
                have hb2 : rnd Q (rnds Q m r) (i + 1) < 2 ^ 41 := by rw [rnd_n hQ_R]; exact hbi
                rw [← rnd_n hQ_R] at hl
                refine lv_astoreN (lv' := [(10, .null), (0, .ref ck), (1, .ref tw), (4, .long (lN (rnd Q (rnds Q m r) (i + 1)))), (6, .int (nI r)), (7, .long (lN (rnds Q m r))), (9, .int (nI (i + 1)))]) hx hb d_Ck_nodesReachedFrom_33 hl (by decide) rfl (fun ls hl => ?_)
                refine lv_aloadN hx hb d_Ck_nodesReachedFrom_35 (lv_at hl 0 rfl) ?_
                refine lv_ifnullN (tgt := 71) hx hb d_Ck_nodesReachedFrom_37 (by decide) ?_
                refine lv_iinc (v := nI (i + 2)) (lv' := [(9, .int (nI (i + 2))), (10, .null), (0, .ref ck), (1, .ref tw), (4, .long (lN (rnd Q (rnds Q m r) (i + 1)))), (6, .int (nI r)), (7, .long (lN (rnds Q m r)))]) hx hb d_Ck_nodesReachedFrom_71 hl (k := 6) rfl (nI_add (i + 1) 1) (by decide) rfl (fun ls hl => ?_)
                refine lv_goto (tgt := 20) hx hb d_Ck_nodesReachedFrom_74 (by decide) ?_
                exact ih (i + 1) (by omega) (by omega) hb2 H locs ls hz hV (lv_sub hl [2, 3, 4, 5, 6, 0] rfl)
              · refine W.eq (g2 := F0 mi 33 ls [.ref a_4]) rfl ?_
                obtain ⟨R, hQ_R, hp, hdhp⟩ := hB.yes (j := i + 1) (by omega) (by omega) o_4
                have hb2 : rnd Q (rnds Q m r) (i + 1) < 2 ^ 41 := by rw [rnd_s hQ_R]; exact whQ_lt hp.2.2 hbi
                refine lv_astore (lv' := [(10, .ref a_4), (0, .ref ck), (1, .ref tw), (4, .long (lN (rnd Q (rnds Q m r) i))), (6, .int (nI r)), (7, .long (lN (rnds Q m r))), (9, .int (nI (i + 1)))]) hx hb d_Ck_nodesReachedFrom_33 hl (by decide) rfl (fun ls hl => ?_)
                refine lv_aload hx hb d_Ck_nodesReachedFrom_35 (lv_at hl 0 rfl) ?_
                refine lv_ifnull hx hb d_Ck_nodesReachedFrom_37 ?_
                refine lv_aload hx hb d_Ck_nodesReachedFrom_40 (lv_at hl 0 rfl) ?_
                refine v_call (va_runV (As := []) (rest := []) ⟨hx, hb, hml, hown, hts⟩ (c_Pc_isForWheels l G lo _ _ a_4 _ _ _ R hp.2.2) (kwV 0 hts w_co_Pc_isForWheels rfl rfl w_it_Pc w_ml_Ck_128 w_im_Pc_isForWheels w_se_Pc__Pc_isForWheels (by decide +kernel) ⟨(Nat.le_of_ble_eq_true rfl), (Nat.le_of_ble_eq_true rfl)⟩) (v_preV hK hV (vU_all (fa1 (pcAt_vU (cs := [(ck, eO 0 vs), (tw, eO 5 [.ref ps, .ref bl, .ref sn, .ref tu]), (ps, eQ (gP G) 61 pf)]) hp hdc hdhp).1)) hz (pcAt_vU (cs := [(ck, eO 0 vs), (tw, eO 5 [.ref ps, .ref bl, .ref sn, .ref tu]), (ps, eQ (gP G) 61 pf)]) hp hdc hdhp).1 rfl) rfl rfl hl.1 rfl (lv_room (Nat.le_of_ble_eq_true rfl)) d_Ck_nodesReachedFrom_42 ⟨(Nat.le_of_ble_eq_true rfl), (Nat.le_of_ble_eq_true rfl)⟩) hV (fun r9 V9 H locs hp hV hle => ?_)
                obtain ⟨rfl, rfl, hz⟩ := hp
                replace hV := vS_all (fa1 (pcAt_vU (cs := [(ck, eO 0 vs), (tw, eO 5 [.ref ps, .ref bl, .ref sn, .ref tu]), (ps, eQ (gP G) 61 pf)]) hp hdc hdhp).1) hV
                rcases tf (whl R.2.1.2.1) with d_5 | d_5
                · have hV : vS G.1 cls lo s H locs (vU V [(ck, eO 0 vs), (tw, eO 5 [.ref ps, .ref bl, .ref sn, .ref tu]), (ps, eQ (gP G) 61 pf)]) := hV
                  refine W.eq (g2 := F0 mi 45 ls [.int 1]) (by rw [d_5]; rfl) ?_
                  refine lv_if_eq (tgt := 71) hx hb d_Ck_nodesReachedFrom_45 (by decide) (fun c_6 => absurd c_6 (by decide)) (fun _ => ?_)
                  refine lv_aload hx hb d_Ck_nodesReachedFrom_48 (lv_at hl 0 rfl) ?_
                  refine v_call (va_runV (As := []) (rest := []) ⟨hx, hb, hml, hown, hts⟩ (c_Pc_nodesFromWhichItGoes l G lo _ _ a_4 _ _ _ R hp.2.2) (kwV 0 hts w_co_Pc_nodesFromWhichItGoes rfl rfl w_it_Pc w_ml_Ck_116 w_im_Pc_nodesFromWhichItGoes w_se_Pc__Pc_nodesFromWhichItGoes (by decide +kernel) ⟨(Nat.le_of_ble_eq_true rfl), (Nat.le_of_ble_eq_true rfl)⟩) (v_preV hK hV (vU_all (fa1 (pcAt_vU (cs := [(ck, eO 0 vs), (tw, eO 5 [.ref ps, .ref bl, .ref sn, .ref tu]), (ps, eQ (gP G) 61 pf)]) hp hdc hdhp).1)) hz (pcAt_vU (cs := [(ck, eO 0 vs), (tw, eO 5 [.ref ps, .ref bl, .ref sn, .ref tu]), (ps, eQ (gP G) 61 pf)]) hp hdc hdhp).1 rfl) rfl rfl hl.1 rfl (lv_room (Nat.le_of_ble_eq_true rfl)) d_Ck_nodesReachedFrom_50 ⟨(Nat.le_of_ble_eq_true rfl), (Nat.le_of_ble_eq_true rfl)⟩) hV (fun r9 V9 H locs hp hV hle => ?_)
                  obtain ⟨rfl, rfl, hz⟩ := hp
                  replace hV := vS_all (fa1 (pcAt_vU (cs := [(ck, eO 0 vs), (tw, eO 5 [.ref ps, .ref bl, .ref sn, .ref tu]), (ps, eQ (gP G) 61 pf)]) hp hdc hdhp).1) hV
                  have hV : vS G.1 cls lo s H locs (vU V [(ck, eO 0 vs), (tw, eO 5 [.ref ps, .ref bl, .ref sn, .ref tu]), (ps, eQ (gP G) 61 pf)]) := hV
                  refine W.eq (g2 := F0 mi 53 ls [.long (lN (fromN R))]) rfl ?_
                  refine lv_lload hx hb d_Ck_nodesReachedFrom_53 (lv_at hl 3 rfl) ?_
                  refine e_land (v := lN (fromN R &&& rnd Q (rnds Q m r) i)) hx hb d_Ck_nodesReachedFrom_55 (lN_and (fromN_lt hp.2.2) hbi) ?_
                  refine lv_lconst (v := 0) hx hb d_Ck_nodesReachedFrom_56 (by decide) ?_
                  refine W.lcmp hx hb d_Ck_nodesReachedFrom_57 ?_
                  refine lv_if_eq (tgt := 71) hx hb d_Ck_nodesReachedFrom_58 (by decide) (fun c_7 => ?_) (fun c_7 => ?_)
                  · have h0 : fromN R &&& rnd Q (rnds Q m r) i = 0 := (lN_0 (and_lt41 (fromN_lt hp.2.2))).mp ((lg_cmp_eq _ _).mp c_7)
                    have hs : rnd Q (rnds Q m r) (i + 1) = rnd Q (rnds Q m r) i := by rw [rnd_s hQ_R]; simp only [whQ, decide_eq_true h0, Bool.not_true, Bool.and_false]; rfl
                    rw [← hs] at hl
                    refine lv_iinc (v := nI (i + 2)) (lv' := [(9, .int (nI (i + 2))), (10, .ref a_4), (0, .ref ck), (1, .ref tw), (4, .long (lN (rnd Q (rnds Q m r) (i + 1)))), (6, .int (nI r)), (7, .long (lN (rnds Q m r)))]) hx hb d_Ck_nodesReachedFrom_71 hl (k := 6) rfl (nI_add (i + 1) 1) (by decide) rfl (fun ls hl => ?_)
                    refine lv_goto (tgt := 20) hx hb d_Ck_nodesReachedFrom_74 (by decide) ?_
                    exact ih (i + 1) (by omega) (by omega) hb2 H locs ls hz hV (lv_sub hl [2, 3, 4, 5, 6, 0] rfl)
                  · have h0 : ¬ fromN R &&& rnd Q (rnds Q m r) i = 0 := fun z => c_7 ((lg_cmp_eq _ _).mpr ((lN_0 (and_lt41 (fromN_lt hp.2.2))).mpr z))
                    refine lv_lload hx hb d_Ck_nodesReachedFrom_61 (lv_at hl 3 rfl) ?_
                    refine lv_aload hx hb d_Ck_nodesReachedFrom_63 (lv_at hl 0 rfl) ?_
                    refine v_call (va_runV (As := []) (rest := [.long (lN (rnd Q (rnds Q m r) i))]) ⟨hx, hb, hml, hown, hts⟩ (c_Pc_nodesToWhichItGoes l G lo _ _ a_4 _ _ _ R hp.2.2) (kwV 0 hts w_co_Pc_nodesToWhichItGoes rfl rfl w_it_Pc w_ml_Ck_112 w_im_Pc_nodesToWhichItGoes w_se_Pc__Pc_nodesToWhichItGoes (by decide +kernel) ⟨(Nat.le_of_ble_eq_true rfl), (Nat.le_of_ble_eq_true rfl)⟩) (v_preV hK hV (vU_all (fa1 (pcAt_vU (cs := [(ck, eO 0 vs), (tw, eO 5 [.ref ps, .ref bl, .ref sn, .ref tu]), (ps, eQ (gP G) 61 pf)]) hp hdc hdhp).1)) hz (pcAt_vU (cs := [(ck, eO 0 vs), (tw, eO 5 [.ref ps, .ref bl, .ref sn, .ref tu]), (ps, eQ (gP G) 61 pf)]) hp hdc hdhp).1 rfl) rfl rfl hl.1 rfl (lv_room (Nat.le_of_ble_eq_true rfl)) d_Ck_nodesReachedFrom_65 ⟨(Nat.le_of_ble_eq_true rfl), (Nat.le_of_ble_eq_true rfl)⟩) hV (fun r9 V9 H locs hp hV hle => ?_)
                    obtain ⟨rfl, rfl, hz⟩ := hp
                    replace hV := vS_all (fa1 (pcAt_vU (cs := [(ck, eO 0 vs), (tw, eO 5 [.ref ps, .ref bl, .ref sn, .ref tu]), (ps, eQ (gP G) 61 pf)]) hp hdc hdhp).1) hV
                    have hV : vS G.1 cls lo s H locs (vU V [(ck, eO 0 vs), (tw, eO 5 [.ref ps, .ref bl, .ref sn, .ref tu]), (ps, eQ (gP G) 61 pf)]) := hV
                    refine W.eq (g2 := F0 mi 68 ls [.long (lN (toN R)), .long (lN (rnd Q (rnds Q m r) i))]) rfl ?_
                    refine e_lor (v := lN (rnd Q (rnds Q m r) (i + 1))) hx hb d_Ck_nodesReachedFrom_68 (by rw [rnd_s hQ_R]; simp only [whQ, d_5, decide_eq_false h0, Bool.not_false, Bool.and_self, if_true]; exact lN_or hbi (toN_lt hp.2.2)) ?_
                    refine lv_lstore (lv' := [(4, .long (lN (rnd Q (rnds Q m r) (i + 1)))), (10, .ref a_4), (0, .ref ck), (1, .ref tw), (6, .int (nI r)), (7, .long (lN (rnds Q m r))), (9, .int (nI (i + 1)))]) hx hb d_Ck_nodesReachedFrom_69 hl (by decide) rfl (fun ls hl => ?_)
                    refine lv_iinc (v := nI (i + 2)) (lv' := [(9, .int (nI (i + 2))), (4, .long (lN (rnd Q (rnds Q m r) (i + 1)))), (10, .ref a_4), (0, .ref ck), (1, .ref tw), (6, .int (nI r)), (7, .long (lN (rnds Q m r)))]) hx hb d_Ck_nodesReachedFrom_71 hl (k := 6) rfl (nI_add (i + 1) 1) (by decide) rfl (fun ls hl => ?_)
                    refine lv_goto (tgt := 20) hx hb d_Ck_nodesReachedFrom_74 (by decide) ?_
                    exact ih (i + 1) (by omega) (by omega) hb2 H locs ls hz hV (lv_sub hl [3, 4, 1, 5, 6, 0] rfl)
                · have hs : rnd Q (rnds Q m r) (i + 1) = rnd Q (rnds Q m r) i := by rw [rnd_s hQ_R]; simp only [whQ, d_5, Bool.false_and]; rfl
                  rw [← hs] at hl
                  have hV : vS G.1 cls lo s H locs (vU V [(ck, eO 0 vs), (tw, eO 5 [.ref ps, .ref bl, .ref sn, .ref tu]), (ps, eQ (gP G) 61 pf)]) := hV
                  refine W.eq (g2 := F0 mi 45 ls [.int 0]) (by rw [d_5]; rfl) ?_
                  refine lv_if_eq (tgt := 71) hx hb d_Ck_nodesReachedFrom_45 (by decide) (fun _ => ?_) (fun c_8 => absurd c_8 (by decide))
                  refine lv_iinc (v := nI (i + 2)) (lv' := [(9, .int (nI (i + 2))), (10, .ref a_4), (0, .ref ck), (1, .ref tw), (4, .long (lN (rnd Q (rnds Q m r) (i + 1)))), (6, .int (nI r)), (7, .long (lN (rnds Q m r)))]) hx hb d_Ck_nodesReachedFrom_71 hl (k := 6) rfl (nI_add (i + 1) 1) (by decide) rfl (fun ls hl => ?_)
                  refine lv_goto (tgt := 20) hx hb d_Ck_nodesReachedFrom_74 (by decide) ?_
                  exact ih (i + 1) (by omega) (by omega) hb2 H locs ls hz hV (lv_sub hl [2, 3, 4, 5, 6, 0] rfl)
        exact inner 61 0 (by omega) (by omega) hbr H locs ls hz hV (lv_sub hl [2, 3, 4, 5, 1, 0] rfl)
  exact loop 41 0 (by omega) (by omega) hm H locs ls hz hV (lv_sub hl [2, 3, 1, 0] rfl)

set_option maxHeartbeats 4000000 in
set_option maxRecDepth 100000 in
/-- Checker.findUnreachedStations -/
theorem c_Ck_findUnreachedStations (l : Launch) (G : Gx) (lo : Nat) (V : Vw) (sz : Nat) (ck kk kn : Nat) (fk fn : Nat → Int32) (F : List Two) (tw ps bl sn tu s1 s2 : Nat) (fs fd : Nat → Int32) (S : Nat → Option (Nat × Nat)) (pf : Nat → Option Nat) (Q : Nat → Option PcR) (dy : Nat) (hn : [ck, kk, kn, tw, ps, sn, s1, s2].Nodup) (hO : ckOk fk fn F) (hF : F.length ≤ 220) (hB : twB G V dy sz pf Q) (hdc : ∀ a ∈ [ck, kk, kn, tw, ps, sn, s1, s2], a < dy) (hS : spOk fs fd S) : Met l y_Ck_findUnreachedStations ws_Ck_findUnreachedStations ({ frames := 3, cells := 0, slots := 0, locals := 70 } : Room) (vPre G lo [.ref ck, .ref tw] (vU V [(ck, eO 0 [.ref kk, .ref kn, .int (nI F.length)]), (kk, eI (gI G) 250 fk), (kn, eI (gI G) 250 fn), (tw, eO 5 [.ref ps, .ref bl, .ref sn, .ref tu]), (ps, eQ (gP G) 61 pf), (sn, eO 4 [.ref s1, .ref s2]), (s1, eI (gI G) 31 fs), (s2, eI (gI G) 31 fd)]) sz) (vPost G lo (fun r V' k => r = none ∧ (∃ f1 f2 : Nat → Int32, V' = vU V [(ck, eO 0 [.ref kk, .ref kn, .int (nI ((F ++ flt 7 (unr Q S) 30).length))]), (kk, eI (gI G) 250 f1), (kn, eI (gI G) 250 f2), (tw, eO 5 [.ref ps, .ref bl, .ref sn, .ref tu]), (ps, eQ (gP G) 61 pf), (sn, eO 4 [.ref s1, .ref s2]), (s1, eI (gI G) 31 fs), (s2, eI (gI G) 31 fd)] ∧ ckOk f1 f2 (F ++ flt 7 (unr Q S) 30)) ∧ k = sz)) 0 0 (vL lo) := by
  refine vMet (R := RCk) (by decide) rfl (Nat.le_of_ble_eq_true rfl) ?_
  intro pg ev s mi args below meth cd hx hb hr hml hlk hnm hts hown hK hz hV ls hl
  have hl : lv_has ls 7 [(0, .ref ck), (1, .ref tw)] := hl
  have hV0 := hV
  obtain ⟨H, hH⟩ : ∃ H, H = s.heap := ⟨_, rfl⟩
  obtain ⟨locs, hlocs⟩ : ∃ locs : List Loc, locs = [] := ⟨_, rfl⟩
  rw [← hH, ← hlocs]
  rw [← hH] at hz
  replace hV : vS G.1 cls lo s H locs (vU V [(ck, eO 0 [.ref kk, .ref kn, .int (nI F.length)]), (kk, eI (gI G) 250 fk), (kn, eI (gI G) 250 fn), (tw, eO 5 [.ref ps, .ref bl, .ref sn, .ref tu]), (ps, eQ (gP G) 61 pf), (sn, eO 4 [.ref s1, .ref s2]), (s1, eI (gI G) 31 fs), (s2, eI (gI G) 31 fd)]) := by rw [hH, hlocs]; exact hV
  clear hH hlocs hV0
  refine lv_null hx hb d_Ck_findUnreachedStations_0 ?_
  refine lv_astore_nN (lv' := [(2, .null), (0, .ref ck), (1, .ref tw)]) hx hb d_Ck_findUnreachedStations_1 rfl hl (by decide) rfl (fun ls hl => ?_)
  refine lv_lconst (v := 0) hx hb d_Ck_findUnreachedStations_2 (by decide) ?_
  refine lv_lstore_n (lv' := [(3, .long ((0 : Int64))), (2, .null), (0, .ref ck), (1, .ref tw)]) hx hb d_Ck_findUnreachedStations_3 rfl hl (by decide) rfl (fun ls hl => ?_)
  refine lv_iconst (v := 1) hx hb d_Ck_findUnreachedStations_4 (by decide) ?_
  refine lv_istore (lv' := [(5, .int 1), (3, .long ((0 : Int64))), (2, .null), (0, .ref ck), (1, .ref tw)]) hx hb d_Ck_findUnreachedStations_5 hl (by decide) rfl (fun ls hl => ?_)
  have loop : ∀ (k : Nat) (i : Nat) (fk fn : Nat → Int32) (so : Option Nat) (xr : Int64), 30 - i < k → (i ≤ 30) → (ckOk fk fn (F ++ flt 7 (unr Q S) i)) → ((so = none ∧ fst7 Q S i = none) ∨ ∃ a0 R0, so = some a0 ∧ fst7 Q S i = some R0 ∧ xr = lN (rnds Q (endsN R0) 40) ∧ rnds Q (endsN R0) 40 < 2 ^ 41) → ∀ (H : Heap) (locs : List Loc) (ls : Array Slot), H.size = sz → vS G.1 cls lo s H locs (vU V [(ck, eO 0 [.ref kk, .ref kn, .int (nI ((F ++ flt 7 (unr Q S) i).length))]), (kk, eI (gI G) 250 fk), (kn, eI (gI G) 250 fn), (tw, eO 5 [.ref ps, .ref bl, .ref sn, .ref tu]), (ps, eQ (gP G) 61 pf), (sn, eO 4 [.ref s1, .ref s2]), (s1, eI (gI G) 31 fs), (s2, eI (gI G) 31 fd)]) → lv_has ls 7 [(0, .ref ck), (1, .ref tw), (2, va_rf so), (3, .long xr), (5, .int (nI (i + 1)))] → W pg l ev ({ frames := 3, cells := 0, slots := 0, locals := 70 } : Room) s mi args below meth cd H locs 0 0 (MQ below (vPost G lo (fun r V' k => r = none ∧ (∃ f1 f2 : Nat → Int32, V' = vU V [(ck, eO 0 [.ref kk, .ref kn, .int (nI ((F ++ flt 7 (unr Q S) 30).length))]), (kk, eI (gI G) 250 f1), (kn, eI (gI G) 250 f2), (tw, eO 5 [.ref ps, .ref bl, .ref sn, .ref tu]), (ps, eQ (gP G) 61 pf), (sn, eO 4 [.ref s1, .ref s2]), (s1, eI (gI G) 31 fs), (s2, eI (gI G) 31 fd)] ∧ ckOk f1 f2 (F ++ flt 7 (unr Q S) 30)) ∧ k = sz)) args s 0 0 (vL lo)) (F0 mi 7 ls []) := by
    intro k
    induction k with
    | zero => intro i fk fn so xr hk; exact absurd hk (by omega)
    | succ k ih =>
      intro i fk fn so xr hk hi hO hI H locs ls hz hV hl
      refine lv_iload hx hb d_Ck_findUnreachedStations_7 (lv_at hl 4 rfl) ?_
      refine lv_bipush (v := 30) hx hb d_Ck_findUnreachedStations_9 (by decide) ?_
      refine lv_icmp_gt (tgt := 86) hx hb d_Ck_findUnreachedStations_11 (by decide) (fun c_1 => ?_) (fun c_1 => ?_)
      · replace c_1 : 30 < i + 1 := (nI_ltI (a := 30) (b := i + 1) (by omega) (by omega)).mp c_1
        exact W.vret hx hb hr (v_end hV ⟨rfl, ⟨fk, fn, by rw [show i = 30 by omega], by rw [show i = 30 by omega] at hO; exact hO⟩, hz⟩) hV.2.1.2.2 d_Ck_findUnreachedStations_86
      · replace c_1 : ¬ 30 < i + 1 := fun z9 => c_1 ((nI_ltI (a := 30) (b := i + 1) (by omega) (by omega)).mpr z9)
        refine lv_aload_n hx hb d_Ck_findUnreachedStations_14 rfl (lv_at hl 1 rfl) ?_
        refine lv_aload_n hx hb d_Ck_findUnreachedStations_15 rfl (lv_at hl 1 rfl) ?_
        refine u_get hx hb hts inTw hown hK hV hn 3 rfl rfl 2 (by decide) w_fl_Ck_32 rfl rfl d_Ck_findUnreachedStations_16 ?_
        refine u_get hx hb hts inSp hown hK hV hn 5 rfl rfl 0 (by decide) w_fl_Ck_62 rfl rfl d_Ck_findUnreachedStations_19 ?_
        refine lv_iload hx hb d_Ck_findUnreachedStations_22 (lv_at hl 4 rfl) ?_
        refine u_ialdN hx hb hK hV hn 6 rfl (by omega) (by decide) d_Ck_findUnreachedStations_24 ?_
        rcases hS (i + 1) (by omega) (by omega) with ⟨e0, eS⟩ | ⟨x, y, ex, ey, eS, hx1, hx2, hy⟩
        · rw [e0]
          have eP : stP Q S (i + 1) = none := by simp only [stP, eS]
          refine v_call (va_runV (As := [.int 0]) (rest := []) ⟨hx, hb, hml, hown, hts⟩ (c_Tw_find l G lo _ _ tw ps bl sn tu pf (nd_sub hn [3, 4] (by decide) rfl) 0) (kwV 1 hts w_co_Tw_find rfl rfl w_it_Tw w_ml_Ck_65 w_im_Tw_find w_se_Tw__Tw_find (by decide +kernel) ⟨(Nat.le_of_ble_eq_true rfl), (Nat.le_of_ble_eq_true rfl)⟩) (u_preV hK hV hn [3, 4] rfl hz 3 rfl rfl) rfl rfl hl.1 rfl (lv_room (Nat.le_of_ble_eq_true rfl)) d_Ck_findUnreachedStations_25 ⟨(Nat.le_of_ble_eq_true rfl), (Nat.le_of_ble_eq_true rfl)⟩) hV (fun r9 V9 H locs hp hV hle => ?_)
          obtain ⟨rfl, rfl, hz⟩ := hp
          replace hV := uu_same hV hn [3, 4] rfl
          have hV : vS G.1 cls lo s H locs (vU V [(ck, eO 0 [.ref kk, .ref kn, .int (nI ((F ++ flt 7 (unr Q S) i).length))]), (kk, eI (gI G) 250 fk), (kn, eI (gI G) 250 fn), (tw, eO 5 [.ref ps, .ref bl, .ref sn, .ref tu]), (ps, eQ (gP G) 61 pf), (sn, eO 4 [.ref s1, .ref s2]), (s1, eI (gI G) 31 fs), (s2, eI (gI G) 31 fd)]) := hV
          refine W.eq (g2 := F0 mi 28 ls [va_rf (twFind pf 0)]) rfl ?_
          rw [twFind_lo (pf := pf) (x := 0) (by decide)]
          refine W.eq (g2 := F0 mi 28 ls [.null]) rfl ?_
          refine lv_astoreN (lv' := [(6, .null), (0, .ref ck), (1, .ref tw), (2, va_rf so), (3, .long xr), (5, .int (nI (i + 1)))]) hx hb d_Ck_findUnreachedStations_28 hl (by decide) rfl (fun ls hl => ?_)
          refine lv_aloadN hx hb d_Ck_findUnreachedStations_30 (lv_at hl 0 rfl) ?_
          refine lv_ifnullN (tgt := 80) hx hb d_Ck_findUnreachedStations_32 (by decide) ?_
          have hE : unr Q S (i + 1) = false := unr_n eP
          rw [app_n hE] at hV hO
          refine lv_iinc (v := nI (i + 2)) (lv' := [(5, .int (nI (i + 2))), (6, .null), (0, .ref ck), (1, .ref tw), (2, va_rf so), (3, .long xr)]) hx hb d_Ck_findUnreachedStations_80 hl (k := 5) rfl (nI_add (i + 1) 1) (by decide) rfl (fun ls hl => ?_)
          refine lv_goto (tgt := 7) hx hb d_Ck_findUnreachedStations_83 (by decide) ?_
          exact ih (i + 1) fk fn so xr (by omega) (by omega) hO (by rw [fst7_n eP]; exact hI) H locs ls hz hV (lv_sub hl [2, 3, 4, 5, 0] rfl)
        · rw [ex]
          refine v_call (va_runV (As := [.int (nI x)]) (rest := []) ⟨hx, hb, hml, hown, hts⟩ (c_Tw_find l G lo _ _ tw ps bl sn tu pf (nd_sub hn [3, 4] (by decide) rfl) (nI x)) (kwV 1 hts w_co_Tw_find rfl rfl w_it_Tw w_ml_Ck_65 w_im_Tw_find w_se_Tw__Tw_find (by decide +kernel) ⟨(Nat.le_of_ble_eq_true rfl), (Nat.le_of_ble_eq_true rfl)⟩) (u_preV hK hV hn [3, 4] rfl hz 3 rfl rfl) rfl rfl hl.1 rfl (lv_room (Nat.le_of_ble_eq_true rfl)) d_Ck_findUnreachedStations_25 ⟨(Nat.le_of_ble_eq_true rfl), (Nat.le_of_ble_eq_true rfl)⟩) hV (fun r9 V9 H locs hp hV hle => ?_)
          obtain ⟨rfl, rfl, hz⟩ := hp
          replace hV := uu_same hV hn [3, 4] rfl
          have hV : vS G.1 cls lo s H locs (vU V [(ck, eO 0 [.ref kk, .ref kn, .int (nI ((F ++ flt 7 (unr Q S) i).length))]), (kk, eI (gI G) 250 fk), (kn, eI (gI G) 250 fn), (tw, eO 5 [.ref ps, .ref bl, .ref sn, .ref tu]), (ps, eQ (gP G) 61 pf), (sn, eO 4 [.ref s1, .ref s2]), (s1, eI (gI G) 31 fs), (s2, eI (gI G) 31 fd)]) := hV
          refine W.eq (g2 := F0 mi 28 ls [va_rf (twFind pf (nI x))]) rfl ?_
          rw [twFind_in (pf := pf) (j := x) (by omega) (by omega)]
          rcases o_2 : pf x with _ | a_2
          · refine W.eq (g2 := F0 mi 28 ls [.null]) rfl ?_
            have hQ_R := hB.no (j := x) (by omega) (by omega) o_2
            have eP : stP Q S (i + 1) = none := by simp only [stP, eS]; exact hQ_R
            refine lv_astoreN (lv' := [(6, .null), (0, .ref ck), (1, .ref tw), (2, va_rf so), (3, .long xr), (5, .int (nI (i + 1)))]) hx hb d_Ck_findUnreachedStations_28 hl (by decide) rfl (fun ls hl => ?_)
            refine lv_aloadN hx hb d_Ck_findUnreachedStations_30 (lv_at hl 0 rfl) ?_
            refine lv_ifnullN (tgt := 80) hx hb d_Ck_findUnreachedStations_32 (by decide) ?_
            have hE : unr Q S (i + 1) = false := unr_n eP
            rw [app_n hE] at hV hO
            refine lv_iinc (v := nI (i + 2)) (lv' := [(5, .int (nI (i + 2))), (6, .null), (0, .ref ck), (1, .ref tw), (2, va_rf so), (3, .long xr)]) hx hb d_Ck_findUnreachedStations_80 hl (k := 5) rfl (nI_add (i + 1) 1) (by decide) rfl (fun ls hl => ?_)
            refine lv_goto (tgt := 7) hx hb d_Ck_findUnreachedStations_83 (by decide) ?_
            exact ih (i + 1) fk fn so xr (by omega) (by omega) hO (by rw [fst7_n eP]; exact hI) H locs ls hz hV (lv_sub hl [2, 3, 4, 5, 0] rfl)
          · refine W.eq (g2 := F0 mi 28 ls [.ref a_2]) rfl ?_
            obtain ⟨R, hQ_R, hp, hdhp⟩ := hB.yes (j := x) (by omega) (by omega) o_2
            have eP : stP Q S (i + 1) = some R := by simp only [stP, eS]; exact hQ_R
            refine lv_astore (lv' := [(6, .ref a_2), (0, .ref ck), (1, .ref tw), (2, va_rf so), (3, .long xr), (5, .int (nI (i + 1)))]) hx hb d_Ck_findUnreachedStations_28 hl (by decide) rfl (fun ls hl => ?_)
            refine lv_aload hx hb d_Ck_findUnreachedStations_30 (lv_at hl 0 rfl) ?_
            refine lv_ifnull hx hb d_Ck_findUnreachedStations_32 ?_
            rcases hso : so with _ | a0
            · rw [hso] at hl
              have hl : lv_has ls 7 [(6, .ref a_2), (0, .ref ck), (1, .ref tw), (2, .null), (3, .long xr), (5, .int (nI (i + 1)))] := hl
              have f0 : fst7 Q S i = none := by rcases hI with ⟨-, q⟩ | ⟨a0, R0, q, -⟩; exact q; rw [hso] at q; cases q
              have eT : fst7 Q S (i + 1) = some R := (fst7_0 f0).trans eP
              have eU := unr_s eP eT
              refine lv_aload_nN hx hb d_Ck_findUnreachedStations_35 rfl (lv_at hl 3 rfl) ?_
              refine lv_ifnonnullN hx hb d_Ck_findUnreachedStations_36 ?_
              refine lv_aload hx hb d_Ck_findUnreachedStations_39 (lv_at hl 0 rfl) ?_
              refine lv_astore_n (lv' := [(2, .ref a_2), (6, .ref a_2), (0, .ref ck), (1, .ref tw), (3, .long xr), (5, .int (nI (i + 1)))]) hx hb d_Ck_findUnreachedStations_41 rfl hl (by decide) rfl (fun ls hl => ?_)
              refine lv_aload_n hx hb d_Ck_findUnreachedStations_42 rfl (lv_at hl 2 rfl) ?_
              refine lv_aload_n hx hb d_Ck_findUnreachedStations_43 rfl (lv_at hl 3 rfl) ?_
              refine lv_aload_n hx hb d_Ck_findUnreachedStations_44 rfl (lv_at hl 0 rfl) ?_
              refine v_call (va_runV (As := []) (rest := [.ref tw, .ref ck]) ⟨hx, hb, hml, hown, hts⟩ (c_Pc_ends l G lo _ _ a_2 _ _ _ R hp.2.2) (kwV 0 hts w_co_Pc_ends rfl rfl w_it_Pc w_ml_Ck_121 w_im_Pc_ends w_se_Pc__Pc_ends (by decide +kernel) ⟨(Nat.le_of_ble_eq_true rfl), (Nat.le_of_ble_eq_true rfl)⟩) (v_preV hK hV (vU_all (fa1 (pcAt_vU (cs := [(ck, eO 0 [.ref kk, .ref kn, .int (nI ((F ++ flt 7 (unr Q S) i).length))]), (kk, eI (gI G) 250 fk), (kn, eI (gI G) 250 fn), (tw, eO 5 [.ref ps, .ref bl, .ref sn, .ref tu]), (ps, eQ (gP G) 61 pf), (sn, eO 4 [.ref s1, .ref s2]), (s1, eI (gI G) 31 fs), (s2, eI (gI G) 31 fd)]) hp hdc hdhp).1)) hz (pcAt_vU (cs := [(ck, eO 0 [.ref kk, .ref kn, .int (nI ((F ++ flt 7 (unr Q S) i).length))]), (kk, eI (gI G) 250 fk), (kn, eI (gI G) 250 fn), (tw, eO 5 [.ref ps, .ref bl, .ref sn, .ref tu]), (ps, eQ (gP G) 61 pf), (sn, eO 4 [.ref s1, .ref s2]), (s1, eI (gI G) 31 fs), (s2, eI (gI G) 31 fd)]) hp hdc hdhp).1 rfl) rfl rfl hl.1 rfl (lv_room (Nat.le_of_ble_eq_true rfl)) d_Ck_findUnreachedStations_45 ⟨(Nat.le_of_ble_eq_true rfl), (Nat.le_of_ble_eq_true rfl)⟩) hV (fun r9 V9 H locs hp hV hle => ?_)
              obtain ⟨rfl, rfl, hz⟩ := hp
              replace hV := vS_all (fa1 (pcAt_vU (cs := [(ck, eO 0 [.ref kk, .ref kn, .int (nI ((F ++ flt 7 (unr Q S) i).length))]), (kk, eI (gI G) 250 fk), (kn, eI (gI G) 250 fn), (tw, eO 5 [.ref ps, .ref bl, .ref sn, .ref tu]), (ps, eQ (gP G) 61 pf), (sn, eO 4 [.ref s1, .ref s2]), (s1, eI (gI G) 31 fs), (s2, eI (gI G) 31 fd)]) hp hdc hdhp).1) hV
              have hV : vS G.1 cls lo s H locs (vU V [(ck, eO 0 [.ref kk, .ref kn, .int (nI ((F ++ flt 7 (unr Q S) i).length))]), (kk, eI (gI G) 250 fk), (kn, eI (gI G) 250 fn), (tw, eO 5 [.ref ps, .ref bl, .ref sn, .ref tu]), (ps, eQ (gP G) 61 pf), (sn, eO 4 [.ref s1, .ref s2]), (s1, eI (gI G) 31 fs), (s2, eI (gI G) 31 fd)]) := hV
              refine W.eq (g2 := F0 mi 48 ls [.long (lN (endsN R)), .ref tw, .ref ck]) rfl ?_
              refine v_call (va_runV (As := [.ref tw, .long (lN (endsN R))]) (rest := []) ⟨hx, hb, hml, hown, hts⟩ (c_Ck_nodesReachedFrom l G lo _ _ ck tw ps bl sn tu [.ref kk, .ref kn, .int (nI ((F ++ flt 7 (unr Q S) i).length))] pf Q dy (nd_sub hn [0, 3, 4] (by decide) rfl) (twB_mono hB (fun q h1 _ => vU_hi (cs := [(ck, eO 0 [.ref kk, .ref kn, .int (nI ((F ++ flt 7 (unr Q S) i).length))]), (kk, eI (gI G) 250 fk), (kn, eI (gI G) 250 fn), (tw, eO 5 [.ref ps, .ref bl, .ref sn, .ref tu]), (ps, eQ (gP G) 61 pf), (sn, eO 4 [.ref s1, .ref s2]), (s1, eI (gI G) 31 fs), (s2, eI (gI G) 31 fd)]) hdc h1) (Nat.le_refl _)) (cn_sub hdc [0, 3, 4] rfl) (endsN R) (ends_lt hp.2.2)) (kwV 2 hts w_co_Ck_nodesReachedFrom rfl rfl w_it_Ck w_ml_Ck_124 w_im_Ck_nodesReachedFrom w_se_Ck__Ck_nodesReachedFrom (by decide +kernel) ⟨(Nat.le_of_ble_eq_true rfl), (Nat.le_of_ble_eq_true rfl)⟩) (u_preV hK hV hn [0, 3, 4] rfl hz 0 rfl rfl) rfl rfl hl.1 rfl (lv_room (Nat.le_of_ble_eq_true rfl)) d_Ck_findUnreachedStations_48 ⟨(Nat.le_of_ble_eq_true rfl), (Nat.le_of_ble_eq_true rfl)⟩) hV (fun r9 V9 H locs hp hV hle => ?_)
              obtain ⟨rfl, rfl, hz⟩ := hp
              replace hV := uu_same hV hn [0, 3, 4] rfl
              have hV : vS G.1 cls lo s H locs (vU V [(ck, eO 0 [.ref kk, .ref kn, .int (nI ((F ++ flt 7 (unr Q S) i).length))]), (kk, eI (gI G) 250 fk), (kn, eI (gI G) 250 fn), (tw, eO 5 [.ref ps, .ref bl, .ref sn, .ref tu]), (ps, eQ (gP G) 61 pf), (sn, eO 4 [.ref s1, .ref s2]), (s1, eI (gI G) 31 fs), (s2, eI (gI G) 31 fd)]) := hV
              refine W.eq (g2 := F0 mi 51 ls [.long (lN (rnds Q (endsN R) 40))]) rfl ?_
              have hrb : rnds Q (endsN R) 40 < 2 ^ 41 := rnds_lt hB (ends_lt hp.2.2) 40
              refine lv_lstore_n (lv' := [(3, .long (lN (rnds Q (endsN R) 40))), (2, .ref a_2), (6, .ref a_2), (0, .ref ck), (1, .ref tw), (5, .int (nI (i + 1)))]) hx hb d_Ck_findUnreachedStations_51 rfl hl (by decide) rfl (fun ls hl => ?_)
              refine lv_aload hx hb d_Ck_findUnreachedStations_52 (lv_at hl 2 rfl) ?_
              refine v_call (va_runV (As := []) (rest := []) ⟨hx, hb, hml, hown, hts⟩ (c_Pc_isForWheels l G lo _ _ a_2 _ _ _ R hp.2.2) (kwV 0 hts w_co_Pc_isForWheels rfl rfl w_it_Pc w_ml_Ck_128 w_im_Pc_isForWheels w_se_Pc__Pc_isForWheels (by decide +kernel) ⟨(Nat.le_of_ble_eq_true rfl), (Nat.le_of_ble_eq_true rfl)⟩) (v_preV hK hV (vU_all (fa1 (pcAt_vU (cs := [(ck, eO 0 [.ref kk, .ref kn, .int (nI ((F ++ flt 7 (unr Q S) i).length))]), (kk, eI (gI G) 250 fk), (kn, eI (gI G) 250 fn), (tw, eO 5 [.ref ps, .ref bl, .ref sn, .ref tu]), (ps, eQ (gP G) 61 pf), (sn, eO 4 [.ref s1, .ref s2]), (s1, eI (gI G) 31 fs), (s2, eI (gI G) 31 fd)]) hp hdc hdhp).1)) hz (pcAt_vU (cs := [(ck, eO 0 [.ref kk, .ref kn, .int (nI ((F ++ flt 7 (unr Q S) i).length))]), (kk, eI (gI G) 250 fk), (kn, eI (gI G) 250 fn), (tw, eO 5 [.ref ps, .ref bl, .ref sn, .ref tu]), (ps, eQ (gP G) 61 pf), (sn, eO 4 [.ref s1, .ref s2]), (s1, eI (gI G) 31 fs), (s2, eI (gI G) 31 fd)]) hp hdc hdhp).1 rfl) rfl rfl hl.1 rfl (lv_room (Nat.le_of_ble_eq_true rfl)) d_Ck_findUnreachedStations_54 ⟨(Nat.le_of_ble_eq_true rfl), (Nat.le_of_ble_eq_true rfl)⟩) hV (fun r9 V9 H locs hp hV hle => ?_)
              obtain ⟨rfl, rfl, hz⟩ := hp
              replace hV := vS_all (fa1 (pcAt_vU (cs := [(ck, eO 0 [.ref kk, .ref kn, .int (nI ((F ++ flt 7 (unr Q S) i).length))]), (kk, eI (gI G) 250 fk), (kn, eI (gI G) 250 fn), (tw, eO 5 [.ref ps, .ref bl, .ref sn, .ref tu]), (ps, eQ (gP G) 61 pf), (sn, eO 4 [.ref s1, .ref s2]), (s1, eI (gI G) 31 fs), (s2, eI (gI G) 31 fd)]) hp hdc hdhp).1) hV
              rcases tf (whl R.2.1.2.1) with d_3 | d_3
              · have hV : vS G.1 cls lo s H locs (vU V [(ck, eO 0 [.ref kk, .ref kn, .int (nI ((F ++ flt 7 (unr Q S) i).length))]), (kk, eI (gI G) 250 fk), (kn, eI (gI G) 250 fn), (tw, eO 5 [.ref ps, .ref bl, .ref sn, .ref tu]), (ps, eQ (gP G) 61 pf), (sn, eO 4 [.ref s1, .ref s2]), (s1, eI (gI G) 31 fs), (s2, eI (gI G) 31 fd)]) := hV
                refine W.eq (g2 := F0 mi 57 ls [.int 1]) (by rw [d_3]; rfl) ?_
                refine lv_if_eq (tgt := 72) hx hb d_Ck_findUnreachedStations_57 (by decide) (fun c_4 => absurd c_4 (by decide)) (fun _ => ?_)
                refine lv_aload hx hb d_Ck_findUnreachedStations_60 (lv_at hl 2 rfl) ?_
                refine v_call (va_runV (As := []) (rest := []) ⟨hx, hb, hml, hown, hts⟩ (c_Pc_ends l G lo _ _ a_2 _ _ _ R hp.2.2) (kwV 0 hts w_co_Pc_ends rfl rfl w_it_Pc w_ml_Ck_121 w_im_Pc_ends w_se_Pc__Pc_ends (by decide +kernel) ⟨(Nat.le_of_ble_eq_true rfl), (Nat.le_of_ble_eq_true rfl)⟩) (v_preV hK hV (vU_all (fa1 (pcAt_vU (cs := [(ck, eO 0 [.ref kk, .ref kn, .int (nI ((F ++ flt 7 (unr Q S) i).length))]), (kk, eI (gI G) 250 fk), (kn, eI (gI G) 250 fn), (tw, eO 5 [.ref ps, .ref bl, .ref sn, .ref tu]), (ps, eQ (gP G) 61 pf), (sn, eO 4 [.ref s1, .ref s2]), (s1, eI (gI G) 31 fs), (s2, eI (gI G) 31 fd)]) hp hdc hdhp).1)) hz (pcAt_vU (cs := [(ck, eO 0 [.ref kk, .ref kn, .int (nI ((F ++ flt 7 (unr Q S) i).length))]), (kk, eI (gI G) 250 fk), (kn, eI (gI G) 250 fn), (tw, eO 5 [.ref ps, .ref bl, .ref sn, .ref tu]), (ps, eQ (gP G) 61 pf), (sn, eO 4 [.ref s1, .ref s2]), (s1, eI (gI G) 31 fs), (s2, eI (gI G) 31 fd)]) hp hdc hdhp).1 rfl) rfl rfl hl.1 rfl (lv_room (Nat.le_of_ble_eq_true rfl)) d_Ck_findUnreachedStations_62 ⟨(Nat.le_of_ble_eq_true rfl), (Nat.le_of_ble_eq_true rfl)⟩) hV (fun r9 V9 H locs hp hV hle => ?_)
                obtain ⟨rfl, rfl, hz⟩ := hp
                replace hV := vS_all (fa1 (pcAt_vU (cs := [(ck, eO 0 [.ref kk, .ref kn, .int (nI ((F ++ flt 7 (unr Q S) i).length))]), (kk, eI (gI G) 250 fk), (kn, eI (gI G) 250 fn), (tw, eO 5 [.ref ps, .ref bl, .ref sn, .ref tu]), (ps, eQ (gP G) 61 pf), (sn, eO 4 [.ref s1, .ref s2]), (s1, eI (gI G) 31 fs), (s2, eI (gI G) 31 fd)]) hp hdc hdhp).1) hV
                have hV : vS G.1 cls lo s H locs (vU V [(ck, eO 0 [.ref kk, .ref kn, .int (nI ((F ++ flt 7 (unr Q S) i).length))]), (kk, eI (gI G) 250 fk), (kn, eI (gI G) 250 fn), (tw, eO 5 [.ref ps, .ref bl, .ref sn, .ref tu]), (ps, eQ (gP G) 61 pf), (sn, eO 4 [.ref s1, .ref s2]), (s1, eI (gI G) 31 fs), (s2, eI (gI G) 31 fd)]) := hV
                refine W.eq (g2 := F0 mi 65 ls [.long (lN (endsN R))]) rfl ?_
                refine lv_lload_n hx hb d_Ck_findUnreachedStations_65 rfl (lv_at hl 0 rfl) ?_
                refine e_land (v := lN (endsN R &&& rnds Q (endsN R) 40)) hx hb d_Ck_findUnreachedStations_66 (lN_and (ends_lt hp.2.2) hrb) ?_
                refine lv_lconst (v := 0) hx hb d_Ck_findUnreachedStations_67 (by decide) ?_
                refine W.lcmp hx hb d_Ck_findUnreachedStations_68 ?_
                refine lv_if_ne (tgt := 80) hx hb d_Ck_findUnreachedStations_69 (by decide) (fun c_5 => ?_) (fun c_5 => ?_)
                · have h0 : ¬ endsN R &&& rnds Q (endsN R) 40 = 0 := fun z => c_5 ((lg_cmp_eq _ _).mpr ((lN_0 (and_lt41 (ends_lt hp.2.2))).mpr z))
                  have hE : unr Q S (i + 1) = false := by rw [eU]; simp only [bad7, d_3, decide_eq_false h0, Bool.not_true, Bool.or_self]
                  rw [app_n hE] at hV hO
                  refine lv_iinc (v := nI (i + 2)) (lv' := [(5, .int (nI (i + 2))), (3, .long (lN (rnds Q (endsN R) 40))), (2, va_rf ((some a_2))), (6, .ref a_2), (0, .ref ck), (1, .ref tw)]) hx hb d_Ck_findUnreachedStations_80 hl (k := 5) rfl (nI_add (i + 1) 1) (by decide) rfl (fun ls hl => ?_)
                  refine lv_goto (tgt := 7) hx hb d_Ck_findUnreachedStations_83 (by decide) ?_
                  exact ih (i + 1) fk fn (some a_2) (lN (rnds Q (endsN R) 40)) (by omega) (by omega) hO (Or.inr ⟨_, R, rfl, eT, rfl, hrb⟩) H locs ls hz hV (lv_sub hl [4, 5, 2, 1, 0] rfl)
                · have h0 : endsN R &&& rnds Q (endsN R) 40 = 0 := (lN_0 (and_lt41 (ends_lt hp.2.2))).mp ((lg_cmp_eq _ _).mp c_5)
                  have hE : unr Q S (i + 1) = true := by rw [eU]; simp only [bad7, decide_eq_true h0, Bool.or_true]
                  refine lv_aload_n hx hb d_Ck_findUnreachedStations_72 rfl (lv_at hl 3 rfl) ?_
                  refine lv_bipush (v := 7) hx hb d_Ck_findUnreachedStations_73 (by decide) ?_
                  refine lv_iload hx hb d_Ck_findUnreachedStations_75 (lv_at hl 5 rfl) ?_
                  refine v_call (va_runV (As := [.int 7, .int (nI (i + 1))]) (rest := []) ⟨hx, hb, hml, hown, hts⟩ (c_Ck_add l G lo _ _ ck kk kn fk fn (F ++ flt 7 (unr Q S) i) (nd_sub hn [0, 1, 2] (by decide) rfl) hO (by rw [List.length_append]; have := flt_le 7 (unr Q S) i; omega) 7 (i + 1)) (kwV 2 hts w_co_Ck_add rfl rfl w_it_Ck w_ml_Ck_77 w_im_Ck_add w_se_Ck__Ck_add (by decide +kernel) ⟨(Nat.le_of_ble_eq_true rfl), (Nat.le_of_ble_eq_true rfl)⟩) (u_preV hK hV hn [0, 1, 2] rfl hz 0 rfl rfl) rfl rfl hl.1 rfl (lv_room (Nat.le_of_ble_eq_true rfl)) d_Ck_findUnreachedStations_77 ⟨(Nat.le_of_ble_eq_true rfl), (Nat.le_of_ble_eq_true rfl)⟩) hV (fun r9 V9 H locs hp hV hle => ?_)
                  obtain ⟨rfl, ⟨g_6k, g_6n, rfl, hO_g_6⟩, hz⟩ := hp
                  replace hV := u_back hV hn [0, 1, 2] rfl
                  have hV : vS G.1 cls lo s H locs (vU V [(ck, eO 0 [.ref kk, .ref kn, .int (nI ((F ++ flt 7 (unr Q S) i ++ [(7, i + 1)]).length))]), (kk, eI (gI G) 250 g_6k), (kn, eI (gI G) 250 g_6n), (tw, eO 5 [.ref ps, .ref bl, .ref sn, .ref tu]), (ps, eQ (gP G) 61 pf), (sn, eO 4 [.ref s1, .ref s2]), (s1, eI (gI G) 31 fs), (s2, eI (gI G) 31 fd)]) := hV
                  rw [app_y hE] at hV hO_g_6
                  refine lv_iinc (v := nI (i + 2)) (lv' := [(5, .int (nI (i + 2))), (3, .long (lN (rnds Q (endsN R) 40))), (2, va_rf ((some a_2))), (6, .ref a_2), (0, .ref ck), (1, .ref tw)]) hx hb d_Ck_findUnreachedStations_80 hl (k := 5) rfl (nI_add (i + 1) 1) (by decide) rfl (fun ls hl => ?_)
                  refine lv_goto (tgt := 7) hx hb d_Ck_findUnreachedStations_83 (by decide) ?_
                  exact ih (i + 1) g_6k g_6n (some a_2) (lN (rnds Q (endsN R) 40)) (by omega) (by omega) hO_g_6 (Or.inr ⟨_, R, rfl, eT, rfl, hrb⟩) H locs ls hz hV (lv_sub hl [4, 5, 2, 1, 0] rfl)
              · have hE : unr Q S (i + 1) = true := by rw [eU]; simp only [bad7, d_3, Bool.not_false, Bool.true_or]
                have hV : vS G.1 cls lo s H locs (vU V [(ck, eO 0 [.ref kk, .ref kn, .int (nI ((F ++ flt 7 (unr Q S) i).length))]), (kk, eI (gI G) 250 fk), (kn, eI (gI G) 250 fn), (tw, eO 5 [.ref ps, .ref bl, .ref sn, .ref tu]), (ps, eQ (gP G) 61 pf), (sn, eO 4 [.ref s1, .ref s2]), (s1, eI (gI G) 31 fs), (s2, eI (gI G) 31 fd)]) := hV
                refine W.eq (g2 := F0 mi 57 ls [.int 0]) (by rw [d_3]; rfl) ?_
                refine lv_if_eq (tgt := 72) hx hb d_Ck_findUnreachedStations_57 (by decide) (fun _ => ?_) (fun c_7 => absurd c_7 (by decide))
                refine lv_aload_n hx hb d_Ck_findUnreachedStations_72 rfl (lv_at hl 3 rfl) ?_
                refine lv_bipush (v := 7) hx hb d_Ck_findUnreachedStations_73 (by decide) ?_
                refine lv_iload hx hb d_Ck_findUnreachedStations_75 (lv_at hl 5 rfl) ?_
                refine v_call (va_runV (As := [.int 7, .int (nI (i + 1))]) (rest := []) ⟨hx, hb, hml, hown, hts⟩ (c_Ck_add l G lo _ _ ck kk kn fk fn (F ++ flt 7 (unr Q S) i) (nd_sub hn [0, 1, 2] (by decide) rfl) hO (by rw [List.length_append]; have := flt_le 7 (unr Q S) i; omega) 7 (i + 1)) (kwV 2 hts w_co_Ck_add rfl rfl w_it_Ck w_ml_Ck_77 w_im_Ck_add w_se_Ck__Ck_add (by decide +kernel) ⟨(Nat.le_of_ble_eq_true rfl), (Nat.le_of_ble_eq_true rfl)⟩) (u_preV hK hV hn [0, 1, 2] rfl hz 0 rfl rfl) rfl rfl hl.1 rfl (lv_room (Nat.le_of_ble_eq_true rfl)) d_Ck_findUnreachedStations_77 ⟨(Nat.le_of_ble_eq_true rfl), (Nat.le_of_ble_eq_true rfl)⟩) hV (fun r9 V9 H locs hp hV hle => ?_)
                obtain ⟨rfl, ⟨g_8k, g_8n, rfl, hO_g_8⟩, hz⟩ := hp
                replace hV := u_back hV hn [0, 1, 2] rfl
                have hV : vS G.1 cls lo s H locs (vU V [(ck, eO 0 [.ref kk, .ref kn, .int (nI ((F ++ flt 7 (unr Q S) i ++ [(7, i + 1)]).length))]), (kk, eI (gI G) 250 g_8k), (kn, eI (gI G) 250 g_8n), (tw, eO 5 [.ref ps, .ref bl, .ref sn, .ref tu]), (ps, eQ (gP G) 61 pf), (sn, eO 4 [.ref s1, .ref s2]), (s1, eI (gI G) 31 fs), (s2, eI (gI G) 31 fd)]) := hV
                rw [app_y hE] at hV hO_g_8
                refine lv_iinc (v := nI (i + 2)) (lv' := [(5, .int (nI (i + 2))), (3, .long (lN (rnds Q (endsN R) 40))), (2, va_rf ((some a_2))), (6, .ref a_2), (0, .ref ck), (1, .ref tw)]) hx hb d_Ck_findUnreachedStations_80 hl (k := 5) rfl (nI_add (i + 1) 1) (by decide) rfl (fun ls hl => ?_)
                refine lv_goto (tgt := 7) hx hb d_Ck_findUnreachedStations_83 (by decide) ?_
                exact ih (i + 1) g_8k g_8n (some a_2) (lN (rnds Q (endsN R) 40)) (by omega) (by omega) hO_g_8 (Or.inr ⟨_, R, rfl, eT, rfl, hrb⟩) H locs ls hz hV (lv_sub hl [4, 5, 2, 1, 0] rfl)
            · rw [hso] at hl
              have hl : lv_has ls 7 [(6, .ref a_2), (0, .ref ck), (1, .ref tw), (2, .ref a0), (3, .long xr), (5, .int (nI (i + 1)))] := hl
              obtain ⟨R0, f0, hxr⟩ : ∃ R0, fst7 Q S i = some R0 ∧ xr = lN (rnds Q (endsN R0) 40) ∧ rnds Q (endsN R0) 40 < 2 ^ 41 := by
                rcases hI with ⟨q, -⟩ | ⟨a0, R0, q, q1, q2⟩
                · rw [hso] at q; cases q
                · exact ⟨R0, q1, q2⟩
              obtain ⟨rfl, hrb⟩ := hxr
              have eT : fst7 Q S (i + 1) = some R0 := fst7_s f0
              have eU := unr_s eP eT
              refine lv_aload_n hx hb d_Ck_findUnreachedStations_35 rfl (lv_at hl 3 rfl) ?_
              refine lv_ifnonnull (tgt := 52) hx hb d_Ck_findUnreachedStations_36 (by decide) ?_
              refine lv_aload hx hb d_Ck_findUnreachedStations_52 (lv_at hl 0 rfl) ?_
              refine v_call (va_runV (As := []) (rest := []) ⟨hx, hb, hml, hown, hts⟩ (c_Pc_isForWheels l G lo _ _ a_2 _ _ _ R hp.2.2) (kwV 0 hts w_co_Pc_isForWheels rfl rfl w_it_Pc w_ml_Ck_128 w_im_Pc_isForWheels w_se_Pc__Pc_isForWheels (by decide +kernel) ⟨(Nat.le_of_ble_eq_true rfl), (Nat.le_of_ble_eq_true rfl)⟩) (v_preV hK hV (vU_all (fa1 (pcAt_vU (cs := [(ck, eO 0 [.ref kk, .ref kn, .int (nI ((F ++ flt 7 (unr Q S) i).length))]), (kk, eI (gI G) 250 fk), (kn, eI (gI G) 250 fn), (tw, eO 5 [.ref ps, .ref bl, .ref sn, .ref tu]), (ps, eQ (gP G) 61 pf), (sn, eO 4 [.ref s1, .ref s2]), (s1, eI (gI G) 31 fs), (s2, eI (gI G) 31 fd)]) hp hdc hdhp).1)) hz (pcAt_vU (cs := [(ck, eO 0 [.ref kk, .ref kn, .int (nI ((F ++ flt 7 (unr Q S) i).length))]), (kk, eI (gI G) 250 fk), (kn, eI (gI G) 250 fn), (tw, eO 5 [.ref ps, .ref bl, .ref sn, .ref tu]), (ps, eQ (gP G) 61 pf), (sn, eO 4 [.ref s1, .ref s2]), (s1, eI (gI G) 31 fs), (s2, eI (gI G) 31 fd)]) hp hdc hdhp).1 rfl) rfl rfl hl.1 rfl (lv_room (Nat.le_of_ble_eq_true rfl)) d_Ck_findUnreachedStations_54 ⟨(Nat.le_of_ble_eq_true rfl), (Nat.le_of_ble_eq_true rfl)⟩) hV (fun r9 V9 H locs hp hV hle => ?_)
              obtain ⟨rfl, rfl, hz⟩ := hp
              replace hV := vS_all (fa1 (pcAt_vU (cs := [(ck, eO 0 [.ref kk, .ref kn, .int (nI ((F ++ flt 7 (unr Q S) i).length))]), (kk, eI (gI G) 250 fk), (kn, eI (gI G) 250 fn), (tw, eO 5 [.ref ps, .ref bl, .ref sn, .ref tu]), (ps, eQ (gP G) 61 pf), (sn, eO 4 [.ref s1, .ref s2]), (s1, eI (gI G) 31 fs), (s2, eI (gI G) 31 fd)]) hp hdc hdhp).1) hV
              rcases tf (whl R.2.1.2.1) with d_9 | d_9
              · have hV : vS G.1 cls lo s H locs (vU V [(ck, eO 0 [.ref kk, .ref kn, .int (nI ((F ++ flt 7 (unr Q S) i).length))]), (kk, eI (gI G) 250 fk), (kn, eI (gI G) 250 fn), (tw, eO 5 [.ref ps, .ref bl, .ref sn, .ref tu]), (ps, eQ (gP G) 61 pf), (sn, eO 4 [.ref s1, .ref s2]), (s1, eI (gI G) 31 fs), (s2, eI (gI G) 31 fd)]) := hV
                refine W.eq (g2 := F0 mi 57 ls [.int 1]) (by rw [d_9]; rfl) ?_
                refine lv_if_eq (tgt := 72) hx hb d_Ck_findUnreachedStations_57 (by decide) (fun c_10 => absurd c_10 (by decide)) (fun _ => ?_)
                refine lv_aload hx hb d_Ck_findUnreachedStations_60 (lv_at hl 0 rfl) ?_
                refine v_call (va_runV (As := []) (rest := []) ⟨hx, hb, hml, hown, hts⟩ (c_Pc_ends l G lo _ _ a_2 _ _ _ R hp.2.2) (kwV 0 hts w_co_Pc_ends rfl rfl w_it_Pc w_ml_Ck_121 w_im_Pc_ends w_se_Pc__Pc_ends (by decide +kernel) ⟨(Nat.le_of_ble_eq_true rfl), (Nat.le_of_ble_eq_true rfl)⟩) (v_preV hK hV (vU_all (fa1 (pcAt_vU (cs := [(ck, eO 0 [.ref kk, .ref kn, .int (nI ((F ++ flt 7 (unr Q S) i).length))]), (kk, eI (gI G) 250 fk), (kn, eI (gI G) 250 fn), (tw, eO 5 [.ref ps, .ref bl, .ref sn, .ref tu]), (ps, eQ (gP G) 61 pf), (sn, eO 4 [.ref s1, .ref s2]), (s1, eI (gI G) 31 fs), (s2, eI (gI G) 31 fd)]) hp hdc hdhp).1)) hz (pcAt_vU (cs := [(ck, eO 0 [.ref kk, .ref kn, .int (nI ((F ++ flt 7 (unr Q S) i).length))]), (kk, eI (gI G) 250 fk), (kn, eI (gI G) 250 fn), (tw, eO 5 [.ref ps, .ref bl, .ref sn, .ref tu]), (ps, eQ (gP G) 61 pf), (sn, eO 4 [.ref s1, .ref s2]), (s1, eI (gI G) 31 fs), (s2, eI (gI G) 31 fd)]) hp hdc hdhp).1 rfl) rfl rfl hl.1 rfl (lv_room (Nat.le_of_ble_eq_true rfl)) d_Ck_findUnreachedStations_62 ⟨(Nat.le_of_ble_eq_true rfl), (Nat.le_of_ble_eq_true rfl)⟩) hV (fun r9 V9 H locs hp hV hle => ?_)
                obtain ⟨rfl, rfl, hz⟩ := hp
                replace hV := vS_all (fa1 (pcAt_vU (cs := [(ck, eO 0 [.ref kk, .ref kn, .int (nI ((F ++ flt 7 (unr Q S) i).length))]), (kk, eI (gI G) 250 fk), (kn, eI (gI G) 250 fn), (tw, eO 5 [.ref ps, .ref bl, .ref sn, .ref tu]), (ps, eQ (gP G) 61 pf), (sn, eO 4 [.ref s1, .ref s2]), (s1, eI (gI G) 31 fs), (s2, eI (gI G) 31 fd)]) hp hdc hdhp).1) hV
                have hV : vS G.1 cls lo s H locs (vU V [(ck, eO 0 [.ref kk, .ref kn, .int (nI ((F ++ flt 7 (unr Q S) i).length))]), (kk, eI (gI G) 250 fk), (kn, eI (gI G) 250 fn), (tw, eO 5 [.ref ps, .ref bl, .ref sn, .ref tu]), (ps, eQ (gP G) 61 pf), (sn, eO 4 [.ref s1, .ref s2]), (s1, eI (gI G) 31 fs), (s2, eI (gI G) 31 fd)]) := hV
                refine W.eq (g2 := F0 mi 65 ls [.long (lN (endsN R))]) rfl ?_
                refine lv_lload_n hx hb d_Ck_findUnreachedStations_65 rfl (lv_at hl 4 rfl) ?_
                refine e_land (v := lN (endsN R &&& rnds Q (endsN R0) 40)) hx hb d_Ck_findUnreachedStations_66 (lN_and (ends_lt hp.2.2) hrb) ?_
                refine lv_lconst (v := 0) hx hb d_Ck_findUnreachedStations_67 (by decide) ?_
                refine W.lcmp hx hb d_Ck_findUnreachedStations_68 ?_
                refine lv_if_ne (tgt := 80) hx hb d_Ck_findUnreachedStations_69 (by decide) (fun c_11 => ?_) (fun c_11 => ?_)
                · have h0 : ¬ endsN R &&& rnds Q (endsN R0) 40 = 0 := fun z => c_11 ((lg_cmp_eq _ _).mpr ((lN_0 (and_lt41 (ends_lt hp.2.2))).mpr z))
                  have hE : unr Q S (i + 1) = false := by rw [eU]; simp only [bad7, d_9, decide_eq_false h0, Bool.not_true, Bool.or_self]
                  rw [app_n hE] at hV hO
                  refine lv_iinc (v := nI (i + 2)) (lv' := [(5, .int (nI (i + 2))), (6, .ref a_2), (0, .ref ck), (1, .ref tw), (2, va_rf ((some a0))), (3, .long (lN (rnds Q (endsN R0) 40)))]) hx hb d_Ck_findUnreachedStations_80 hl (k := 5) rfl (nI_add (i + 1) 1) (by decide) rfl (fun ls hl => ?_)
                  refine lv_goto (tgt := 7) hx hb d_Ck_findUnreachedStations_83 (by decide) ?_
                  exact ih (i + 1) fk fn (some a0) (lN (rnds Q (endsN R0) 40)) (by omega) (by omega) hO (Or.inr ⟨_, R0, rfl, eT, rfl, hrb⟩) H locs ls hz hV (lv_sub hl [2, 3, 4, 5, 0] rfl)
                · have h0 : endsN R &&& rnds Q (endsN R0) 40 = 0 := (lN_0 (and_lt41 (ends_lt hp.2.2))).mp ((lg_cmp_eq _ _).mp c_11)
                  have hE : unr Q S (i + 1) = true := by rw [eU]; simp only [bad7, decide_eq_true h0, Bool.or_true]
                  refine lv_aload_n hx hb d_Ck_findUnreachedStations_72 rfl (lv_at hl 1 rfl) ?_
                  refine lv_bipush (v := 7) hx hb d_Ck_findUnreachedStations_73 (by decide) ?_
                  refine lv_iload hx hb d_Ck_findUnreachedStations_75 (lv_at hl 5 rfl) ?_
                  refine v_call (va_runV (As := [.int 7, .int (nI (i + 1))]) (rest := []) ⟨hx, hb, hml, hown, hts⟩ (c_Ck_add l G lo _ _ ck kk kn fk fn (F ++ flt 7 (unr Q S) i) (nd_sub hn [0, 1, 2] (by decide) rfl) hO (by rw [List.length_append]; have := flt_le 7 (unr Q S) i; omega) 7 (i + 1)) (kwV 2 hts w_co_Ck_add rfl rfl w_it_Ck w_ml_Ck_77 w_im_Ck_add w_se_Ck__Ck_add (by decide +kernel) ⟨(Nat.le_of_ble_eq_true rfl), (Nat.le_of_ble_eq_true rfl)⟩) (u_preV hK hV hn [0, 1, 2] rfl hz 0 rfl rfl) rfl rfl hl.1 rfl (lv_room (Nat.le_of_ble_eq_true rfl)) d_Ck_findUnreachedStations_77 ⟨(Nat.le_of_ble_eq_true rfl), (Nat.le_of_ble_eq_true rfl)⟩) hV (fun r9 V9 H locs hp hV hle => ?_)
                  obtain ⟨rfl, ⟨g_12k, g_12n, rfl, hO_g_12⟩, hz⟩ := hp
                  replace hV := u_back hV hn [0, 1, 2] rfl
                  have hV : vS G.1 cls lo s H locs (vU V [(ck, eO 0 [.ref kk, .ref kn, .int (nI ((F ++ flt 7 (unr Q S) i ++ [(7, i + 1)]).length))]), (kk, eI (gI G) 250 g_12k), (kn, eI (gI G) 250 g_12n), (tw, eO 5 [.ref ps, .ref bl, .ref sn, .ref tu]), (ps, eQ (gP G) 61 pf), (sn, eO 4 [.ref s1, .ref s2]), (s1, eI (gI G) 31 fs), (s2, eI (gI G) 31 fd)]) := hV
                  rw [app_y hE] at hV hO_g_12
                  refine lv_iinc (v := nI (i + 2)) (lv' := [(5, .int (nI (i + 2))), (6, .ref a_2), (0, .ref ck), (1, .ref tw), (2, va_rf ((some a0))), (3, .long (lN (rnds Q (endsN R0) 40)))]) hx hb d_Ck_findUnreachedStations_80 hl (k := 5) rfl (nI_add (i + 1) 1) (by decide) rfl (fun ls hl => ?_)
                  refine lv_goto (tgt := 7) hx hb d_Ck_findUnreachedStations_83 (by decide) ?_
                  exact ih (i + 1) g_12k g_12n (some a0) (lN (rnds Q (endsN R0) 40)) (by omega) (by omega) hO_g_12 (Or.inr ⟨_, R0, rfl, eT, rfl, hrb⟩) H locs ls hz hV (lv_sub hl [2, 3, 4, 5, 0] rfl)
              · have hE : unr Q S (i + 1) = true := by rw [eU]; simp only [bad7, d_9, Bool.not_false, Bool.true_or]
                have hV : vS G.1 cls lo s H locs (vU V [(ck, eO 0 [.ref kk, .ref kn, .int (nI ((F ++ flt 7 (unr Q S) i).length))]), (kk, eI (gI G) 250 fk), (kn, eI (gI G) 250 fn), (tw, eO 5 [.ref ps, .ref bl, .ref sn, .ref tu]), (ps, eQ (gP G) 61 pf), (sn, eO 4 [.ref s1, .ref s2]), (s1, eI (gI G) 31 fs), (s2, eI (gI G) 31 fd)]) := hV
                refine W.eq (g2 := F0 mi 57 ls [.int 0]) (by rw [d_9]; rfl) ?_
                refine lv_if_eq (tgt := 72) hx hb d_Ck_findUnreachedStations_57 (by decide) (fun _ => ?_) (fun c_13 => absurd c_13 (by decide))
                refine lv_aload_n hx hb d_Ck_findUnreachedStations_72 rfl (lv_at hl 1 rfl) ?_
                refine lv_bipush (v := 7) hx hb d_Ck_findUnreachedStations_73 (by decide) ?_
                refine lv_iload hx hb d_Ck_findUnreachedStations_75 (lv_at hl 5 rfl) ?_
                refine v_call (va_runV (As := [.int 7, .int (nI (i + 1))]) (rest := []) ⟨hx, hb, hml, hown, hts⟩ (c_Ck_add l G lo _ _ ck kk kn fk fn (F ++ flt 7 (unr Q S) i) (nd_sub hn [0, 1, 2] (by decide) rfl) hO (by rw [List.length_append]; have := flt_le 7 (unr Q S) i; omega) 7 (i + 1)) (kwV 2 hts w_co_Ck_add rfl rfl w_it_Ck w_ml_Ck_77 w_im_Ck_add w_se_Ck__Ck_add (by decide +kernel) ⟨(Nat.le_of_ble_eq_true rfl), (Nat.le_of_ble_eq_true rfl)⟩) (u_preV hK hV hn [0, 1, 2] rfl hz 0 rfl rfl) rfl rfl hl.1 rfl (lv_room (Nat.le_of_ble_eq_true rfl)) d_Ck_findUnreachedStations_77 ⟨(Nat.le_of_ble_eq_true rfl), (Nat.le_of_ble_eq_true rfl)⟩) hV (fun r9 V9 H locs hp hV hle => ?_)
                obtain ⟨rfl, ⟨g_14k, g_14n, rfl, hO_g_14⟩, hz⟩ := hp
                replace hV := u_back hV hn [0, 1, 2] rfl
                have hV : vS G.1 cls lo s H locs (vU V [(ck, eO 0 [.ref kk, .ref kn, .int (nI ((F ++ flt 7 (unr Q S) i ++ [(7, i + 1)]).length))]), (kk, eI (gI G) 250 g_14k), (kn, eI (gI G) 250 g_14n), (tw, eO 5 [.ref ps, .ref bl, .ref sn, .ref tu]), (ps, eQ (gP G) 61 pf), (sn, eO 4 [.ref s1, .ref s2]), (s1, eI (gI G) 31 fs), (s2, eI (gI G) 31 fd)]) := hV
                rw [app_y hE] at hV hO_g_14
                refine lv_iinc (v := nI (i + 2)) (lv' := [(5, .int (nI (i + 2))), (6, .ref a_2), (0, .ref ck), (1, .ref tw), (2, va_rf ((some a0))), (3, .long (lN (rnds Q (endsN R0) 40)))]) hx hb d_Ck_findUnreachedStations_80 hl (k := 5) rfl (nI_add (i + 1) 1) (by decide) rfl (fun ls hl => ?_)
                refine lv_goto (tgt := 7) hx hb d_Ck_findUnreachedStations_83 (by decide) ?_
                exact ih (i + 1) g_14k g_14n (some a0) (lN (rnds Q (endsN R0) 40)) (by omega) (by omega) hO_g_14 (Or.inr ⟨_, R0, rfl, eT, rfl, hrb⟩) H locs ls hz hV (lv_sub hl [2, 3, 4, 5, 0] rfl)
  have eF : F ++ flt 7 (unr Q S) 0 = F := List.append_nil F
  rw [← eF] at hV hO
  exact loop 31 0 fk fn none 0 (by omega) (by omega) hO (Or.inl ⟨rfl, rfl⟩) H locs ls hz hV (lv_sub hl [3, 4, 2, 1, 0] rfl)
