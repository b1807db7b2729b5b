theorem d_St_length_0 : decode b_St_length 0 = .ok (.aload_n 0, 1) := by decide +kernel
theorem d_St_length_1 : decode b_St_length 1 = .ok (.getfield 9, 3) := by decide +kernel
theorem d_St_length_4 : decode b_St_length 4 = .ok (.arraylength, 1) := by decide +kernel
theorem d_St_length_5 : decode b_St_length 5 = .ok (.aload_n 0, 1) := by decide +kernel
theorem d_St_length_6 : decode b_St_length 6 = .ok (.invokevirtual 335, 3) := by decide +kernel
theorem d_St_length_9 : decode b_St_length 9 = .ok (.ishr, 1) := by decide +kernel
theorem d_St_length_10 : decode b_St_length 10 = .ok (.ireturn, 1) := by decide +kernel
theorem d_St_coder_0 : decode b_St_coder 0 = .ok (.getstatic 38, 3) := by decide +kernel
theorem d_St_coder_3 : decode b_St_coder 3 = .ok (.ifCond .eq 10, 3) := by decide +kernel
theorem d_St_coder_6 : decode b_St_coder 6 = .ok (.aload_n 0, 1) := by decide +kernel
theorem d_St_coder_7 : decode b_St_coder 7 = .ok (.getfield 15, 3) := by decide +kernel
theorem d_St_coder_10 : decode b_St_coder 10 = .ok (.goto 4, 3) := by decide +kernel
theorem d_St_coder_13 : decode b_St_coder 13 = .ok (.iconst 1, 1) := by decide +kernel
theorem d_St_coder_14 : decode b_St_coder 14 = .ok (.ireturn, 1) := by decide +kernel
theorem d_St_charAt_0 : decode b_St_charAt 0 = .ok (.aload_n 0, 1) := by decide +kernel
theorem d_St_charAt_1 : decode b_St_charAt 1 = .ok (.invokevirtual 492, 3) := by decide +kernel
theorem d_St_charAt_4 : decode b_St_charAt 4 = .ok (.ifCond .eq 12, 3) := by decide +kernel
theorem d_St_charAt_7 : decode b_St_charAt 7 = .ok (.aload_n 0, 1) := by decide +kernel
theorem d_St_charAt_8 : decode b_St_charAt 8 = .ok (.getfield 9, 3) := by decide +kernel
theorem d_St_charAt_11 : decode b_St_charAt 11 = .ok (.iload_n 1, 1) := by decide +kernel
theorem d_St_charAt_12 : decode b_St_charAt 12 = .ok (.invokestatic 495, 3) := by decide +kernel
theorem d_St_charAt_15 : decode b_St_charAt 15 = .ok (.ireturn, 1) := by decide +kernel
theorem d_St_charAt_16 : decode b_St_charAt 16 = .ok (.aload_n 0, 1) := by decide +kernel
theorem d_St_charAt_17 : decode b_St_charAt 17 = .ok (.getfield 9, 3) := by decide +kernel
theorem d_St_charAt_20 : decode b_St_charAt 20 = .ok (.iload_n 1, 1) := by decide +kernel
theorem d_St_charAt_21 : decode b_St_charAt 21 = .ok (.invokestatic 498, 3) := by decide +kernel
theorem d_St_charAt_24 : decode b_St_charAt 24 = .ok (.ireturn, 1) := by decide +kernel
theorem d_St_isLatin1_0 : decode b_St_isLatin1 0 = .ok (.getstatic 38, 3) := by decide +kernel
theorem d_St_isLatin1_3 : decode b_St_isLatin1 3 = .ok (.ifCond .eq 14, 3) := by decide +kernel
theorem d_St_isLatin1_6 : decode b_St_isLatin1 6 = .ok (.aload_n 0, 1) := by decide +kernel
theorem d_St_isLatin1_7 : decode b_St_isLatin1 7 = .ok (.getfield 15, 3) := by decide +kernel
theorem d_St_isLatin1_10 : decode b_St_isLatin1 10 = .ok (.ifCond .ne 7, 3) := by decide +kernel
theorem d_St_isLatin1_13 : decode b_St_isLatin1 13 = .ok (.iconst 1, 1) := by decide +kernel
theorem d_St_isLatin1_14 : decode b_St_isLatin1 14 = .ok (.goto 4, 3) := by decide +kernel
theorem d_St_isLatin1_17 : decode b_St_isLatin1 17 = .ok (.iconst 0, 1) := by decide +kernel
theorem d_St_isLatin1_18 : decode b_St_isLatin1 18 = .ok (.ireturn, 1) := by decide +kernel
theorem d_Sl_charAt_0 : decode b_Sl_charAt 0 = .ok (.iload_n 1, 1) := by decide +kernel
theorem d_Sl_charAt_1 : decode b_Sl_charAt 1 = .ok (.aload_n 0, 1) := by decide +kernel
theorem d_Sl_charAt_2 : decode b_Sl_charAt 2 = .ok (.arraylength, 1) := by decide +kernel
theorem d_Sl_charAt_3 : decode b_Sl_charAt 3 = .ok (.invokestatic 9, 3) := by decide +kernel
theorem d_Sl_charAt_6 : decode b_Sl_charAt 6 = .ok (.aload_n 0, 1) := by decide +kernel
theorem d_Sl_charAt_7 : decode b_Sl_charAt 7 = .ok (.iload_n 1, 1) := by decide +kernel
theorem d_Sl_charAt_8 : decode b_Sl_charAt 8 = .ok (.baload, 1) := by decide +kernel
theorem d_Sl_charAt_9 : decode b_Sl_charAt 9 = .ok (.sipush 255, 3) := by decide +kernel
theorem d_Sl_charAt_12 : decode b_Sl_charAt 12 = .ok (.iand, 1) := by decide +kernel
theorem d_Sl_charAt_13 : decode b_Sl_charAt 13 = .ok (.i2c, 1) := by decide +kernel
theorem d_Sl_charAt_14 : decode b_Sl_charAt 14 = .ok (.ireturn, 1) := by decide +kernel
theorem d_St_checkIndex_0 : decode b_St_checkIndex 0 = .ok (.iload_n 0, 1) := by decide +kernel
theorem d_St_checkIndex_1 : decode b_St_checkIndex 1 = .ok (.iload_n 1, 1) := by decide +kernel
theorem d_St_checkIndex_2 : decode b_St_checkIndex 2 = .ok (.getstatic 1053, 3) := by decide +kernel
theorem d_St_checkIndex_5 : decode b_St_checkIndex 5 = .ok (.invokestatic 1059, 3) := by decide +kernel
theorem d_St_checkIndex_8 : decode b_St_checkIndex 8 = .ok (.pop, 1) := by decide +kernel
theorem d_St_checkIndex_9 : decode b_St_checkIndex 9 = .ok (.return_, 1) := by decide +kernel
theorem d_Pk_checkIndex_0 : decode b_Pk_checkIndex 0 = .ok (.iload_n 0, 1) := by decide +kernel
theorem d_Pk_checkIndex_1 : decode b_Pk_checkIndex 1 = .ok (.ifCond .lt 8, 3) := by decide +kernel
theorem d_Pk_checkIndex_4 : decode b_Pk_checkIndex 4 = .ok (.iload_n 0, 1) := by decide +kernel
theorem d_Pk_checkIndex_5 : decode b_Pk_checkIndex 5 = .ok (.iload_n 1, 1) := by decide +kernel
theorem d_Pk_checkIndex_6 : decode b_Pk_checkIndex 6 = .ok (.if_icmp .lt 10, 3) := by decide +kernel
theorem d_Pk_checkIndex_9 : decode b_Pk_checkIndex 9 = .ok (.aload_n 2, 1) := by decide +kernel
theorem d_Pk_checkIndex_10 : decode b_Pk_checkIndex 10 = .ok (.iload_n 0, 1) := by decide +kernel
theorem d_Pk_checkIndex_11 : decode b_Pk_checkIndex 11 = .ok (.iload_n 1, 1) := by decide +kernel
theorem d_Pk_checkIndex_12 : decode b_Pk_checkIndex 12 = .ok (.invokestatic 95, 3) := by decide +kernel
theorem d_Pk_checkIndex_15 : decode b_Pk_checkIndex 15 = .ok (.athrow, 1) := by decide +kernel
theorem d_Pk_checkIndex_16 : decode b_Pk_checkIndex 16 = .ok (.iload_n 0, 1) := by decide +kernel
theorem d_Pk_checkIndex_17 : decode b_Pk_checkIndex 17 = .ok (.ireturn, 1) := by decide +kernel
theorem d_Rd_kindOf_0 : decode b_Rd_kindOf 0 = .ok (.iconst 0, 1) := by decide +kernel
theorem d_Rd_kindOf_1 : decode b_Rd_kindOf 1 = .ok (.istore_n 1, 1) := by decide +kernel
theorem d_Rd_kindOf_2 : decode b_Rd_kindOf 2 = .ok (.iload_n 1, 1) := by decide +kernel
theorem d_Rd_kindOf_3 : decode b_Rd_kindOf 3 = .ok (.ldc 109, 2) := by decide +kernel
theorem d_Rd_kindOf_5 : decode b_Rd_kindOf 5 = .ok (.invokevirtual 111, 3) := by decide +kernel
theorem d_Rd_kindOf_8 : decode b_Rd_kindOf 8 = .ok (.if_icmp .ge 21, 3) := by decide +kernel
theorem d_Rd_kindOf_11 : decode b_Rd_kindOf 11 = .ok (.ldc 109, 2) := by decide +kernel
theorem d_Rd_kindOf_13 : decode b_Rd_kindOf 13 = .ok (.iload_n 1, 1) := by decide +kernel
theorem d_Rd_kindOf_14 : decode b_Rd_kindOf 14 = .ok (.invokevirtual 115, 3) := by decide +kernel
theorem d_Rd_kindOf_17 : decode b_Rd_kindOf 17 = .ok (.iload_n 0, 1) := by decide +kernel
theorem d_Rd_kindOf_18 : decode b_Rd_kindOf 18 = .ok (.if_icmp .ne 5, 3) := by decide +kernel
theorem d_Rd_kindOf_21 : decode b_Rd_kindOf 21 = .ok (.iload_n 1, 1) := by decide +kernel
theorem d_Rd_kindOf_22 : decode b_Rd_kindOf 22 = .ok (.ireturn, 1) := by decide +kernel
theorem d_Rd_kindOf_23 : decode b_Rd_kindOf 23 = .ok (.iinc 1 1, 3) := by decide +kernel
theorem d_Rd_kindOf_26 : decode b_Rd_kindOf 26 = .ok (.goto (-24), 3) := by decide +kernel
theorem d_Rd_kindOf_29 : decode b_Rd_kindOf 29 = .ok (.iconst (-1), 1) := by decide +kernel
theorem d_Rd_kindOf_30 : decode b_Rd_kindOf 30 = .ok (.ireturn, 1) := by decide +kernel
theorem d_Pr_signOf_0 : decode b_Pr_signOf 0 = .ok (.iload_n 0, 1) := by decide +kernel
theorem d_Pr_signOf_1 : decode b_Pr_signOf 1 = .ok (.ifCond .lt 21, 3) := by decide +kernel
theorem d_Pr_signOf_4 : decode b_Pr_signOf 4 = .ok (.iload_n 0, 1) := by decide +kernel
theorem d_Pr_signOf_5 : decode b_Pr_signOf 5 = .ok (.ldc 105, 2) := by decide +kernel
theorem d_Pr_signOf_7 : decode b_Pr_signOf 7 = .ok (.invokevirtual 107, 3) := by decide +kernel
theorem d_Pr_signOf_10 : decode b_Pr_signOf 10 = .ok (.if_icmp .ge 12, 3) := by decide +kernel
theorem d_Pr_signOf_13 : decode b_Pr_signOf 13 = .ok (.ldc 105, 2) := by decide +kernel
theorem d_Pr_signOf_15 : decode b_Pr_signOf 15 = .ok (.iload_n 0, 1) := by decide +kernel
theorem d_Pr_signOf_16 : decode b_Pr_signOf 16 = .ok (.invokevirtual 112, 3) := by decide +kernel
theorem d_Pr_signOf_19 : decode b_Pr_signOf 19 = .ok (.goto 5, 3) := by decide +kernel
theorem d_Pr_signOf_22 : decode b_Pr_signOf 22 = .ok (.bipush 63, 2) := by decide +kernel
theorem d_Pr_signOf_24 : decode b_Pr_signOf 24 = .ok (.ireturn, 1) := by decide +kernel

def RSt : String := "java/lang/String"
def RSl : String := "java/lang/StringLatin1"
def RPk : String := "jdk/internal/util/Preconditions"
/-- the kinds' letters -/
def kindN (j : Nat) : Nat := ([114, 98, 116, 102, 119] : List Nat).getD j 0
theorem kindN_ch : ∀ j, j < 5 → ((kindB j &&& 255).toUInt32 % 65536).toInt32 = nI (kindN j) := by decide +kernel
theorem kindN_lt : ∀ j, j < 5 → kindN j < 256 := by decide +kernel
theorem kindN_nar : ∀ j, j < 5 → narrow .char (.int (nI (kindN j))) = .int (nI (kindN j)) := by decide +kernel
theorem sh50 : (5 : Int32) >>> ((0 : Int32) &&& 31) = 5 := by decide
/-- what kindOf answers -/
def kRes (x : Int32) : Int32 := if nI 114 = x then 0 else if nI 98 = x then 1 else if nI 116 = x then 2 else if nI 102 = x then 3 else if nI 119 = x then 4 else -1
theorem kRes_at {x : Int32} {j : Nat} (hj : j < 5) (hno : ∀ i, i < j → ¬ nI (kindN i) = x) (h : nI (kindN j) = x) : kRes x = nI j := by
  rcases (show j = 0 ∨ j = 1 ∨ j = 2 ∨ j = 3 ∨ j = 4 by omega) with rfl | rfl | rfl | rfl | rfl <;> subst h <;> decide
theorem kRes_no {x : Int32} (hno : ∀ i, i < 5 → ¬ nI (kindN i) = x) : kRes x = -1 := by
  have h0 : ¬ nI 114 = x := hno 0 (by decide)
  have h1 : ¬ nI 98 = x := hno 1 (by decide)
  have h2 : ¬ nI 116 = x := hno 2 (by decide)
  have h3 : ¬ nI 102 = x := hno 3 (by decide)
  have h4 : ¬ nI 119 = x := hno 4 (by decide)
  simp [kRes, h0, h1, h2, h3, h4]
section KP
variable {s : State} {H : Heap} {locs : List Loc} {G : Gx} {lo : Nat} {V : Vw}
theorem u_preK {As : List Value} (hK : gK G lo s) (hV : vS G.1 cls lo s H locs V) {sz : Nat} (hz : H.size = sz) : PreV s H "java/lang/String" (gK1 G) (vPre G lo (.ref (gK1 G) :: As) V sz) As := by
  obtain ⟨-, -, -, -, -, -, -, k3, -⟩ := id hK
  obtain ⟨cell, h1, h2, h3, -⟩ := k3.kept hV.2.1.2.1
  exact ⟨vPre.blind, ⟨cell, h1, h2, h3⟩, fun U hU hW => ⟨rfl, by rw [hU, hz], by rw [hU]; exact hV.1, gK.moved hK hW (fun q h1 h2 => by rw [hU]; exact hV.2.1.2.1 q h1 h2)⟩⟩
end KP

set_option maxHeartbeats 4000000 in
set_option maxRecDepth 100000 in
theorem c_St_coder (l : Launch) (G : Gx) (lo : Nat) (V : Vw) (sz : Nat)  : Met l y_St_coder ws_St_coder ({ frames := 0, cells := 0, slots := 0, locals := 0 } : Room) (vPre G lo [.ref (gK1 G)] (vU V []) sz) (vPost G lo (fun r V' k => r = some (.int 0) ∧ V' = V ∧ k = sz)) 0 0 (vL lo) := by
  refine vMet (R := RSt) (by decide) rfl (Nat.le_of_ble_eq_true rfl) ?_
  intro pg ev s mi args below meth cd hx hb hr hml hlk hnm hts hown hK hz hV ls hl
  have hl : lv_has ls 1 [(0, .ref (gK1 G))] := hl
  have hV0 := hV
  obtain ⟨H, hH⟩ : ∃ H, H = s.heap := ⟨_, rfl⟩
  obtain ⟨locs, hlocs⟩ : ∃ locs : List Loc, locs = [] := ⟨_, rfl⟩
  rw [← hH, ← hlocs]
  rw [← hH] at hz
  replace hV : vS G.1 cls lo s H locs (vU V []) := by rw [hH, hlocs]; exact hV
  clear hH hlocs hV0
  obtain ⟨-, -, -, -, -, k1, k2, k3, k4, k5, k6, k7, k8⟩ := id hK
  have hn : ([] : List Nat).Nodup := List.nodup_nil
  refine va_gets hx hb k7 hV.2.1 hown (hts _ w_fl_St_38) (fun _ h9 => h9) d_St_coder_0 ?_
  refine lv_if_eq (tgt := 13) hx hb d_St_coder_3 (by decide) (fun c_1 => absurd c_1 (by decide)) (fun _ => ?_)
  refine lv_aload_n hx hb d_St_coder_6 rfl (lv_at hl 0 rfl) ?_
  refine vk_getf hx hb k4 hV.2.1 hown (hts _ w_fl_St_15) (fun _ h9 => h9) d_St_coder_7 ?_
  refine lv_goto (tgt := 14) hx hb d_St_coder_10 (by decide) ?_
  exact W.zret (v := 0) hx hb hr (by decide) (v_end hV ⟨rfl, rfl, hz⟩) hV.2.1.2.2 d_St_coder_14

set_option maxHeartbeats 4000000 in
set_option maxRecDepth 100000 in
theorem c_St_isLatin1 (l : Launch) (G : Gx) (lo : Nat) (V : Vw) (sz : Nat)  : Met l y_St_isLatin1 ws_St_isLatin1 ({ frames := 0, cells := 0, slots := 0, locals := 0 } : Room) (vPre G lo [.ref (gK1 G)] (vU V []) sz) (vPost G lo (fun r V' k => r = some (.int 1) ∧ V' = V ∧ k = sz)) 0 0 (vL lo) := by
  refine vMet (R := RSt) (by decide) rfl (Nat.le_of_ble_eq_true rfl) ?_
  intro pg ev s mi args below meth cd hx hb hr hml hlk hnm hts hown hK hz hV ls hl
  have hl : lv_has ls 1 [(0, .ref (gK1 G))] := hl
  have hV0 := hV
  obtain ⟨H, hH⟩ : ∃ H, H = s.heap := ⟨_, rfl⟩
  obtain ⟨locs, hlocs⟩ : ∃ locs : List Loc, locs = [] := ⟨_, rfl⟩
  rw [← hH, ← hlocs]
  rw [← hH] at hz
  replace hV : vS G.1 cls lo s H locs (vU V []) := by rw [hH, hlocs]; exact hV
  clear hH hlocs hV0
  obtain ⟨-, -, -, -, -, k1, k2, k3, k4, k5, k6, k7, k8⟩ := id hK
  have hn : ([] : List Nat).Nodup := List.nodup_nil
  refine va_gets hx hb k7 hV.2.1 hown (hts _ w_fl_St_38) (fun _ h9 => h9) d_St_isLatin1_0 ?_
  refine lv_if_eq (tgt := 17) hx hb d_St_isLatin1_3 (by decide) (fun c_1 => absurd c_1 (by decide)) (fun _ => ?_)
  refine lv_aload_n hx hb d_St_isLatin1_6 rfl (lv_at hl 0 rfl) ?_
  refine vk_getf hx hb k4 hV.2.1 hown (hts _ w_fl_St_15) (fun _ h9 => h9) d_St_isLatin1_7 ?_
  refine lv_if_ne (tgt := 17) hx hb d_St_isLatin1_10 (by decide) (fun c_2 => absurd c_2 (by decide)) (fun _ => ?_)
  refine lv_iconst (v := 1) hx hb d_St_isLatin1_13 (by decide) ?_
  refine lv_goto (tgt := 18) hx hb d_St_isLatin1_14 (by decide) ?_
  exact W.zret (v := 1) hx hb hr (by decide) (v_end hV ⟨rfl, rfl, hz⟩) hV.2.1.2.2 d_St_isLatin1_18

set_option maxHeartbeats 4000000 in
set_option maxRecDepth 100000 in
theorem c_St_length (l : Launch) (G : Gx) (lo : Nat) (V : Vw) (sz : Nat)  : Met l y_St_length ws_St_length ({ frames := 1, cells := 0, slots := 0, locals := 20 } : Room) (vPre G lo [.ref (gK1 G)] (vU V []) sz) (vPost G lo (fun r V' k => r = some (.int 5) ∧ V' = V ∧ k = sz)) 0 0 (vL lo) := by
  refine vMet (R := RSt) (by decide) rfl (Nat.le_of_ble_eq_true rfl) ?_
  intro pg ev s mi args below meth cd hx hb hr hml hlk hnm hts hown hK hz hV ls hl
  have hl : lv_has ls 1 [(0, .ref (gK1 G))] := hl
  have hV0 := hV
  obtain ⟨H, hH⟩ : ∃ H, H = s.heap := ⟨_, rfl⟩
  obtain ⟨locs, hlocs⟩ : ∃ locs : List Loc, locs = [] := ⟨_, rfl⟩
  rw [← hH, ← hlocs]
  rw [← hH] at hz
  replace hV : vS G.1 cls lo s H locs (vU V []) := by rw [hH, hlocs]; exact hV
  clear hH hlocs hV0
  obtain ⟨-, -, -, -, -, k1, k2, k3, k4, k5, k6, k7, k8⟩ := id hK
  have hn : ([] : List Nat).Nodup := List.nodup_nil
  refine lv_aload_n hx hb d_St_length_0 rfl (lv_at hl 0 rfl) ?_
  refine vk_getf hx hb k5 hV.2.1 hown (hts _ w_fl_St_9) (fun _ h9 => h9) d_St_length_1 ?_
  refine va_tlen (v := 5) hx hb k6 hV.2.1 (by decide) d_St_length_4 ?_
  refine lv_aload_n hx hb d_St_length_5 rfl (lv_at hl 0 rfl) ?_
  refine v_call (va_runV (As := []) (rest := [.int 5]) ⟨hx, hb, hml, hown, hts⟩ (c_St_coder l G lo _ _) (kwV 0 hts w_co_St_coder rfl rfl w_it_St w_ml_St_335 w_im_St_coder w_se_St__St_coder (by decide +kernel) ⟨by decide, by decide⟩) (u_preK hK hV hz) rfl rfl hl.1 rfl (lv_room (Nat.le_of_ble_eq_true rfl)) d_St_length_6 ⟨(Nat.le_of_ble_eq_true rfl), (Nat.le_of_ble_eq_true rfl)⟩) hV (fun r9 V9 H locs hp hV hle => ?_)
  obtain ⟨rfl, hv9, hz⟩ := hp
  rw [hv9] at hV
  have hV : vS G.1 cls lo s H locs (vU V []) := hV
  refine W.eq (g2 := F0 mi 9 ls [.int 0, .int 5]) rfl ?_
  refine lv_ishr hx hb d_St_length_9 ?_
  refine W.eq (g2 := F0 mi 10 ls [.int 5]) (by rw [sh50]) ?_
  exact W.iret (v := 5) hx hb hr (v_end hV ⟨rfl, rfl, hz⟩) hV.2.1.2.2 d_St_length_10

set_option maxHeartbeats 4000000 in
set_option maxRecDepth 100000 in
theorem c_Pk_checkIndexN (l : Launch) (G : Gx) (lo : Nat) (V : Vw) (sz : Nat) (j : Nat) (hj : j < 5) : Met l y_Pk_checkIndex ws_Pk_checkIndex ({ frames := 0, cells := 0, slots := 0, locals := 0 } : Room) (vPre G lo [.int (nI j), .int 5, .null] (vU V []) sz) (vPost G lo (fun r V' k => r = some (.int (nI j)) ∧ V' = V ∧ k = sz)) 0 0 (vL lo) := by
  refine vMet (R := RPk) (by decide) rfl (Nat.le_of_ble_eq_true rfl) ?_
  intro pg ev s mi args below meth cd hx hb hr hml hlk hnm hts hown hK hz hV ls hl
  have hl : lv_has ls 3 [(0, .int (nI j)), (1, .int 5), (2, .null)] := hl
  have hV0 := hV
  obtain ⟨H, hH⟩ : ∃ H, H = s.heap := ⟨_, rfl⟩
  obtain ⟨locs, hlocs⟩ : ∃ locs : List Loc, locs = [] := ⟨_, rfl⟩
  rw [← hH, ← hlocs]
  rw [← hH] at hz
  replace hV : vS G.1 cls lo s H locs (vU V []) := by rw [hH, hlocs]; exact hV
  clear hH hlocs hV0
  obtain ⟨-, -, -, -, -, k1, k2, k3, k4, k5, k6, k7, k8⟩ := id hK
  have hn : ([] : List Nat).Nodup := List.nodup_nil
  refine lv_iload_n hx hb d_Pk_checkIndex_0 rfl (lv_at hl 0 rfl) ?_
  refine lv_if_lt (tgt := 9) hx hb d_Pk_checkIndex_1 (by decide) (fun c_1 => absurd c_1 (nI_pos (by omega))) (fun c_1 => ?_)
  replace c_1 : ¬ j < 0 := fun z9 => c_1 ((nI_ltI (a := j) (b := 0) (by omega) (by omega)).mpr z9)
  refine lv_iload_n hx hb d_Pk_checkIndex_4 rfl (lv_at hl 0 rfl) ?_
  refine lv_iload_n hx hb d_Pk_checkIndex_5 rfl (lv_at hl 1 rfl) ?_
  refine lv_icmp_lt (tgt := 16) hx hb d_Pk_checkIndex_6 (by decide) (fun c_2 => ?_) (fun c_2 => absurd (nI_lt (a := j) (b := 5) hj (by decide)) c_2)
  replace c_2 : j < 5 := (nI_ltI (a := j) (b := 5) (by omega) (by omega)).mp c_2
  refine lv_iload_n hx hb d_Pk_checkIndex_16 rfl (lv_at hl 0 rfl) ?_
  exact W.iret (v := nI j) hx hb hr (v_end hV ⟨rfl, rfl, hz⟩) hV.2.1.2.2 d_Pk_checkIndex_17

set_option maxHeartbeats 4000000 in
set_option maxRecDepth 100000 in
theorem c_Pk_checkIndexR (l : Launch) (G : Gx) (lo : Nat) (V : Vw) (sz : Nat) (j : Nat) (tt : Nat) (hj : j < 5) : Met l y_Pk_checkIndex ws_Pk_checkIndex ({ frames := 0, cells := 0, slots := 0, locals := 0 } : Room) (vPre G lo [.int (nI j), .int 5, .ref tt] (vU V []) sz) (vPost G lo (fun r V' k => r = some (.int (nI j)) ∧ V' = V ∧ k = sz)) 0 0 (vL lo) := by
  refine vMet (R := RPk) (by decide) rfl (Nat.le_of_ble_eq_true rfl) ?_
  intro pg ev s mi args below meth cd hx hb hr hml hlk hnm hts hown hK hz hV ls hl
  have hl : lv_has ls 3 [(0, .int (nI j)), (1, .int 5), (2, .ref tt)] := hl
  have hV0 := hV
  obtain ⟨H, hH⟩ : ∃ H, H = s.heap := ⟨_, rfl⟩
  obtain ⟨locs, hlocs⟩ : ∃ locs : List Loc, locs = [] := ⟨_, rfl⟩
  rw [← hH, ← hlocs]
  rw [← hH] at hz
  replace hV : vS G.1 cls lo s H locs (vU V []) := by rw [hH, hlocs]; exact hV
  clear hH hlocs hV0
  obtain ⟨-, -, -, -, -, k1, k2, k3, k4, k5, k6, k7, k8⟩ := id hK
  have hn : ([] : List Nat).Nodup := List.nodup_nil
  refine lv_iload_n hx hb d_Pk_checkIndex_0 rfl (lv_at hl 0 rfl) ?_
  refine lv_if_lt (tgt := 9) hx hb d_Pk_checkIndex_1 (by decide) (fun c_1 => absurd c_1 (nI_pos (by omega))) (fun c_1 => ?_)
  replace c_1 : ¬ j < 0 := fun z9 => c_1 ((nI_ltI (a := j) (b := 0) (by omega) (by omega)).mpr z9)
  refine lv_iload_n hx hb d_Pk_checkIndex_4 rfl (lv_at hl 0 rfl) ?_
  refine lv_iload_n hx hb d_Pk_checkIndex_5 rfl (lv_at hl 1 rfl) ?_
  refine lv_icmp_lt (tgt := 16) hx hb d_Pk_checkIndex_6 (by decide) (fun c_2 => ?_) (fun c_2 => absurd (nI_lt (a := j) (b := 5) hj (by decide)) c_2)
  replace c_2 : j < 5 := (nI_ltI (a := j) (b := 5) (by omega) (by omega)).mp c_2
  refine lv_iload_n hx hb d_Pk_checkIndex_16 rfl (lv_at hl 0 rfl) ?_
  exact W.iret (v := nI j) hx hb hr (v_end hV ⟨rfl, rfl, hz⟩) hV.2.1.2.2 d_Pk_checkIndex_17

set_option maxHeartbeats 4000000 in
set_option maxRecDepth 100000 in
theorem c_St_checkIndex (l : Launch) (G : Gx) (lo : Nat) (V : Vw) (sz : Nat) (j : Nat) (hj : j < 5) : Met l y_St_checkIndex ws_St_checkIndex ({ frames := 1, cells := 0, slots := 0, locals := 24 } : Room) (vPre G lo [.int (nI j), .int 5] (vU V []) sz) (vPost G lo (fun r V' k => r = none ∧ V' = V ∧ k = sz)) 0 0 (vL lo) := by
  refine vMet (R := RSt) (by decide) rfl (Nat.le_of_ble_eq_true rfl) ?_
  intro pg ev s mi args below meth cd hx hb hr hml hlk hnm hts hown hK hz hV ls hl
  have hl : lv_has ls 2 [(0, .int (nI j)), (1, .int 5)] := hl
  have hV0 := hV
  obtain ⟨H, hH⟩ : ∃ H, H = s.heap := ⟨_, rfl⟩
  obtain ⟨locs, hlocs⟩ : ∃ locs : List Loc, locs = [] := ⟨_, rfl⟩
  rw [← hH, ← hlocs]
  rw [← hH] at hz
  replace hV : vS G.1 cls lo s H locs (vU V []) := by rw [hH, hlocs]; exact hV
  clear hH hlocs hV0
  obtain ⟨-, -, -, -, -, k1, k2, k3, k4, k5, k6, k7, k8⟩ := id hK
  have hn : ([] : List Nat).Nodup := List.nodup_nil
  refine lv_iload_n hx hb d_St_checkIndex_0 rfl (lv_at hl 0 rfl) ?_
  refine lv_iload_n hx hb d_St_checkIndex_1 rfl (lv_at hl 1 rfl) ?_
  rcases k8 with hZ | ⟨tt, hZ⟩
  · refine va_gets hx hb hZ hV.2.1 hown (hts _ w_fl_St_1053) (fun _ h9 => h9) d_St_checkIndex_2 ?_
    refine v_call (va_runS (As := [.int (nI j), .int 5, .null]) (rest := []) ⟨hx, hb, hml, hown, hts⟩ (c_Pk_checkIndexN l G lo _ _ j (by omega)) (kwS 3 hts w_co_Pk_checkIndex rfl rfl w_it_Pk w_ml_St_1059 w_st_Pk_checkIndex (by decide +kernel) ⟨by decide, by decide⟩) (v_preS hK hV rfl hz) rfl rfl hl.1 rfl (lv_room (Nat.le_of_ble_eq_true rfl)) d_St_checkIndex_5 ⟨(Nat.le_of_ble_eq_true rfl), (Nat.le_of_ble_eq_true rfl)⟩) hV (fun r9 V9 H locs hp hV hle => ?_)
    obtain ⟨rfl, hv9, hz⟩ := hp
    rw [hv9] at hV
    have hV : vS G.1 cls lo s H locs (vU V []) := hV
    refine W.eq (g2 := F0 mi 8 ls [.int (nI j)]) rfl ?_
    refine lv_pop hx hb d_St_checkIndex_8 rfl ?_
    exact W.vret hx hb hr (v_end hV ⟨rfl, rfl, hz⟩) hV.2.1.2.2 d_St_checkIndex_9
  · refine va_gets hx hb hZ hV.2.1 hown (hts _ w_fl_St_1053) (fun _ h9 => h9) d_St_checkIndex_2 ?_
    refine v_call (va_runS (As := [.int (nI j), .int 5, .ref tt]) (rest := []) ⟨hx, hb, hml, hown, hts⟩ (c_Pk_checkIndexR l G lo _ _ j tt (by omega)) (kwS 3 hts w_co_Pk_checkIndex rfl rfl w_it_Pk w_ml_St_1059 w_st_Pk_checkIndex (by decide +kernel) ⟨by decide, by decide⟩) (v_preS hK hV rfl hz) rfl rfl hl.1 rfl (lv_room (Nat.le_of_ble_eq_true rfl)) d_St_checkIndex_5 ⟨(Nat.le_of_ble_eq_true rfl), (Nat.le_of_ble_eq_true rfl)⟩) hV (fun r9 V9 H locs hp hV hle => ?_)
    obtain ⟨rfl, hv9, hz⟩ := hp
    rw [hv9] at hV
    have hV : vS G.1 cls lo s H locs (vU V []) := hV
    refine W.eq (g2 := F0 mi 8 ls [.int (nI j)]) rfl ?_
    refine lv_pop hx hb d_St_checkIndex_8 rfl ?_
    exact W.vret hx hb hr (v_end hV ⟨rfl, rfl, hz⟩) hV.2.1.2.2 d_St_checkIndex_9

set_option maxHeartbeats 4000000 in
set_option maxRecDepth 100000 in
theorem c_Sl_charAt (l : Launch) (G : Gx) (lo : Nat) (V : Vw) (sz : Nat) (j : Nat) (hj : j < 5) : Met l y_Sl_charAt ws_Sl_charAt ({ frames := 2, cells := 0, slots := 0, locals := 48 } : Room) (vPre G lo [.ref (gK2 G), .int (nI j)] (vU V []) sz) (vPost G lo (fun r V' k => r = some (.int (nI (kindN j))) ∧ V' = V ∧ k = sz)) 0 0 (vL lo) := by
  refine vMet (R := RSl) (by decide) rfl (Nat.le_of_ble_eq_true rfl) ?_
  intro pg ev s mi args below meth cd hx hb hr hml hlk hnm hts hown hK hz hV ls hl
  have hl : lv_has ls 2 [(0, .ref (gK2 G)), (1, .int (nI j))] := hl
  have hV0 := hV
  obtain ⟨H, hH⟩ : ∃ H, H = s.heap := ⟨_, rfl⟩
  obtain ⟨locs, hlocs⟩ : ∃ locs : List Loc, locs = [] := ⟨_, rfl⟩
  rw [← hH, ← hlocs]
  rw [← hH] at hz
  replace hV : vS G.1 cls lo s H locs (vU V []) := by rw [hH, hlocs]; exact hV
  clear hH hlocs hV0
  obtain ⟨-, -, -, -, -, k1, k2, k3, k4, k5, k6, k7, k8⟩ := id hK
  have hn : ([] : List Nat).Nodup := List.nodup_nil
  refine lv_iload_n hx hb d_Sl_charAt_0 rfl (lv_at hl 1 rfl) ?_
  refine lv_aload_n hx hb d_Sl_charAt_1 rfl (lv_at hl 0 rfl) ?_
  refine va_tlen (v := 5) hx hb k6 hV.2.1 (by decide) d_Sl_charAt_2 ?_
  refine v_call (va_runS (As := [.int (nI j), .int 5]) (rest := []) ⟨hx, hb, hml, hown, hts⟩ (c_St_checkIndex l G lo _ _ j (by omega)) (kwS 2 hts w_co_St_checkIndex rfl rfl w_it_St w_ml_Sl_9 w_st_St_checkIndex (by decide +kernel) ⟨by decide, by decide⟩) (v_preS hK hV rfl hz) rfl rfl hl.1 rfl (lv_room (Nat.le_of_ble_eq_true rfl)) d_Sl_charAt_3 ⟨(Nat.le_of_ble_eq_true rfl), (Nat.le_of_ble_eq_true rfl)⟩) hV (fun r9 V9 H locs hp hV hle => ?_)
  obtain ⟨rfl, hv9, hz⟩ := hp
  rw [hv9] at hV
  have hV : vS G.1 cls lo s H locs (vU V []) := hV
  refine lv_aload_n hx hb d_Sl_charAt_6 rfl (lv_at hl 0 rfl) ?_
  refine lv_iload_n hx hb d_Sl_charAt_7 rfl (lv_at hl 1 rfl) ?_
  refine va_tb (v := .int (kindB j)) hx hb k6 hV.2.1 (vp_in_nI hj (by decide)) (by rw [nI_clamp (by omega)]) d_Sl_charAt_8 ?_
  refine lv_sipush (v := 255) hx hb d_Sl_charAt_9 (by decide) ?_
  refine e_iand (v := (kindB j) &&& 255) hx hb d_Sl_charAt_12 (rfl) ?_
  refine lv_i2c (v := nI (kindN j)) hx hb d_Sl_charAt_13 (kindN_ch j hj) ?_
  exact W.zret (v := nI (kindN j)) hx hb hr (kindN_nar j hj) (v_end hV ⟨rfl, rfl, hz⟩) hV.2.1.2.2 d_Sl_charAt_14

set_option maxHeartbeats 4000000 in
set_option maxRecDepth 100000 in
theorem c_St_charAt (l : Launch) (G : Gx) (lo : Nat) (V : Vw) (sz : Nat) (j : Nat) (hj : j < 5) : Met l y_St_charAt ws_St_charAt ({ frames := 3, cells := 0, slots := 0, locals := 72 } : Room) (vPre G lo [.ref (gK1 G), .int (nI j)] (vU V []) sz) (vPost G lo (fun r V' k => r = some (.int (nI (kindN j))) ∧ V' = V ∧ k = sz)) 0 0 (vL lo) := by
  refine vMet (R := RSt) (by decide) rfl (Nat.le_of_ble_eq_true rfl) ?_
  intro pg ev s mi args below meth cd hx hb hr hml hlk hnm hts hown hK hz hV ls hl
  have hl : lv_has ls 2 [(0, .ref (gK1 G)), (1, .int (nI j))] := hl
  have hV0 := hV
  obtain ⟨H, hH⟩ : ∃ H, H = s.heap := ⟨_, rfl⟩
  obtain ⟨locs, hlocs⟩ : ∃ locs : List Loc, locs = [] := ⟨_, rfl⟩
  rw [← hH, ← hlocs]
  rw [← hH] at hz
  replace hV : vS G.1 cls lo s H locs (vU V []) := by rw [hH, hlocs]; exact hV
  clear hH hlocs hV0
  obtain ⟨-, -, -, -, -, k1, k2, k3, k4, k5, k6, k7, k8⟩ := id hK
  have hn : ([] : List Nat).Nodup := List.nodup_nil
  refine lv_aload_n hx hb d_St_charAt_0 rfl (lv_at hl 0 rfl) ?_
  refine v_call (va_runV (As := []) (rest := []) ⟨hx, hb, hml, hown, hts⟩ (c_St_isLatin1 l G lo _ _) (kwV 0 hts w_co_St_isLatin1 rfl rfl w_it_St w_ml_St_492 w_im_St_isLatin1 w_se_St__St_isLatin1 (by decide +kernel) ⟨by decide, by decide⟩) (u_preK hK hV hz) rfl rfl hl.1 rfl (lv_room (Nat.le_of_ble_eq_true rfl)) d_St_charAt_1 ⟨(Nat.le_of_ble_eq_true rfl), (Nat.le_of_ble_eq_true rfl)⟩) hV (fun r9 V9 H locs hp hV hle => ?_)
  obtain ⟨rfl, hv9, hz⟩ := hp
  rw [hv9] at hV
  have hV : vS G.1 cls lo s H locs (vU V []) := hV
  refine W.eq (g2 := F0 mi 4 ls [.int 1]) rfl ?_
  refine lv_if_eq (tgt := 16) hx hb d_St_charAt_4 (by decide) (fun c_1 => absurd c_1 (by decide)) (fun _ => ?_)
  refine lv_aload_n hx hb d_St_charAt_7 rfl (lv_at hl 0 rfl) ?_
  refine vk_getf hx hb k5 hV.2.1 hown (hts _ w_fl_St_9) (fun _ h9 => h9) d_St_charAt_8 ?_
  refine lv_iload_n hx hb d_St_charAt_11 rfl (lv_at hl 1 rfl) ?_
  refine v_call (va_runS (As := [.ref (gK2 G), .int (nI j)]) (rest := []) ⟨hx, hb, hml, hown, hts⟩ (c_Sl_charAt l G lo _ _ j (by omega)) (kwS 2 hts w_co_Sl_charAt rfl rfl w_it_Sl w_ml_St_495 w_st_Sl_charAt (by decide +kernel) ⟨by decide, by decide⟩) (v_preS hK hV rfl hz) rfl rfl hl.1 rfl (lv_room (Nat.le_of_ble_eq_true rfl)) d_St_charAt_12 ⟨(Nat.le_of_ble_eq_true rfl), (Nat.le_of_ble_eq_true rfl)⟩) hV (fun r9 V9 H locs hp hV hle => ?_)
  obtain ⟨rfl, hv9, hz⟩ := hp
  rw [hv9] at hV
  have hV : vS G.1 cls lo s H locs (vU V []) := hV
  refine W.eq (g2 := F0 mi 15 ls [.int (nI (kindN j))]) rfl ?_
  exact W.zret (v := nI (kindN j)) hx hb hr (kindN_nar j hj) (v_end hV ⟨rfl, rfl, hz⟩) hV.2.1.2.2 d_St_charAt_15

set_option maxHeartbeats 4000000 in
set_option maxRecDepth 100000 in
theorem c_Rd_kindOf (l : Launch) (G : Gx) (lo : Nat) (V : Vw) (sz : Nat) (x : Int32) : Met l y_Rd_kindOf ws_Rd_kindOf ({ frames := 4, cells := 0, slots := 0, locals := 100 } : Room) (vPre G lo [.int x] (vU V []) sz) (vPost G lo (fun r V' k => r = some (.int (kRes x)) ∧ V' = V ∧ k = sz)) 0 0 (vL lo) := by
  refine vMet (R := RRd) (by decide) rfl (Nat.le_of_ble_eq_true rfl) ?_
  intro pg ev s mi args below meth cd hx hb hr hml hlk hnm hts hown hK hz hV ls hl
  have hl : lv_has ls 2 [(0, .int x)] := hl
  have hV0 := hV
  obtain ⟨H, hH⟩ : ∃ H, H = s.heap := ⟨_, rfl⟩
  obtain ⟨locs, hlocs⟩ : ∃ locs : List Loc, locs = [] := ⟨_, rfl⟩
  rw [← hH, ← hlocs]
  rw [← hH] at hz
  replace hV : vS G.1 cls lo s H locs (vU V []) := by rw [hH, hlocs]; exact hV
  clear hH hlocs hV0
  obtain ⟨-, -, -, -, -, k1, k2, k3, k4, k5, k6, k7, k8⟩ := id hK
  have hn : ([] : List Nat).Nodup := List.nodup_nil
  refine lv_iconst (v := 0) hx hb d_Rd_kindOf_0 (by decide) ?_
  refine lv_istore_n (lv' := [(1, .int 0), (0, .int x)]) hx hb d_Rd_kindOf_1 rfl hl (by decide) rfl (fun ls hl => ?_)
  have loop : ∀ (k : Nat) (i : Nat), 5 - i < k → (i ≤ 5) → (∀ j, j < i → ¬ nI (kindN j) = x) → ∀ (H : Heap) (locs : List Loc) (ls : Array Slot), H.size = sz → vS G.1 cls lo s H locs (vU V []) → lv_has ls 2 [(0, .int x), (1, .int (nI i))] → W pg l ev ({ frames := 4, cells := 0, slots := 0, locals := 100 } : Room) s mi args below meth cd H locs 0 0 (MQ below (vPost G lo (fun r V' k => r = some (.int (kRes x)) ∧ V' = V ∧ k = sz)) args s 0 0 (vL lo)) (F0 mi 2 ls []) := by
    intro k
    induction k with
    | zero => intro i hk; exact absurd hk (by omega)
    | succ k ih =>
      intro i hk hi hno H locs ls hz hV hl
      refine lv_iload_n hx hb d_Rd_kindOf_2 rfl (lv_at hl 1 rfl) ?_
      refine va_ldcS hx hb hown k1 d_Rd_kindOf_3 ?_
      refine v_call (va_runV (As := []) (rest := [.int (nI i)]) ⟨hx, hb, hml, hown, hts⟩ (c_St_length l G lo _ _) (kwV 0 hts w_co_St_length rfl rfl w_it_St w_ml_Rd_111 w_im_St_length w_se_St__St_length (by decide +kernel) ⟨by decide, by decide⟩) (u_preK hK hV hz) rfl rfl hl.1 rfl (lv_room (Nat.le_of_ble_eq_true rfl)) d_Rd_kindOf_5 ⟨(Nat.le_of_ble_eq_true rfl), (Nat.le_of_ble_eq_true rfl)⟩) hV (fun r9 V9 H locs hp hV hle => ?_)
      obtain ⟨rfl, hv9, hz⟩ := hp
      rw [hv9] at hV
      have hV : vS G.1 cls lo s H locs (vU V []) := hV
      refine W.eq (g2 := F0 mi 8 ls [.int 5, .int (nI i)]) rfl ?_
      refine lv_icmp_ge (tgt := 29) hx hb d_Rd_kindOf_8 (by decide) (fun c_1 => ?_) (fun c_1 => ?_)
      · replace c_1 : 5 ≤ i := (nI_leI (a := 5) (b := i) (by omega) (by omega)).mp c_1
        refine lv_iconst (v := (-1)) hx hb d_Rd_kindOf_29 (by decide) ?_
        exact W.iret (v := (-1)) hx hb hr (v_end hV ⟨by rw [kRes_no (fun j hj => hno j (by omega))], rfl, hz⟩) hV.2.1.2.2 d_Rd_kindOf_30
      · replace c_1 : ¬ 5 ≤ i := fun z9 => c_1 ((nI_leI (a := 5) (b := i) (by omega) (by omega)).mpr z9)
        refine va_ldcS hx hb hown k1 d_Rd_kindOf_11 ?_
        refine lv_iload_n hx hb d_Rd_kindOf_13 rfl (lv_at hl 1 rfl) ?_
        refine v_call (va_runV (As := [.int (nI i)]) (rest := []) ⟨hx, hb, hml, hown, hts⟩ (c_St_charAt l G lo _ _ i (by omega)) (kwV 1 hts w_co_St_charAt rfl rfl w_it_St w_ml_Rd_115 w_im_St_charAt w_se_St__St_charAt (by decide +kernel) ⟨by decide, by decide⟩) (u_preK hK hV hz) rfl rfl hl.1 rfl (lv_room (Nat.le_of_ble_eq_true rfl)) d_Rd_kindOf_14 ⟨(Nat.le_of_ble_eq_true rfl), (Nat.le_of_ble_eq_true rfl)⟩) hV (fun r9 V9 H locs hp hV hle => ?_)
        obtain ⟨rfl, hv9, hz⟩ := hp
        rw [hv9] at hV
        have hV : vS G.1 cls lo s H locs (vU V []) := hV
        refine W.eq (g2 := F0 mi 17 ls [.int (nI (kindN i))]) rfl ?_
        refine lv_iload_n hx hb d_Rd_kindOf_17 rfl (lv_at hl 0 rfl) ?_
        refine lv_icmp_ne (tgt := 23) hx hb d_Rd_kindOf_18 (by decide) (fun c_2 => ?_) (fun c_2 => ?_)
        · have hne : ∀ j, j < i + 1 → ¬ nI (kindN j) = x := fun j hj => by rcases Nat.lt_or_ge j i with q | q; exact hno j q; rw [show j = i by omega]; exact c_2
          refine lv_iinc (v := nI (i + 1)) (lv' := [(1, .int (nI (i + 1))), (0, .int x)]) hx hb d_Rd_kindOf_23 hl (k := 1) rfl (nI_add i 1) (by decide) rfl (fun ls hl => ?_)
          refine lv_goto (tgt := 2) hx hb d_Rd_kindOf_26 (by decide) ?_
          exact ih (i + 1) (by omega) (by omega) hne H locs ls hz hV (lv_sub hl [1, 0] rfl)
        · have hE : kRes x = nI i := kRes_at (by omega) hno c_2
          refine lv_iload_n hx hb d_Rd_kindOf_21 rfl (lv_at hl 1 rfl) ?_
          exact W.iret (v := nI i) hx hb hr (v_end hV ⟨by rw [hE], rfl, hz⟩) hV.2.1.2.2 d_Rd_kindOf_22
  exact loop 6 0 (by omega) (by omega) (fun j hj => absurd hj (by omega)) H locs ls hz hV (lv_sub hl [1, 0] rfl)

set_option maxHeartbeats 4000000 in
set_option maxRecDepth 100000 in
theorem c_Pr_signOf (l : Launch) (G : Gx) (lo : Nat) (V : Vw) (sz : Nat) (j : Nat) (hj : j < 5) : Met l y_Pr_signOf ws_Pr_signOf ({ frames := 4, cells := 0, slots := 0, locals := 100 } : Room) (vPre G lo [.int (nI j)] (vU V []) sz) (vPost G lo (fun r V' k => r = some (.int (nI (kindN j))) ∧ V' = V ∧ k = sz)) 0 0 (vL lo) := by
  refine vMet (R := RPr) (by decide) rfl (Nat.le_of_ble_eq_true rfl) ?_
  intro pg ev s mi args below meth cd hx hb hr hml hlk hnm hts hown hK hz hV ls hl
  have hl : lv_has ls 1 [(0, .int (nI j))] := hl
  have hV0 := hV
  obtain ⟨H, hH⟩ : ∃ H, H = s.heap := ⟨_, rfl⟩
  obtain ⟨locs, hlocs⟩ : ∃ locs : List Loc, locs = [] := ⟨_, rfl⟩
  rw [← hH, ← hlocs]
  rw [← hH] at hz
  replace hV : vS G.1 cls lo s H locs (vU V []) := by rw [hH, hlocs]; exact hV
  clear hH hlocs hV0
  obtain ⟨-, -, -, -, -, k1, k2, k3, k4, k5, k6, k7, k8⟩ := id hK
  have hn : ([] : List Nat).Nodup := List.nodup_nil
  refine lv_iload_n hx hb d_Pr_signOf_0 rfl (lv_at hl 0 rfl) ?_
  refine lv_if_lt (tgt := 22) hx hb d_Pr_signOf_1 (by decide) (fun c_1 => absurd c_1 (nI_pos (by omega))) (fun c_1 => ?_)
  replace c_1 : ¬ j < 0 := fun z9 => c_1 ((nI_ltI (a := j) (b := 0) (by omega) (by omega)).mpr z9)
  refine lv_iload_n hx hb d_Pr_signOf_4 rfl (lv_at hl 0 rfl) ?_
  refine va_ldcS hx hb hown k2 d_Pr_signOf_5 ?_
  refine v_call (va_runV (As := []) (rest := [.int (nI j)]) ⟨hx, hb, hml, hown, hts⟩ (c_St_length l G lo _ _) (kwV 0 hts w_co_St_length rfl rfl w_it_St w_ml_Pr_107 w_im_St_length w_se_St__St_length (by decide +kernel) ⟨by decide, by decide⟩) (u_preK hK hV hz) rfl rfl hl.1 rfl (lv_room (Nat.le_of_ble_eq_true rfl)) d_Pr_signOf_7 ⟨(Nat.le_of_ble_eq_true rfl), (Nat.le_of_ble_eq_true rfl)⟩) hV (fun r9 V9 H locs hp hV hle => ?_)
  obtain ⟨rfl, hv9, hz⟩ := hp
  rw [hv9] at hV
  have hV : vS G.1 cls lo s H locs (vU V []) := hV
  refine W.eq (g2 := F0 mi 10 ls [.int 5, .int (nI j)]) rfl ?_
  refine lv_icmp_ge (tgt := 22) hx hb d_Pr_signOf_10 (by decide) (fun c_2 => absurd c_2 (nI_ge (a := j) (b := 5) hj (by decide))) (fun c_2 => ?_)
  replace c_2 : ¬ 5 ≤ j := fun z9 => c_2 ((nI_leI (a := 5) (b := j) (by omega) (by omega)).mpr z9)
  refine va_ldcS hx hb hown k2 d_Pr_signOf_13 ?_
  refine lv_iload_n hx hb d_Pr_signOf_15 rfl (lv_at hl 0 rfl) ?_
  refine v_call (va_runV (As := [.int (nI j)]) (rest := []) ⟨hx, hb, hml, hown, hts⟩ (c_St_charAt l G lo _ _ j (by omega)) (kwV 1 hts w_co_St_charAt rfl rfl w_it_St w_ml_Pr_112 w_im_St_charAt w_se_St__St_charAt (by decide +kernel) ⟨by decide, by decide⟩) (u_preK hK hV hz) rfl rfl hl.1 rfl (lv_room (Nat.le_of_ble_eq_true rfl)) d_Pr_signOf_16 ⟨(Nat.le_of_ble_eq_true rfl), (Nat.le_of_ble_eq_true rfl)⟩) hV (fun r9 V9 H locs hp hV hle => ?_)
  obtain ⟨rfl, hv9, hz⟩ := hp
  rw [hv9] at hV
  have hV : vS G.1 cls lo s H locs (vU V []) := hV
  refine W.eq (g2 := F0 mi 19 ls [.int (nI (kindN j))]) rfl ?_
  refine lv_goto (tgt := 24) hx hb d_Pr_signOf_19 (by decide) ?_
  exact W.iret (v := nI (kindN j)) hx hb hr (v_end hV ⟨rfl, rfl, hz⟩) hV.2.1.2.2 d_Pr_signOf_24
