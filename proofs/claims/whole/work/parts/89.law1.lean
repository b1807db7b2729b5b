def RLa : String := "StreetGraphLaw"
set_option maxRecDepth 20000 in
theorem w_co_La_piece : Cond.codeWith y_La_piece b_La_piece 5 (some .int) [(0, 10, 13, 27), (0, 10, 17, 13)] ∈ lwT := lwT_at 725 (by rfl) (by decide +kernel)
set_option maxRecDepth 20000 in
theorem w_co_La_speed : Cond.codeWith y_La_speed b_La_speed 5 (some .int) [(0, 10, 13, 27), (0, 10, 17, 13)] ∈ lwT := lwT_at 751 (by rfl) (by decide +kernel)
set_option maxRecDepth 20000 in
theorem w_co_La_name : Cond.codeWith y_La_name b_La_name 5 (some .int) [(0, 10, 13, 27), (0, 10, 17, 13)] ∈ lwT := lwT_at 763 (by rfl) (by decide +kernel)
set_option maxRecDepth 20000 in
theorem w_co_La_fault : Cond.codeWith y_La_fault b_La_fault 5 (some .int) [(0, 10, 13, 27), (0, 10, 17, 13)] ∈ lwT := lwT_at 800 (by rfl) (by decide +kernel)
set_option maxRecDepth 20000 in
theorem w_co_La_barred : Cond.codeWith y_La_barred b_La_barred 6 (some .int) [(0, 19, 22, 13)] ∈ lwT := lwT_at 772 (by rfl) (by decide +kernel)
set_option maxRecDepth 20000 in
theorem w_co_La_spot : Cond.codeWith y_La_spot b_La_spot 5 (some .int) [(0, 10, 13, 27)] ∈ lwT := lwT_at 784 (by rfl) (by decide +kernel)
set_option maxRecDepth 20000 in
theorem w_co_La_along : Cond.codeWith y_La_along b_La_along 5 (some .int) [(0, 10, 13, 27)] ∈ lwT := lwT_at 793 (by rfl) (by decide +kernel)
set_option maxRecDepth 20000 in
theorem w_co_La_at : Cond.codeWith y_La_at b_La_at 4 (some .int) [(0, 9, 12, 13)] ∈ lwT := lwT_at 808 (by rfl) (by decide +kernel)
set_option maxRecDepth 20000 in
theorem w_co_La_count : Cond.codeWith y_La_count b_La_count 4 (some .int) [(0, 9, 12, 13)] ∈ lwT := lwT_at 815 (by rfl) (by decide +kernel)
set_option maxRecDepth 20000 in
theorem w_co_La_sign : Cond.codeWith y_La_sign b_La_sign 6 (some .int) [(0, 11, 14, 13), (0, 11, 18, 15)] ∈ lwT := lwT_at 406 (by rfl) (by decide +kernel)
set_option maxRecDepth 20000 in
theorem w_co_La_read : Cond.codeWith y_La_read b_La_read 3 (some .int) [(0, 8, 11, 21), (0, 8, 14, 15)] ∈ lwT := lwT_at 507 (by rfl) (by decide +kernel)
theorem d_La_piece_0 : decode b_La_piece 0 = .ok (.aload_n 3, 1) := by decide +kernel
theorem d_La_piece_1 : decode b_La_piece 1 = .ok (.iconst 0, 1) := by decide +kernel
theorem d_La_piece_2 : decode b_La_piece 2 = .ok (.aload_n 0, 1) := by decide +kernel
theorem d_La_piece_3 : decode b_La_piece 3 = .ok (.iload_n 1, 1) := by decide +kernel
theorem d_La_piece_4 : decode b_La_piece 4 = .ok (.iload_n 2, 1) := by decide +kernel
theorem d_La_piece_5 : decode b_La_piece 5 = .ok (.invokevirtual 23, 3) := by decide +kernel
theorem d_La_piece_8 : decode b_La_piece 8 = .ok (.i2l, 1) := by decide +kernel
theorem d_La_piece_9 : decode b_La_piece 9 = .ok (.lastore, 1) := by decide +kernel
theorem d_La_piece_10 : decode b_La_piece 10 = .ok (.goto 11, 3) := by decide +kernel
theorem d_La_piece_13 : decode b_La_piece 13 = .ok (.astore 4, 2) := by decide +kernel
theorem d_La_piece_15 : decode b_La_piece 15 = .ok (.iconst 1, 1) := by decide +kernel
theorem d_La_piece_16 : decode b_La_piece 16 = .ok (.ireturn, 1) := by decide +kernel
theorem d_La_piece_17 : decode b_La_piece 17 = .ok (.astore 4, 2) := by decide +kernel
theorem d_La_piece_19 : decode b_La_piece 19 = .ok (.iconst 2, 1) := by decide +kernel
theorem d_La_piece_20 : decode b_La_piece 20 = .ok (.ireturn, 1) := by decide +kernel
theorem d_La_piece_21 : decode b_La_piece 21 = .ok (.iconst 0, 1) := by decide +kernel
theorem d_La_piece_22 : decode b_La_piece 22 = .ok (.ireturn, 1) := by decide +kernel
theorem d_La_speed_0 : decode b_La_speed 0 = .ok (.aload_n 3, 1) := by decide +kernel
theorem d_La_speed_1 : decode b_La_speed 1 = .ok (.iconst 0, 1) := by decide +kernel
theorem d_La_speed_2 : decode b_La_speed 2 = .ok (.aload_n 0, 1) := by decide +kernel
theorem d_La_speed_3 : decode b_La_speed 3 = .ok (.iload_n 1, 1) := by decide +kernel
theorem d_La_speed_4 : decode b_La_speed 4 = .ok (.iload_n 2, 1) := by decide +kernel
theorem d_La_speed_5 : decode b_La_speed 5 = .ok (.invokevirtual 29, 3) := by decide +kernel
theorem d_La_speed_8 : decode b_La_speed 8 = .ok (.i2l, 1) := by decide +kernel
theorem d_La_speed_9 : decode b_La_speed 9 = .ok (.lastore, 1) := by decide +kernel
theorem d_La_speed_10 : decode b_La_speed 10 = .ok (.goto 11, 3) := by decide +kernel
theorem d_La_speed_13 : decode b_La_speed 13 = .ok (.astore 4, 2) := by decide +kernel
theorem d_La_speed_15 : decode b_La_speed 15 = .ok (.iconst 1, 1) := by decide +kernel
theorem d_La_speed_16 : decode b_La_speed 16 = .ok (.ireturn, 1) := by decide +kernel
theorem d_La_speed_17 : decode b_La_speed 17 = .ok (.astore 4, 2) := by decide +kernel
theorem d_La_speed_19 : decode b_La_speed 19 = .ok (.iconst 2, 1) := by decide +kernel
theorem d_La_speed_20 : decode b_La_speed 20 = .ok (.ireturn, 1) := by decide +kernel
theorem d_La_speed_21 : decode b_La_speed 21 = .ok (.iconst 0, 1) := by decide +kernel
theorem d_La_speed_22 : decode b_La_speed 22 = .ok (.ireturn, 1) := by decide +kernel
theorem d_La_name_0 : decode b_La_name 0 = .ok (.aload_n 3, 1) := by decide +kernel
theorem d_La_name_1 : decode b_La_name 1 = .ok (.iconst 0, 1) := by decide +kernel
theorem d_La_name_2 : decode b_La_name 2 = .ok (.aload_n 0, 1) := by decide +kernel
theorem d_La_name_3 : decode b_La_name 3 = .ok (.iload_n 1, 1) := by decide +kernel
theorem d_La_name_4 : decode b_La_name 4 = .ok (.iload_n 2, 1) := by decide +kernel
theorem d_La_name_5 : decode b_La_name 5 = .ok (.invokevirtual 32, 3) := by decide +kernel
theorem d_La_name_8 : decode b_La_name 8 = .ok (.i2l, 1) := by decide +kernel
theorem d_La_name_9 : decode b_La_name 9 = .ok (.lastore, 1) := by decide +kernel
theorem d_La_name_10 : decode b_La_name 10 = .ok (.goto 11, 3) := by decide +kernel
theorem d_La_name_13 : decode b_La_name 13 = .ok (.astore 4, 2) := by decide +kernel
theorem d_La_name_15 : decode b_La_name 15 = .ok (.iconst 1, 1) := by decide +kernel
theorem d_La_name_16 : decode b_La_name 16 = .ok (.ireturn, 1) := by decide +kernel
theorem d_La_name_17 : decode b_La_name 17 = .ok (.astore 4, 2) := by decide +kernel
theorem d_La_name_19 : decode b_La_name 19 = .ok (.iconst 2, 1) := by decide +kernel
theorem d_La_name_20 : decode b_La_name 20 = .ok (.ireturn, 1) := by decide +kernel
theorem d_La_name_21 : decode b_La_name 21 = .ok (.iconst 0, 1) := by decide +kernel
theorem d_La_name_22 : decode b_La_name 22 = .ok (.ireturn, 1) := by decide +kernel
theorem d_La_fault_0 : decode b_La_fault 0 = .ok (.aload_n 3, 1) := by decide +kernel
theorem d_La_fault_1 : decode b_La_fault 1 = .ok (.iconst 0, 1) := by decide +kernel
theorem d_La_fault_2 : decode b_La_fault 2 = .ok (.aload_n 0, 1) := by decide +kernel
theorem d_La_fault_3 : decode b_La_fault 3 = .ok (.iload_n 1, 1) := by decide +kernel
theorem d_La_fault_4 : decode b_La_fault 4 = .ok (.iload_n 2, 1) := by decide +kernel
theorem d_La_fault_5 : decode b_La_fault 5 = .ok (.invokevirtual 46, 3) := by decide +kernel
theorem d_La_fault_8 : decode b_La_fault 8 = .ok (.i2l, 1) := by decide +kernel
theorem d_La_fault_9 : decode b_La_fault 9 = .ok (.lastore, 1) := by decide +kernel
theorem d_La_fault_10 : decode b_La_fault 10 = .ok (.goto 11, 3) := by decide +kernel
theorem d_La_fault_13 : decode b_La_fault 13 = .ok (.astore 4, 2) := by decide +kernel
theorem d_La_fault_15 : decode b_La_fault 15 = .ok (.iconst 1, 1) := by decide +kernel
theorem d_La_fault_16 : decode b_La_fault 16 = .ok (.ireturn, 1) := by decide +kernel
theorem d_La_fault_17 : decode b_La_fault 17 = .ok (.astore 4, 2) := by decide +kernel
theorem d_La_fault_19 : decode b_La_fault 19 = .ok (.iconst 2, 1) := by decide +kernel
theorem d_La_fault_20 : decode b_La_fault 20 = .ok (.ireturn, 1) := by decide +kernel
theorem d_La_fault_21 : decode b_La_fault 21 = .ok (.iconst 0, 1) := by decide +kernel
theorem d_La_fault_22 : decode b_La_fault 22 = .ok (.ireturn, 1) := by decide +kernel
theorem d_La_barred_0 : decode b_La_barred 0 = .ok (.aload 4, 2) := by decide +kernel
theorem d_La_barred_2 : decode b_La_barred 2 = .ok (.iconst 0, 1) := by decide +kernel
theorem d_La_barred_3 : decode b_La_barred 3 = .ok (.aload_n 0, 1) := by decide +kernel
theorem d_La_barred_4 : decode b_La_barred 4 = .ok (.iload_n 1, 1) := by decide +kernel
theorem d_La_barred_5 : decode b_La_barred 5 = .ok (.iload_n 2, 1) := by decide +kernel
theorem d_La_barred_6 : decode b_La_barred 6 = .ok (.iload_n 3, 1) := by decide +kernel
theorem d_La_barred_7 : decode b_La_barred 7 = .ok (.invokevirtual 35, 3) := by decide +kernel
theorem d_La_barred_10 : decode b_La_barred 10 = .ok (.ifCond .eq 7, 3) := by decide +kernel
theorem d_La_barred_13 : decode b_La_barred 13 = .ok (.lconst 1, 1) := by decide +kernel
theorem d_La_barred_14 : decode b_La_barred 14 = .ok (.goto 4, 3) := by decide +kernel
theorem d_La_barred_17 : decode b_La_barred 17 = .ok (.lconst 0, 1) := by decide +kernel
theorem d_La_barred_18 : decode b_La_barred 18 = .ok (.lastore, 1) := by decide +kernel
theorem d_La_barred_19 : decode b_La_barred 19 = .ok (.goto 7, 3) := by decide +kernel
theorem d_La_barred_22 : decode b_La_barred 22 = .ok (.astore 5, 2) := by decide +kernel
theorem d_La_barred_24 : decode b_La_barred 24 = .ok (.iconst 1, 1) := by decide +kernel
theorem d_La_barred_25 : decode b_La_barred 25 = .ok (.ireturn, 1) := by decide +kernel
theorem d_La_barred_26 : decode b_La_barred 26 = .ok (.iconst 0, 1) := by decide +kernel
theorem d_La_barred_27 : decode b_La_barred 27 = .ok (.ireturn, 1) := by decide +kernel
theorem d_La_spot_0 : decode b_La_spot 0 = .ok (.aload_n 3, 1) := by decide +kernel
theorem d_La_spot_1 : decode b_La_spot 1 = .ok (.iconst 0, 1) := by decide +kernel
theorem d_La_spot_2 : decode b_La_spot 2 = .ok (.aload_n 0, 1) := by decide +kernel
theorem d_La_spot_3 : decode b_La_spot 3 = .ok (.iload_n 1, 1) := by decide +kernel
theorem d_La_spot_4 : decode b_La_spot 4 = .ok (.iload_n 2, 1) := by decide +kernel
theorem d_La_spot_5 : decode b_La_spot 5 = .ok (.invokevirtual 39, 3) := by decide +kernel
theorem d_La_spot_8 : decode b_La_spot 8 = .ok (.i2l, 1) := by decide +kernel
theorem d_La_spot_9 : decode b_La_spot 9 = .ok (.lastore, 1) := by decide +kernel
theorem d_La_spot_10 : decode b_La_spot 10 = .ok (.goto 7, 3) := by decide +kernel
theorem d_La_spot_13 : decode b_La_spot 13 = .ok (.astore 4, 2) := by decide +kernel
theorem d_La_spot_15 : decode b_La_spot 15 = .ok (.iconst 1, 1) := by decide +kernel
theorem d_La_spot_16 : decode b_La_spot 16 = .ok (.ireturn, 1) := by decide +kernel
theorem d_La_spot_17 : decode b_La_spot 17 = .ok (.iconst 0, 1) := by decide +kernel
theorem d_La_spot_18 : decode b_La_spot 18 = .ok (.ireturn, 1) := by decide +kernel
theorem d_La_along_0 : decode b_La_along 0 = .ok (.aload_n 3, 1) := by decide +kernel
theorem d_La_along_1 : decode b_La_along 1 = .ok (.iconst 0, 1) := by decide +kernel
theorem d_La_along_2 : decode b_La_along 2 = .ok (.aload_n 0, 1) := by decide +kernel
theorem d_La_along_3 : decode b_La_along 3 = .ok (.iload_n 1, 1) := by decide +kernel
theorem d_La_along_4 : decode b_La_along 4 = .ok (.iload_n 2, 1) := by decide +kernel
theorem d_La_along_5 : decode b_La_along 5 = .ok (.invokevirtual 43, 3) := by decide +kernel
theorem d_La_along_8 : decode b_La_along 8 = .ok (.i2l, 1) := by decide +kernel
theorem d_La_along_9 : decode b_La_along 9 = .ok (.lastore, 1) := by decide +kernel
theorem d_La_along_10 : decode b_La_along 10 = .ok (.goto 7, 3) := by decide +kernel
theorem d_La_along_13 : decode b_La_along 13 = .ok (.astore 4, 2) := by decide +kernel
theorem d_La_along_15 : decode b_La_along 15 = .ok (.iconst 1, 1) := by decide +kernel
theorem d_La_along_16 : decode b_La_along 16 = .ok (.ireturn, 1) := by decide +kernel
theorem d_La_along_17 : decode b_La_along 17 = .ok (.iconst 0, 1) := by decide +kernel
theorem d_La_along_18 : decode b_La_along 18 = .ok (.ireturn, 1) := by decide +kernel
theorem d_La_at_0 : decode b_La_at 0 = .ok (.aload_n 2, 1) := by decide +kernel
theorem d_La_at_1 : decode b_La_at 1 = .ok (.iconst 0, 1) := by decide +kernel
theorem d_La_at_2 : decode b_La_at 2 = .ok (.aload_n 0, 1) := by decide +kernel
theorem d_La_at_3 : decode b_La_at 3 = .ok (.iload_n 1, 1) := by decide +kernel
theorem d_La_at_4 : decode b_La_at 4 = .ok (.invokevirtual 49, 3) := by decide +kernel
theorem d_La_at_7 : decode b_La_at 7 = .ok (.i2l, 1) := by decide +kernel
theorem d_La_at_8 : decode b_La_at 8 = .ok (.lastore, 1) := by decide +kernel
theorem d_La_at_9 : decode b_La_at 9 = .ok (.goto 6, 3) := by decide +kernel
theorem d_La_at_12 : decode b_La_at 12 = .ok (.astore_n 3, 1) := by decide +kernel
theorem d_La_at_13 : decode b_La_at 13 = .ok (.iconst 1, 1) := by decide +kernel
theorem d_La_at_14 : decode b_La_at 14 = .ok (.ireturn, 1) := by decide +kernel
theorem d_La_at_15 : decode b_La_at 15 = .ok (.iconst 0, 1) := by decide +kernel
theorem d_La_at_16 : decode b_La_at 16 = .ok (.ireturn, 1) := by decide +kernel
theorem d_La_count_0 : decode b_La_count 0 = .ok (.aload_n 2, 1) := by decide +kernel
theorem d_La_count_1 : decode b_La_count 1 = .ok (.iconst 0, 1) := by decide +kernel
theorem d_La_count_2 : decode b_La_count 2 = .ok (.aload_n 0, 1) := by decide +kernel
theorem d_La_count_3 : decode b_La_count 3 = .ok (.iload_n 1, 1) := by decide +kernel
theorem d_La_count_4 : decode b_La_count 4 = .ok (.invokevirtual 53, 3) := by decide +kernel
theorem d_La_count_7 : decode b_La_count 7 = .ok (.i2l, 1) := by decide +kernel
theorem d_La_count_8 : decode b_La_count 8 = .ok (.lastore, 1) := by decide +kernel
theorem d_La_count_9 : decode b_La_count 9 = .ok (.goto 6, 3) := by decide +kernel
theorem d_La_count_12 : decode b_La_count 12 = .ok (.astore_n 3, 1) := by decide +kernel
theorem d_La_count_13 : decode b_La_count 13 = .ok (.iconst 1, 1) := by decide +kernel
theorem d_La_count_14 : decode b_La_count 14 = .ok (.ireturn, 1) := by decide +kernel
theorem d_La_count_15 : decode b_La_count 15 = .ok (.iconst 0, 1) := by decide +kernel
theorem d_La_count_16 : decode b_La_count 16 = .ok (.ireturn, 1) := by decide +kernel
theorem d_La_sign_0 : decode b_La_sign 0 = .ok (.aload 4, 2) := by decide +kernel
theorem d_La_sign_2 : decode b_La_sign 2 = .ok (.iconst 0, 1) := by decide +kernel
theorem d_La_sign_3 : decode b_La_sign 3 = .ok (.aload_n 0, 1) := by decide +kernel
theorem d_La_sign_4 : decode b_La_sign 4 = .ok (.lload_n 1, 1) := by decide +kernel
theorem d_La_sign_5 : decode b_La_sign 5 = .ok (.iload_n 3, 1) := by decide +kernel
theorem d_La_sign_6 : decode b_La_sign 6 = .ok (.invokevirtual 7, 3) := by decide +kernel
theorem d_La_sign_9 : decode b_La_sign 9 = .ok (.i2l, 1) := by decide +kernel
theorem d_La_sign_10 : decode b_La_sign 10 = .ok (.lastore, 1) := by decide +kernel
theorem d_La_sign_11 : decode b_La_sign 11 = .ok (.goto 11, 3) := by decide +kernel
theorem d_La_sign_14 : decode b_La_sign 14 = .ok (.astore 5, 2) := by decide +kernel
theorem d_La_sign_16 : decode b_La_sign 16 = .ok (.iconst 1, 1) := by decide +kernel
theorem d_La_sign_17 : decode b_La_sign 17 = .ok (.ireturn, 1) := by decide +kernel
theorem d_La_sign_18 : decode b_La_sign 18 = .ok (.astore 5, 2) := by decide +kernel
theorem d_La_sign_20 : decode b_La_sign 20 = .ok (.iconst 2, 1) := by decide +kernel
theorem d_La_sign_21 : decode b_La_sign 21 = .ok (.ireturn, 1) := by decide +kernel
theorem d_La_sign_22 : decode b_La_sign 22 = .ok (.iconst 0, 1) := by decide +kernel
theorem d_La_sign_23 : decode b_La_sign 23 = .ok (.ireturn, 1) := by decide +kernel
theorem d_La_read_0 : decode b_La_read 0 = .ok (.aload_n 1, 1) := by decide +kernel
theorem d_La_read_1 : decode b_La_read 1 = .ok (.iconst 0, 1) := by decide +kernel
theorem d_La_read_2 : decode b_La_read 2 = .ok (.aload_n 0, 1) := by decide +kernel
theorem d_La_read_3 : decode b_La_read 3 = .ok (.invokevirtual 17, 3) := by decide +kernel
theorem d_La_read_6 : decode b_La_read 6 = .ok (.i2l, 1) := by decide +kernel
theorem d_La_read_7 : decode b_La_read 7 = .ok (.lastore, 1) := by decide +kernel
theorem d_La_read_8 : decode b_La_read 8 = .ok (.goto 9, 3) := by decide +kernel
theorem d_La_read_11 : decode b_La_read 11 = .ok (.astore_n 2, 1) := by decide +kernel
theorem d_La_read_12 : decode b_La_read 12 = .ok (.iconst 1, 1) := by decide +kernel
theorem d_La_read_13 : decode b_La_read 13 = .ok (.ireturn, 1) := by decide +kernel
theorem d_La_read_14 : decode b_La_read 14 = .ok (.astore_n 2, 1) := by decide +kernel
theorem d_La_read_15 : decode b_La_read 15 = .ok (.iconst 2, 1) := by decide +kernel
theorem d_La_read_16 : decode b_La_read 16 = .ok (.ireturn, 1) := by decide +kernel
theorem d_La_read_17 : decode b_La_read 17 = .ok (.iconst 0, 1) := by decide +kernel
theorem d_La_read_18 : decode b_La_read 18 = .ok (.ireturn, 1) := by decide +kernel
set_option maxHeartbeats 4000000 in
set_option maxRecDepth 100000 in
/-- piece, as the law asks for it -/
theorem c_La_piece (l : Launch) (hlT : l.stackTraces = false) (G : Gx) (lo : Nat) {V : Vw} {x dy sz : Nat} {Q : Nat → Option PcR} {B S : Nat → Option (Nat × Nat)} {L : List Tri} {t : Nat → Nat} {n : Nat} {wr : Int32} {F : List Two} {PB : List Nat} {o : Nat} {f2 : Nat → Int64} (hC : cS G V x dy sz Q B S L t n wr F PB) (hox : o < x ∨ x + 32 ≤ o) (hod : o < dy) (ho : V o = some (eL (gL G) 1 f2)) (v1 v2 : Int32) : Met l y_La_piece (.codeWith y_La_piece b_La_piece 5 (some .int) [(0, 10, 13, 27), (0, 10, 17, 13)] :: lwT) ({ frames := 7, cells := 1, slots := 6, locals := 160 } : Room) (vPre G lo [.ref x, .int v1, .int v2, .ref o] V sz) (vPost G lo (fun r V' k => r = some (.int (thI (pieR Q v1 v2))) ∧ ∃ f9 : Nat → Int64, V' o = some (eL (gL G) 1 f9) ∧ (thI (pieR Q v1 v2) = 0 → f9 0 = (vaI (pieR Q v1 v2)).toInt64) ∧ cS G V' x dy k Q B S L t n wr F PB ∧ (∀ a, a < sz → ¬ (x ≤ a ∧ a < x + 32) → a ≠ o → V' a = V a) ∧ sz ≤ k)) 1 6 (vL lo) := by
  refine vMetW (Rn := RLa) (by decide) rfl (Nat.le_of_ble_eq_true rfl) ?_
  intro pg ev s mi args below meth cd hx hb hr hml hlk htab hts hown hK hz hV ls hl
  have hl : lv_has ls 5 [(0, .ref x), (1, .int v1), (2, .int v2), (3, .ref o)] := hl
  have hV0 := hV
  obtain ⟨H, hH⟩ : ∃ H, H = s.heap := ⟨_, rfl⟩
  obtain ⟨locs, hlocs⟩ : ∃ locs : List Loc, locs = [] := ⟨_, rfl⟩
  rw [← hH, ← hlocs]
  rw [← hH] at hz
  replace hV : vS G.1 cls lo s H locs V := by rw [hH, hlocs]; exact hV
  clear hH hlocs hV0
  obtain ⟨⟨fs9, hx0⟩, hxd, hdz⟩ := hC.at
  have hn : [o].Nodup := by simp
  refine lv_aload_n hx hb d_La_piece_0 rfl (lv_at hl 3 rfl) ?_
  refine lv_iconst (v := 0) hx hb d_La_piece_1 (by decide) ?_
  refine lv_aload_n hx hb d_La_piece_2 rfl (lv_at hl 0 rfl) ?_
  refine lv_iload_n hx hb d_La_piece_3 rfl (lv_at hl 1 rfl) ?_
  refine lv_iload_n hx hb d_La_piece_4 rfl (lv_at hl 2 rfl) ?_
  refine x_callV (As := [.int v1, .int v2]) (rest := [.int 0, .ref o]) ⟨hx, hb, hml, hown, hts⟩ (k_SG_piece l hlT G lo hC v1 v2) (kwV 2 hts w_co_SG_piece rfl rfl w_it_SG w_ml_La_23 w_im_SG_piece w_se_SG__SG_piece (by decide +kernel) ⟨(Nat.le_of_ble_eq_true rfl), (Nat.le_of_ble_eq_true rfl)⟩) (v_preV hK hV rfl hz hx0 rfl) rfl hl.1 rfl (Nat.le_of_ble_eq_true rfl) d_La_piece_5 ⟨(Nat.le_of_ble_eq_true rfl), (Nat.le_of_ble_eq_true rfl)⟩ hV (fun r9 V9 H locs hp hV hle => ?_) (fun q9 E9 ce9 V9 H locs hp hV hle hce hcv hcl => ?_)
  · obtain ⟨rfl, hth, hC9, hfr, hsz9⟩ := hp
    have ho9 : V9 o = some (eL (gL G) 1 f2) := (hfr o (by omega) (by omega)).trans ho
    replace hV : vS G.1 cls lo s H locs (vU V9 [(o, eL (gL G) 1 f2)]) := by rw [vU_all (W := V9) (ds := [(o, eL (gL G) 1 f2)]) (fun z hz => by rw [List.mem_singleton.mp hz]; exact ho9)]; exact hV
    refine W.eq (g2 := F0 mi 8 ls [.int (vaI (pieR Q v1 v2)), .int 0, .ref o]) rfl ?_
    refine lv_i2l (v := (vaI (pieR Q v1 v2)).toInt64) hx hb d_La_piece_8 (rfl) ?_
    refine u_lastN (j := 0) hx hb hK hV hn 0 rfl (by omega) (by decide) d_La_piece_9 (fun H2 locs hV hz9 => ?_)
    replace hV : vS G.1 cls lo s H2 locs (vU V9 [(o, eL (gL G) 1 (vp_updL f2 0 ((vaI (pieR Q v1 v2)).toInt64)))]) := hV
    refine lv_goto (tgt := 21) hx hb d_La_piece_10 (by decide) ?_
    refine lv_iconst (v := 0) hx hb d_La_piece_21 (by decide) ?_
    refine W.widen (k := 1) (n := 6) (by omega) (by omega) ?_
    have hf9 : (vp_updL f2 0 ((vaI (pieR Q v1 v2)).toInt64)) 0 = (vaI (pieR Q v1 v2)).toInt64 := by simp [vp_updL]
    refine W.iret (v := 0) hx hb hr (v_end hV ⟨by rw [hth], _, vU_at (cs := [(o, eL (gL G) 1 (vp_updL f2 0 ((vaI (pieR Q v1 v2)).toInt64)))]) hn 0 rfl, fun _ => hf9, ?_, ?_, by rw [hz9]; exact hsz9⟩) hV.2.1.2.2 d_La_piece_22
    · rw [hz9]; exact cS.eq hC9 (fun a h1 h2 => vU_out V9 [(o, eL (gL G) 1 (vp_updL f2 0 ((vaI (pieR Q v1 v2)).toInt64)))] a (by simp; omega)) (fun a h1 _ => vU_out V9 [(o, eL (gL G) 1 (vp_updL f2 0 ((vaI (pieR Q v1 v2)).toInt64)))] a (by simp; omega))
    · exact fun a h1 h2 h3 => (vU_out V9 [(o, eL (gL G) 1 (vp_updL f2 0 ((vaI (pieR Q v1 v2)).toInt64)))] a (by simp; exact h3)).trans (hfr a h1 h2)
  · obtain ⟨h1, hC9, hfr, hsz9⟩ := hp
    have ho9 : V9 o = some (eL (gL G) 1 f2) := (hfr o (by omega) (by omega)).trans ho
    rcases h1 with ⟨rfl, hth⟩ | ⟨rfl, hth⟩
    · refine x_catch1 (x := ⟨0, 10, 13, 27⟩) (nm := "java/lang/IllegalArgumentException") rfl hown htab rfl (by decide) (hts _ w_cl_La_27) hce hcv hcl (hK.2.2.2.1 s (State.WarmedH.refl s) (fun _ _ _ => rfl) _ (List.mem_of_getElem? (i := 10) rfl) args) ?_
      refine W.eq (g2 := F0 mi 13 ls [.ref q9]) rfl ?_
      refine lv_astore (lv' := [(4, .ref q9), (0, .ref x), (1, .int v1), (2, .int v2), (3, .ref o)]) hx hb d_La_piece_13 hl (by decide) rfl (fun ls hl => ?_)
      refine lv_iconst (v := 1) hx hb d_La_piece_15 (by decide) ?_
      refine W.widen (k := 1) (n := 6) (by omega) (by omega) ?_
      exact W.iret (v := 1) hx hb hr (v_end hV ⟨by rw [hth], f2, ho9, fun h0 => absurd (hth.symm.trans h0) (by decide), hC9, fun a h1 h2 _ => hfr a h1 h2, hsz9⟩) hV.2.1.2.2 d_La_piece_16
    · refine x_catch2 (x := ⟨0, 10, 13, 27⟩) (x2 := ⟨0, 10, 17, 13⟩) (nm := "java/lang/IllegalArgumentException") (nm2 := "java/lang/IndexOutOfBoundsException") rfl hown htab rfl (by decide) rfl (by decide) (hts _ w_cl_La_27) (hts _ w_cl_La_13) hce hcv hcl (hK.2.2.2.1 s (State.WarmedH.refl s) (fun _ _ _ => rfl) _ (List.mem_of_getElem? (i := 13) rfl) args) (hK.2.2.2.1 s (State.WarmedH.refl s) (fun _ _ _ => rfl) _ (List.mem_of_getElem? (i := 7) rfl) args) ?_
      refine W.eq (g2 := F0 mi 17 ls [.ref q9]) rfl ?_
      refine lv_astore (lv' := [(4, .ref q9), (0, .ref x), (1, .int v1), (2, .int v2), (3, .ref o)]) hx hb d_La_piece_17 hl (by decide) rfl (fun ls hl => ?_)
      refine lv_iconst (v := 2) hx hb d_La_piece_19 (by decide) ?_
      refine W.widen (k := 1) (n := 6) (by omega) (by omega) ?_
      exact W.iret (v := 2) hx hb hr (v_end hV ⟨by rw [hth], f2, ho9, fun h0 => absurd (hth.symm.trans h0) (by decide), hC9, fun a h1 h2 _ => hfr a h1 h2, hsz9⟩) hV.2.1.2.2 d_La_piece_20

set_option maxHeartbeats 4000000 in
set_option maxRecDepth 100000 in
/-- speed, as the law asks for it -/
theorem c_La_speed (l : Launch) (hlT : l.stackTraces = false) (G : Gx) (lo : Nat) {V : Vw} {x dy sz : Nat} {Q : Nat → Option PcR} {B S : Nat → Option (Nat × Nat)} {L : List Tri} {t : Nat → Nat} {n : Nat} {wr : Int32} {F : List Two} {PB : List Nat} {o : Nat} {f2 : Nat → Int64} (hC : cS G V x dy sz Q B S L t n wr F PB) (hox : o < x ∨ x + 32 ≤ o) (hod : o < dy) (ho : V o = some (eL (gL G) 1 f2)) (v1 v2 : Int32) : Met l y_La_speed (.codeWith y_La_speed b_La_speed 5 (some .int) [(0, 10, 13, 27), (0, 10, 17, 13)] :: lwT) ({ frames := 7, cells := 1, slots := 6, locals := 160 } : Room) (vPre G lo [.ref x, .int v1, .int v2, .ref o] V sz) (vPost G lo (fun r V' k => r = some (.int (thI (speR Q v1 v2))) ∧ ∃ f9 : Nat → Int64, V' o = some (eL (gL G) 1 f9) ∧ (thI (speR Q v1 v2) = 0 → f9 0 = (vaI (speR Q v1 v2)).toInt64) ∧ cS G V' x dy k Q B S L t n wr F PB ∧ (∀ a, a < sz → ¬ (x ≤ a ∧ a < x + 32) → a ≠ o → V' a = V a) ∧ sz ≤ k)) 1 6 (vL lo) := by
  refine vMetW (Rn := RLa) (by decide) rfl (Nat.le_of_ble_eq_true rfl) ?_
  intro pg ev s mi args below meth cd hx hb hr hml hlk htab hts hown hK hz hV ls hl
  have hl : lv_has ls 5 [(0, .ref x), (1, .int v1), (2, .int v2), (3, .ref o)] := hl
  have hV0 := hV
  obtain ⟨H, hH⟩ : ∃ H, H = s.heap := ⟨_, rfl⟩
  obtain ⟨locs, hlocs⟩ : ∃ locs : List Loc, locs = [] := ⟨_, rfl⟩
  rw [← hH, ← hlocs]
  rw [← hH] at hz
  replace hV : vS G.1 cls lo s H locs V := by rw [hH, hlocs]; exact hV
  clear hH hlocs hV0
  obtain ⟨⟨fs9, hx0⟩, hxd, hdz⟩ := hC.at
  have hn : [o].Nodup := by simp
  refine lv_aload_n hx hb d_La_speed_0 rfl (lv_at hl 3 rfl) ?_
  refine lv_iconst (v := 0) hx hb d_La_speed_1 (by decide) ?_
  refine lv_aload_n hx hb d_La_speed_2 rfl (lv_at hl 0 rfl) ?_
  refine lv_iload_n hx hb d_La_speed_3 rfl (lv_at hl 1 rfl) ?_
  refine lv_iload_n hx hb d_La_speed_4 rfl (lv_at hl 2 rfl) ?_
  refine x_callV (As := [.int v1, .int v2]) (rest := [.int 0, .ref o]) ⟨hx, hb, hml, hown, hts⟩ (k_SG_speed l hlT G lo hC v1 v2) (kwV 2 hts w_co_SG_speed rfl rfl w_it_SG w_ml_La_29 w_im_SG_speed w_se_SG__SG_speed (by decide +kernel) ⟨(Nat.le_of_ble_eq_true rfl), (Nat.le_of_ble_eq_true rfl)⟩) (v_preV hK hV rfl hz hx0 rfl) rfl hl.1 rfl (Nat.le_of_ble_eq_true rfl) d_La_speed_5 ⟨(Nat.le_of_ble_eq_true rfl), (Nat.le_of_ble_eq_true rfl)⟩ hV (fun r9 V9 H locs hp hV hle => ?_) (fun q9 E9 ce9 V9 H locs hp hV hle hce hcv hcl => ?_)
  · obtain ⟨rfl, hth, hC9, hfr, hsz9⟩ := hp
    have ho9 : V9 o = some (eL (gL G) 1 f2) := (hfr o (by omega) (by omega)).trans ho
    replace hV : vS G.1 cls lo s H locs (vU V9 [(o, eL (gL G) 1 f2)]) := by rw [vU_all (W := V9) (ds := [(o, eL (gL G) 1 f2)]) (fun z hz => by rw [List.mem_singleton.mp hz]; exact ho9)]; exact hV
    refine W.eq (g2 := F0 mi 8 ls [.int (vaI (speR Q v1 v2)), .int 0, .ref o]) rfl ?_
    refine lv_i2l (v := (vaI (speR Q v1 v2)).toInt64) hx hb d_La_speed_8 (rfl) ?_
    refine u_lastN (j := 0) hx hb hK hV hn 0 rfl (by omega) (by decide) d_La_speed_9 (fun H2 locs hV hz9 => ?_)
    replace hV : vS G.1 cls lo s H2 locs (vU V9 [(o, eL (gL G) 1 (vp_updL f2 0 ((vaI (speR Q v1 v2)).toInt64)))]) := hV
    refine lv_goto (tgt := 21) hx hb d_La_speed_10 (by decide) ?_
    refine lv_iconst (v := 0) hx hb d_La_speed_21 (by decide) ?_
    refine W.widen (k := 1) (n := 6) (by omega) (by omega) ?_
    have hf9 : (vp_updL f2 0 ((vaI (speR Q v1 v2)).toInt64)) 0 = (vaI (speR Q v1 v2)).toInt64 := by simp [vp_updL]
    refine W.iret (v := 0) hx hb hr (v_end hV ⟨by rw [hth], _, vU_at (cs := [(o, eL (gL G) 1 (vp_updL f2 0 ((vaI (speR Q v1 v2)).toInt64)))]) hn 0 rfl, fun _ => hf9, ?_, ?_, by rw [hz9]; exact hsz9⟩) hV.2.1.2.2 d_La_speed_22
    · rw [hz9]; exact cS.eq hC9 (fun a h1 h2 => vU_out V9 [(o, eL (gL G) 1 (vp_updL f2 0 ((vaI (speR Q v1 v2)).toInt64)))] a (by simp; omega)) (fun a h1 _ => vU_out V9 [(o, eL (gL G) 1 (vp_updL f2 0 ((vaI (speR Q v1 v2)).toInt64)))] a (by simp; omega))
    · exact fun a h1 h2 h3 => (vU_out V9 [(o, eL (gL G) 1 (vp_updL f2 0 ((vaI (speR Q v1 v2)).toInt64)))] a (by simp; exact h3)).trans (hfr a h1 h2)
  · obtain ⟨h1, hC9, hfr, hsz9⟩ := hp
    have ho9 : V9 o = some (eL (gL G) 1 f2) := (hfr o (by omega) (by omega)).trans ho
    rcases h1 with ⟨rfl, hth⟩ | ⟨rfl, hth⟩
    · refine x_catch1 (x := ⟨0, 10, 13, 27⟩) (nm := "java/lang/IllegalArgumentException") rfl hown htab rfl (by decide) (hts _ w_cl_La_27) hce hcv hcl (hK.2.2.2.1 s (State.WarmedH.refl s) (fun _ _ _ => rfl) _ (List.mem_of_getElem? (i := 10) rfl) args) ?_
      refine W.eq (g2 := F0 mi 13 ls [.ref q9]) rfl ?_
      refine lv_astore (lv' := [(4, .ref q9), (0, .ref x), (1, .int v1), (2, .int v2), (3, .ref o)]) hx hb d_La_speed_13 hl (by decide) rfl (fun ls hl => ?_)
      refine lv_iconst (v := 1) hx hb d_La_speed_15 (by decide) ?_
      refine W.widen (k := 1) (n := 6) (by omega) (by omega) ?_
      exact W.iret (v := 1) hx hb hr (v_end hV ⟨by rw [hth], f2, ho9, fun h0 => absurd (hth.symm.trans h0) (by decide), hC9, fun a h1 h2 _ => hfr a h1 h2, hsz9⟩) hV.2.1.2.2 d_La_speed_16
    · refine x_catch2 (x := ⟨0, 10, 13, 27⟩) (x2 := ⟨0, 10, 17, 13⟩) (nm := "java/lang/IllegalArgumentException") (nm2 := "java/lang/IndexOutOfBoundsException") rfl hown htab rfl (by decide) rfl (by decide) (hts _ w_cl_La_27) (hts _ w_cl_La_13) hce hcv hcl (hK.2.2.2.1 s (State.WarmedH.refl s) (fun _ _ _ => rfl) _ (List.mem_of_getElem? (i := 13) rfl) args) (hK.2.2.2.1 s (State.WarmedH.refl s) (fun _ _ _ => rfl) _ (List.mem_of_getElem? (i := 7) rfl) args) ?_
      refine W.eq (g2 := F0 mi 17 ls [.ref q9]) rfl ?_
      refine lv_astore (lv' := [(4, .ref q9), (0, .ref x), (1, .int v1), (2, .int v2), (3, .ref o)]) hx hb d_La_speed_17 hl (by decide) rfl (fun ls hl => ?_)
      refine lv_iconst (v := 2) hx hb d_La_speed_19 (by decide) ?_
      refine W.widen (k := 1) (n := 6) (by omega) (by omega) ?_
      exact W.iret (v := 2) hx hb hr (v_end hV ⟨by rw [hth], f2, ho9, fun h0 => absurd (hth.symm.trans h0) (by decide), hC9, fun a h1 h2 _ => hfr a h1 h2, hsz9⟩) hV.2.1.2.2 d_La_speed_20

set_option maxHeartbeats 4000000 in
set_option maxRecDepth 100000 in
/-- name, as the law asks for it -/
theorem c_La_name (l : Launch) (hlT : l.stackTraces = false) (G : Gx) (lo : Nat) {V : Vw} {x dy sz : Nat} {Q : Nat → Option PcR} {B S : Nat → Option (Nat × Nat)} {L : List Tri} {t : Nat → Nat} {n : Nat} {wr : Int32} {F : List Two} {PB : List Nat} {o : Nat} {f2 : Nat → Int64} (hC : cS G V x dy sz Q B S L t n wr F PB) (hox : o < x ∨ x + 32 ≤ o) (hod : o < dy) (ho : V o = some (eL (gL G) 1 f2)) (v1 v2 : Int32) : Met l y_La_name (.codeWith y_La_name b_La_name 5 (some .int) [(0, 10, 13, 27), (0, 10, 17, 13)] :: lwT) ({ frames := 7, cells := 1, slots := 6, locals := 160 } : Room) (vPre G lo [.ref x, .int v1, .int v2, .ref o] V sz) (vPost G lo (fun r V' k => r = some (.int (thI (nmeR Q v1 v2))) ∧ ∃ f9 : Nat → Int64, V' o = some (eL (gL G) 1 f9) ∧ (thI (nmeR Q v1 v2) = 0 → f9 0 = (vaI (nmeR Q v1 v2)).toInt64) ∧ cS G V' x dy k Q B S L t n wr F PB ∧ (∀ a, a < sz → ¬ (x ≤ a ∧ a < x + 32) → a ≠ o → V' a = V a) ∧ sz ≤ k)) 1 6 (vL lo) := by
  refine vMetW (Rn := RLa) (by decide) rfl (Nat.le_of_ble_eq_true rfl) ?_
  intro pg ev s mi args below meth cd hx hb hr hml hlk htab hts hown hK hz hV ls hl
  have hl : lv_has ls 5 [(0, .ref x), (1, .int v1), (2, .int v2), (3, .ref o)] := hl
  have hV0 := hV
  obtain ⟨H, hH⟩ : ∃ H, H = s.heap := ⟨_, rfl⟩
  obtain ⟨locs, hlocs⟩ : ∃ locs : List Loc, locs = [] := ⟨_, rfl⟩
  rw [← hH, ← hlocs]
  rw [← hH] at hz
  replace hV : vS G.1 cls lo s H locs V := by rw [hH, hlocs]; exact hV
  clear hH hlocs hV0
  obtain ⟨⟨fs9, hx0⟩, hxd, hdz⟩ := hC.at
  have hn : [o].Nodup := by simp
  refine lv_aload_n hx hb d_La_name_0 rfl (lv_at hl 3 rfl) ?_
  refine lv_iconst (v := 0) hx hb d_La_name_1 (by decide) ?_
  refine lv_aload_n hx hb d_La_name_2 rfl (lv_at hl 0 rfl) ?_
  refine lv_iload_n hx hb d_La_name_3 rfl (lv_at hl 1 rfl) ?_
  refine lv_iload_n hx hb d_La_name_4 rfl (lv_at hl 2 rfl) ?_
  refine x_callV (As := [.int v1, .int v2]) (rest := [.int 0, .ref o]) ⟨hx, hb, hml, hown, hts⟩ (k_SG_name l hlT G lo hC v1 v2) (kwV 2 hts w_co_SG_name rfl rfl w_it_SG w_ml_La_32 w_im_SG_name w_se_SG__SG_name (by decide +kernel) ⟨(Nat.le_of_ble_eq_true rfl), (Nat.le_of_ble_eq_true rfl)⟩) (v_preV hK hV rfl hz hx0 rfl) rfl hl.1 rfl (Nat.le_of_ble_eq_true rfl) d_La_name_5 ⟨(Nat.le_of_ble_eq_true rfl), (Nat.le_of_ble_eq_true rfl)⟩ hV (fun r9 V9 H locs hp hV hle => ?_) (fun q9 E9 ce9 V9 H locs hp hV hle hce hcv hcl => ?_)
  · obtain ⟨rfl, hth, hC9, hfr, hsz9⟩ := hp
    have ho9 : V9 o = some (eL (gL G) 1 f2) := (hfr o (by omega) (by omega)).trans ho
    replace hV : vS G.1 cls lo s H locs (vU V9 [(o, eL (gL G) 1 f2)]) := by rw [vU_all (W := V9) (ds := [(o, eL (gL G) 1 f2)]) (fun z hz => by rw [List.mem_singleton.mp hz]; exact ho9)]; exact hV
    refine W.eq (g2 := F0 mi 8 ls [.int (vaI (nmeR Q v1 v2)), .int 0, .ref o]) rfl ?_
    refine lv_i2l (v := (vaI (nmeR Q v1 v2)).toInt64) hx hb d_La_name_8 (rfl) ?_
    refine u_lastN (j := 0) hx hb hK hV hn 0 rfl (by omega) (by decide) d_La_name_9 (fun H2 locs hV hz9 => ?_)
    replace hV : vS G.1 cls lo s H2 locs (vU V9 [(o, eL (gL G) 1 (vp_updL f2 0 ((vaI (nmeR Q v1 v2)).toInt64)))]) := hV
    refine lv_goto (tgt := 21) hx hb d_La_name_10 (by decide) ?_
    refine lv_iconst (v := 0) hx hb d_La_name_21 (by decide) ?_
    refine W.widen (k := 1) (n := 6) (by omega) (by omega) ?_
    have hf9 : (vp_updL f2 0 ((vaI (nmeR Q v1 v2)).toInt64)) 0 = (vaI (nmeR Q v1 v2)).toInt64 := by simp [vp_updL]
    refine W.iret (v := 0) hx hb hr (v_end hV ⟨by rw [hth], _, vU_at (cs := [(o, eL (gL G) 1 (vp_updL f2 0 ((vaI (nmeR Q v1 v2)).toInt64)))]) hn 0 rfl, fun _ => hf9, ?_, ?_, by rw [hz9]; exact hsz9⟩) hV.2.1.2.2 d_La_name_22
    · rw [hz9]; exact cS.eq hC9 (fun a h1 h2 => vU_out V9 [(o, eL (gL G) 1 (vp_updL f2 0 ((vaI (nmeR Q v1 v2)).toInt64)))] a (by simp; omega)) (fun a h1 _ => vU_out V9 [(o, eL (gL G) 1 (vp_updL f2 0 ((vaI (nmeR Q v1 v2)).toInt64)))] a (by simp; omega))
    · exact fun a h1 h2 h3 => (vU_out V9 [(o, eL (gL G) 1 (vp_updL f2 0 ((vaI (nmeR Q v1 v2)).toInt64)))] a (by simp; exact h3)).trans (hfr a h1 h2)
  · obtain ⟨h1, hC9, hfr, hsz9⟩ := hp
    have ho9 : V9 o = some (eL (gL G) 1 f2) := (hfr o (by omega) (by omega)).trans ho
    rcases h1 with ⟨rfl, hth⟩ | ⟨rfl, hth⟩
    · refine x_catch1 (x := ⟨0, 10, 13, 27⟩) (nm := "java/lang/IllegalArgumentException") rfl hown htab rfl (by decide) (hts _ w_cl_La_27) hce hcv hcl (hK.2.2.2.1 s (State.WarmedH.refl s) (fun _ _ _ => rfl) _ (List.mem_of_getElem? (i := 10) rfl) args) ?_
      refine W.eq (g2 := F0 mi 13 ls [.ref q9]) rfl ?_
      refine lv_astore (lv' := [(4, .ref q9), (0, .ref x), (1, .int v1), (2, .int v2), (3, .ref o)]) hx hb d_La_name_13 hl (by decide) rfl (fun ls hl => ?_)
      refine lv_iconst (v := 1) hx hb d_La_name_15 (by decide) ?_
      refine W.widen (k := 1) (n := 6) (by omega) (by omega) ?_
      exact W.iret (v := 1) hx hb hr (v_end hV ⟨by rw [hth], f2, ho9, fun h0 => absurd (hth.symm.trans h0) (by decide), hC9, fun a h1 h2 _ => hfr a h1 h2, hsz9⟩) hV.2.1.2.2 d_La_name_16
    · refine x_catch2 (x := ⟨0, 10, 13, 27⟩) (x2 := ⟨0, 10, 17, 13⟩) (nm := "java/lang/IllegalArgumentException") (nm2 := "java/lang/IndexOutOfBoundsException") rfl hown htab rfl (by decide) rfl (by decide) (hts _ w_cl_La_27) (hts _ w_cl_La_13) hce hcv hcl (hK.2.2.2.1 s (State.WarmedH.refl s) (fun _ _ _ => rfl) _ (List.mem_of_getElem? (i := 13) rfl) args) (hK.2.2.2.1 s (State.WarmedH.refl s) (fun _ _ _ => rfl) _ (List.mem_of_getElem? (i := 7) rfl) args) ?_
      refine W.eq (g2 := F0 mi 17 ls [.ref q9]) rfl ?_
      refine lv_astore (lv' := [(4, .ref q9), (0, .ref x), (1, .int v1), (2, .int v2), (3, .ref o)]) hx hb d_La_name_17 hl (by decide) rfl (fun ls hl => ?_)
      refine lv_iconst (v := 2) hx hb d_La_name_19 (by decide) ?_
      refine W.widen (k := 1) (n := 6) (by omega) (by omega) ?_
      exact W.iret (v := 2) hx hb hr (v_end hV ⟨by rw [hth], f2, ho9, fun h0 => absurd (hth.symm.trans h0) (by decide), hC9, fun a h1 h2 _ => hfr a h1 h2, hsz9⟩) hV.2.1.2.2 d_La_name_20

set_option maxHeartbeats 4000000 in
set_option maxRecDepth 100000 in
/-- fault, as the law asks for it -/
theorem c_La_fault (l : Launch) (hlT : l.stackTraces = false) (G : Gx) (lo : Nat) {V : Vw} {x dy sz : Nat} {Q : Nat → Option PcR} {B S : Nat → Option (Nat × Nat)} {L : List Tri} {t : Nat → Nat} {n : Nat} {wr : Int32} {F : List Two} {PB : List Nat} {o : Nat} {f2 : Nat → Int64} (hC : cS G V x dy sz Q B S L t n wr F PB) (hox : o < x ∨ x + 32 ≤ o) (hod : o < dy) (ho : V o = some (eL (gL G) 1 f2)) (v1 v2 : Int32) : Met l y_La_fault (.codeWith y_La_fault b_La_fault 5 (some .int) [(0, 10, 13, 27), (0, 10, 17, 13)] :: lwT) ({ frames := 7, cells := 1, slots := 6, locals := 160 } : Room) (vPre G lo [.ref x, .int v1, .int v2, .ref o] V sz) (vPost G lo (fun r V' k => r = some (.int (thI (fauR F v1 v2))) ∧ ∃ f9 : Nat → Int64, V' o = some (eL (gL G) 1 f9) ∧ (thI (fauR F v1 v2) = 0 → f9 0 = (vaI (fauR F v1 v2)).toInt64) ∧ cS G V' x dy k Q B S L t n wr F PB ∧ (∀ a, a < sz → ¬ (x ≤ a ∧ a < x + 32) → a ≠ o → V' a = V a) ∧ sz ≤ k)) 1 6 (vL lo) := by
  refine vMetW (Rn := RLa) (by decide) rfl (Nat.le_of_ble_eq_true rfl) ?_
  intro pg ev s mi args below meth cd hx hb hr hml hlk htab hts hown hK hz hV ls hl
  have hl : lv_has ls 5 [(0, .ref x), (1, .int v1), (2, .int v2), (3, .ref o)] := hl
  have hV0 := hV
  obtain ⟨H, hH⟩ : ∃ H, H = s.heap := ⟨_, rfl⟩
  obtain ⟨locs, hlocs⟩ : ∃ locs : List Loc, locs = [] := ⟨_, rfl⟩
  rw [← hH, ← hlocs]
  rw [← hH] at hz
  replace hV : vS G.1 cls lo s H locs V := by rw [hH, hlocs]; exact hV
  clear hH hlocs hV0
  obtain ⟨⟨fs9, hx0⟩, hxd, hdz⟩ := hC.at
  have hn : [o].Nodup := by simp
  refine lv_aload_n hx hb d_La_fault_0 rfl (lv_at hl 3 rfl) ?_
  refine lv_iconst (v := 0) hx hb d_La_fault_1 (by decide) ?_
  refine lv_aload_n hx hb d_La_fault_2 rfl (lv_at hl 0 rfl) ?_
  refine lv_iload_n hx hb d_La_fault_3 rfl (lv_at hl 1 rfl) ?_
  refine lv_iload_n hx hb d_La_fault_4 rfl (lv_at hl 2 rfl) ?_
  refine x_callV (As := [.int v1, .int v2]) (rest := [.int 0, .ref o]) ⟨hx, hb, hml, hown, hts⟩ (k_SG_fault l hlT G lo hC v1 v2) (kwV 2 hts w_co_SG_fault rfl rfl w_it_SG w_ml_La_46 w_im_SG_fault w_se_SG__SG_fault (by decide +kernel) ⟨(Nat.le_of_ble_eq_true rfl), (Nat.le_of_ble_eq_true rfl)⟩) (v_preV hK hV rfl hz hx0 rfl) rfl hl.1 rfl (Nat.le_of_ble_eq_true rfl) d_La_fault_5 ⟨(Nat.le_of_ble_eq_true rfl), (Nat.le_of_ble_eq_true rfl)⟩ hV (fun r9 V9 H locs hp hV hle => ?_) (fun q9 E9 ce9 V9 H locs hp hV hle hce hcv hcl => ?_)
  · obtain ⟨rfl, hth, hC9, hfr, hsz9⟩ := hp
    have ho9 : V9 o = some (eL (gL G) 1 f2) := (hfr o (by omega) (by omega)).trans ho
    replace hV : vS G.1 cls lo s H locs (vU V9 [(o, eL (gL G) 1 f2)]) := by rw [vU_all (W := V9) (ds := [(o, eL (gL G) 1 f2)]) (fun z hz => by rw [List.mem_singleton.mp hz]; exact ho9)]; exact hV
    refine W.eq (g2 := F0 mi 8 ls [.int (vaI (fauR F v1 v2)), .int 0, .ref o]) rfl ?_
    refine lv_i2l (v := (vaI (fauR F v1 v2)).toInt64) hx hb d_La_fault_8 (rfl) ?_
    refine u_lastN (j := 0) hx hb hK hV hn 0 rfl (by omega) (by decide) d_La_fault_9 (fun H2 locs hV hz9 => ?_)
    replace hV : vS G.1 cls lo s H2 locs (vU V9 [(o, eL (gL G) 1 (vp_updL f2 0 ((vaI (fauR F v1 v2)).toInt64)))]) := hV
    refine lv_goto (tgt := 21) hx hb d_La_fault_10 (by decide) ?_
    refine lv_iconst (v := 0) hx hb d_La_fault_21 (by decide) ?_
    refine W.widen (k := 1) (n := 6) (by omega) (by omega) ?_
    have hf9 : (vp_updL f2 0 ((vaI (fauR F v1 v2)).toInt64)) 0 = (vaI (fauR F v1 v2)).toInt64 := by simp [vp_updL]
    refine W.iret (v := 0) hx hb hr (v_end hV ⟨by rw [hth], _, vU_at (cs := [(o, eL (gL G) 1 (vp_updL f2 0 ((vaI (fauR F v1 v2)).toInt64)))]) hn 0 rfl, fun _ => hf9, ?_, ?_, by rw [hz9]; exact hsz9⟩) hV.2.1.2.2 d_La_fault_22
    · rw [hz9]; exact cS.eq hC9 (fun a h1 h2 => vU_out V9 [(o, eL (gL G) 1 (vp_updL f2 0 ((vaI (fauR F v1 v2)).toInt64)))] a (by simp; omega)) (fun a h1 _ => vU_out V9 [(o, eL (gL G) 1 (vp_updL f2 0 ((vaI (fauR F v1 v2)).toInt64)))] a (by simp; omega))
    · exact fun a h1 h2 h3 => (vU_out V9 [(o, eL (gL G) 1 (vp_updL f2 0 ((vaI (fauR F v1 v2)).toInt64)))] a (by simp; exact h3)).trans (hfr a h1 h2)
  · obtain ⟨h1, hC9, hfr, hsz9⟩ := hp
    have ho9 : V9 o = some (eL (gL G) 1 f2) := (hfr o (by omega) (by omega)).trans ho
    rcases h1 with ⟨rfl, hth⟩ | ⟨rfl, hth⟩
    · refine x_catch1 (x := ⟨0, 10, 13, 27⟩) (nm := "java/lang/IllegalArgumentException") rfl hown htab rfl (by decide) (hts _ w_cl_La_27) hce hcv hcl (hK.2.2.2.1 s (State.WarmedH.refl s) (fun _ _ _ => rfl) _ (List.mem_of_getElem? (i := 10) rfl) args) ?_
      refine W.eq (g2 := F0 mi 13 ls [.ref q9]) rfl ?_
      refine lv_astore (lv' := [(4, .ref q9), (0, .ref x), (1, .int v1), (2, .int v2), (3, .ref o)]) hx hb d_La_fault_13 hl (by decide) rfl (fun ls hl => ?_)
      refine lv_iconst (v := 1) hx hb d_La_fault_15 (by decide) ?_
      refine W.widen (k := 1) (n := 6) (by omega) (by omega) ?_
      exact W.iret (v := 1) hx hb hr (v_end hV ⟨by rw [hth], f2, ho9, fun h0 => absurd (hth.symm.trans h0) (by decide), hC9, fun a h1 h2 _ => hfr a h1 h2, hsz9⟩) hV.2.1.2.2 d_La_fault_16
    · refine x_catch2 (x := ⟨0, 10, 13, 27⟩) (x2 := ⟨0, 10, 17, 13⟩) (nm := "java/lang/IllegalArgumentException") (nm2 := "java/lang/IndexOutOfBoundsException") rfl hown htab rfl (by decide) rfl (by decide) (hts _ w_cl_La_27) (hts _ w_cl_La_13) hce hcv hcl (hK.2.2.2.1 s (State.WarmedH.refl s) (fun _ _ _ => rfl) _ (List.mem_of_getElem? (i := 13) rfl) args) (hK.2.2.2.1 s (State.WarmedH.refl s) (fun _ _ _ => rfl) _ (List.mem_of_getElem? (i := 7) rfl) args) ?_
      refine W.eq (g2 := F0 mi 17 ls [.ref q9]) rfl ?_
      refine lv_astore (lv' := [(4, .ref q9), (0, .ref x), (1, .int v1), (2, .int v2), (3, .ref o)]) hx hb d_La_fault_17 hl (by decide) rfl (fun ls hl => ?_)
      refine lv_iconst (v := 2) hx hb d_La_fault_19 (by decide) ?_
      refine W.widen (k := 1) (n := 6) (by omega) (by omega) ?_
      exact W.iret (v := 2) hx hb hr (v_end hV ⟨by rw [hth], f2, ho9, fun h0 => absurd (hth.symm.trans h0) (by decide), hC9, fun a h1 h2 _ => hfr a h1 h2, hsz9⟩) hV.2.1.2.2 d_La_fault_20

set_option maxHeartbeats 4000000 in
set_option maxRecDepth 100000 in
/-- barred, as the law asks for it -/
theorem c_La_barred (l : Launch) (hlT : l.stackTraces = false) (G : Gx) (lo : Nat) {V : Vw} {x dy sz : Nat} {Q : Nat → Option PcR} {B S : Nat → Option (Nat × Nat)} {L : List Tri} {t : Nat → Nat} {n : Nat} {wr : Int32} {F : List Two} {PB : List Nat} {o : Nat} {f2 : Nat → Int64} (hC : cS G V x dy sz Q B S L t n wr F PB) (hox : o < x ∨ x + 32 ≤ o) (hod : o < dy) (ho : V o = some (eL (gL G) 1 f2)) (v1 v2 v3 : Int32) : Met l y_La_barred (.codeWith y_La_barred b_La_barred 6 (some .int) [(0, 19, 22, 13)] :: lwT) ({ frames := 7, cells := 1, slots := 6, locals := 160 } : Room) (vPre G lo [.ref x, .int v1, .int v2, .int v3, .ref o] V sz) (vPost G lo (fun r V' k => r = some (.int (thI (barR L v1 v2 v3))) ∧ ∃ f9 : Nat → Int64, V' o = some (eL (gL G) 1 f9) ∧ (thI (barR L v1 v2 v3) = 0 → f9 0 = (b2i (vaB (barR L v1 v2 v3))).toInt64) ∧ cS G V' x dy k Q B S L t n wr F PB ∧ (∀ a, a < sz → ¬ (x ≤ a ∧ a < x + 32) → a ≠ o → V' a = V a) ∧ sz ≤ k)) 1 6 (vL lo) := by
  refine vMetW (Rn := RLa) (by decide) rfl (Nat.le_of_ble_eq_true rfl) ?_
  intro pg ev s mi args below meth cd hx hb hr hml hlk htab hts hown hK hz hV ls hl
  have hl : lv_has ls 6 [(0, .ref x), (1, .int v1), (2, .int v2), (3, .int v3), (4, .ref o)] := hl
  have hV0 := hV
  obtain ⟨H, hH⟩ : ∃ H, H = s.heap := ⟨_, rfl⟩
  obtain ⟨locs, hlocs⟩ : ∃ locs : List Loc, locs = [] := ⟨_, rfl⟩
  rw [← hH, ← hlocs]
  rw [← hH] at hz
  replace hV : vS G.1 cls lo s H locs V := by rw [hH, hlocs]; exact hV
  clear hH hlocs hV0
  obtain ⟨⟨fs9, hx0⟩, hxd, hdz⟩ := hC.at
  have hn : [o].Nodup := by simp
  refine lv_aload hx hb d_La_barred_0 (lv_at hl 4 rfl) ?_
  refine lv_iconst (v := 0) hx hb d_La_barred_2 (by decide) ?_
  refine lv_aload_n hx hb d_La_barred_3 rfl (lv_at hl 0 rfl) ?_
  refine lv_iload_n hx hb d_La_barred_4 rfl (lv_at hl 1 rfl) ?_
  refine lv_iload_n hx hb d_La_barred_5 rfl (lv_at hl 2 rfl) ?_
  refine lv_iload_n hx hb d_La_barred_6 rfl (lv_at hl 3 rfl) ?_
  refine x_callV (As := [.int v1, .int v2, .int v3]) (rest := [.int 0, .ref o]) ⟨hx, hb, hml, hown, hts⟩ (k_SG_barred l hlT G lo hC v1 v2 v3) (kwV 3 hts w_co_SG_barred rfl rfl w_it_SG w_ml_La_35 w_im_SG_barred w_se_SG__SG_barred (by decide +kernel) ⟨(Nat.le_of_ble_eq_true rfl), (Nat.le_of_ble_eq_true rfl)⟩) (v_preV hK hV rfl hz hx0 rfl) rfl hl.1 rfl (Nat.le_of_ble_eq_true rfl) d_La_barred_7 ⟨(Nat.le_of_ble_eq_true rfl), (Nat.le_of_ble_eq_true rfl)⟩ hV (fun r9 V9 H locs hp hV hle => ?_) (fun q9 E9 ce9 V9 H locs hp hV hle hce hcv hcl => ?_)
  · obtain ⟨rfl, hth, hC9, hfr, hsz9⟩ := hp
    have ho9 : V9 o = some (eL (gL G) 1 f2) := (hfr o (by omega) (by omega)).trans ho
    replace hV : vS G.1 cls lo s H locs (vU V9 [(o, eL (gL G) 1 f2)]) := by rw [vU_all (W := V9) (ds := [(o, eL (gL G) 1 f2)]) (fun z hz => by rw [List.mem_singleton.mp hz]; exact ho9)]; exact hV
    refine W.eq (g2 := F0 mi 10 ls [.int (b2i (vaB (barR L v1 v2 v3))), .int 0, .ref o]) rfl ?_
    have hb8 : vaB (barR L v1 v2 v3) = false ∨ vaB (barR L v1 v2 v3) = true := by cases vaB (barR L v1 v2 v3) <;> simp
    rcases hb8 with hb9 | hb9
    · refine W.eq (g2 := F0 mi 10 ls [.int 0, .int 0, .ref o]) (by rw [hb9]; rfl) ?_
      refine lv_if_eq (tgt := 17) hx hb d_La_barred_10 (by decide) (fun _ => ?_) (fun c_1 => absurd c_1 (by decide))
      refine lv_lconst (v := 0) hx hb d_La_barred_17 (by decide) ?_
      refine u_lastN (j := 0) hx hb hK hV hn 0 rfl (by omega) (by decide) d_La_barred_18 (fun H2 locs hV hz9 => ?_)
      replace hV : vS G.1 cls lo s H2 locs (vU V9 [(o, eL (gL G) 1 (vp_updL f2 0 ((0 : Int64))))]) := hV
      refine lv_goto (tgt := 26) hx hb d_La_barred_19 (by decide) ?_
      refine lv_iconst (v := 0) hx hb d_La_barred_26 (by decide) ?_
      refine W.widen (k := 1) (n := 6) (by omega) (by omega) ?_
      have hf9 : (vp_updL f2 0 ((0 : Int64))) 0 = (b2i (vaB (barR L v1 v2 v3))).toInt64 := by simp [vp_updL, hb9, b2i]
      refine W.iret (v := 0) hx hb hr (v_end hV ⟨by rw [hth], _, vU_at (cs := [(o, eL (gL G) 1 (vp_updL f2 0 ((0 : Int64))))]) hn 0 rfl, fun _ => hf9, ?_, ?_, by rw [hz9]; exact hsz9⟩) hV.2.1.2.2 d_La_barred_27
      · rw [hz9]; exact cS.eq hC9 (fun a h1 h2 => vU_out V9 [(o, eL (gL G) 1 (vp_updL f2 0 ((0 : Int64))))] a (by simp; omega)) (fun a h1 _ => vU_out V9 [(o, eL (gL G) 1 (vp_updL f2 0 ((0 : Int64))))] a (by simp; omega))
      · exact fun a h1 h2 h3 => (vU_out V9 [(o, eL (gL G) 1 (vp_updL f2 0 ((0 : Int64))))] a (by simp; exact h3)).trans (hfr a h1 h2)
    · refine W.eq (g2 := F0 mi 10 ls [.int 1, .int 0, .ref o]) (by rw [hb9]; rfl) ?_
      refine lv_if_eq (tgt := 17) hx hb d_La_barred_10 (by decide) (fun c_2 => absurd c_2 (by decide)) (fun _ => ?_)
      refine lv_lconst (v := 1) hx hb d_La_barred_13 (by decide) ?_
      refine lv_goto (tgt := 18) hx hb d_La_barred_14 (by decide) ?_
      refine u_lastN (j := 0) hx hb hK hV hn 0 rfl (by omega) (by decide) d_La_barred_18 (fun H2 locs hV hz9 => ?_)
      replace hV : vS G.1 cls lo s H2 locs (vU V9 [(o, eL (gL G) 1 (vp_updL f2 0 ((1 : Int64))))]) := hV
      refine lv_goto (tgt := 26) hx hb d_La_barred_19 (by decide) ?_
      refine lv_iconst (v := 0) hx hb d_La_barred_26 (by decide) ?_
      refine W.widen (k := 1) (n := 6) (by omega) (by omega) ?_
      have hf9 : (vp_updL f2 0 ((1 : Int64))) 0 = (b2i (vaB (barR L v1 v2 v3))).toInt64 := by simp [vp_updL, hb9, b2i]
      refine W.iret (v := 0) hx hb hr (v_end hV ⟨by rw [hth], _, vU_at (cs := [(o, eL (gL G) 1 (vp_updL f2 0 ((1 : Int64))))]) hn 0 rfl, fun _ => hf9, ?_, ?_, by rw [hz9]; exact hsz9⟩) hV.2.1.2.2 d_La_barred_27
      · rw [hz9]; exact cS.eq hC9 (fun a h1 h2 => vU_out V9 [(o, eL (gL G) 1 (vp_updL f2 0 ((1 : Int64))))] a (by simp; omega)) (fun a h1 _ => vU_out V9 [(o, eL (gL G) 1 (vp_updL f2 0 ((1 : Int64))))] a (by simp; omega))
      · exact fun a h1 h2 h3 => (vU_out V9 [(o, eL (gL G) 1 (vp_updL f2 0 ((1 : Int64))))] a (by simp; exact h3)).trans (hfr a h1 h2)
  · obtain ⟨h1, hC9, hfr, hsz9⟩ := hp
    have ho9 : V9 o = some (eL (gL G) 1 f2) := (hfr o (by omega) (by omega)).trans ho
    obtain ⟨rfl, hth⟩ := h1
    refine x_catch1 (x := ⟨0, 19, 22, 13⟩) (nm := "java/lang/IndexOutOfBoundsException") rfl hown htab rfl (by decide) (hts _ w_cl_La_13) hce hcv hcl (hK.2.2.2.1 s (State.WarmedH.refl s) (fun _ _ _ => rfl) _ (List.mem_of_getElem? (i := 7) rfl) args) ?_
    refine W.eq (g2 := F0 mi 22 ls [.ref q9]) rfl ?_
    refine lv_astore (lv' := [(5, .ref q9), (0, .ref x), (1, .int v1), (2, .int v2), (3, .int v3), (4, .ref o)]) hx hb d_La_barred_22 hl (by decide) rfl (fun ls hl => ?_)
    refine lv_iconst (v := 1) hx hb d_La_barred_24 (by decide) ?_
    refine W.widen (k := 1) (n := 6) (by omega) (by omega) ?_
    exact W.iret (v := 1) hx hb hr (v_end hV ⟨by rw [hth], f2, ho9, fun h0 => absurd (hth.symm.trans h0) (by decide), hC9, fun a h1 h2 _ => hfr a h1 h2, hsz9⟩) hV.2.1.2.2 d_La_barred_25

set_option maxHeartbeats 4000000 in
set_option maxRecDepth 100000 in
/-- spot, as the law asks for it -/
theorem c_La_spot (l : Launch) (hlT : l.stackTraces = false) (G : Gx) (lo : Nat) {V : Vw} {x dy sz : Nat} {Q : Nat → Option PcR} {B S : Nat → Option (Nat × Nat)} {L : List Tri} {t : Nat → Nat} {n : Nat} {wr : Int32} {F : List Two} {PB : List Nat} {o : Nat} {f2 : Nat → Int64} (hC : cS G V x dy sz Q B S L t n wr F PB) (hox : o < x ∨ x + 32 ≤ o) (hod : o < dy) (ho : V o = some (eL (gL G) 1 f2)) (v1 v2 : Int32) : Met l y_La_spot (.codeWith y_La_spot b_La_spot 5 (some .int) [(0, 10, 13, 27)] :: lwT) ({ frames := 7, cells := 1, slots := 6, locals := 160 } : Room) (vPre G lo [.ref x, .int v1, .int v2, .ref o] V sz) (vPost G lo (fun r V' k => r = some (.int (thI (spoR (bsel v2 B S) v1))) ∧ ∃ f9 : Nat → Int64, V' o = some (eL (gL G) 1 f9) ∧ (thI (spoR (bsel v2 B S) v1) = 0 → f9 0 = (vaI (spoR (bsel v2 B S) v1)).toInt64) ∧ cS G V' x dy k Q B S L t n wr F PB ∧ (∀ a, a < sz → ¬ (x ≤ a ∧ a < x + 32) → a ≠ o → V' a = V a) ∧ sz ≤ k)) 1 6 (vL lo) := by
  refine vMetW (Rn := RLa) (by decide) rfl (Nat.le_of_ble_eq_true rfl) ?_
  intro pg ev s mi args below meth cd hx hb hr hml hlk htab hts hown hK hz hV ls hl
  have hl : lv_has ls 5 [(0, .ref x), (1, .int v1), (2, .int v2), (3, .ref o)] := hl
  have hV0 := hV
  obtain ⟨H, hH⟩ : ∃ H, H = s.heap := ⟨_, rfl⟩
  obtain ⟨locs, hlocs⟩ : ∃ locs : List Loc, locs = [] := ⟨_, rfl⟩
  rw [← hH, ← hlocs]
  rw [← hH] at hz
  replace hV : vS G.1 cls lo s H locs V := by rw [hH, hlocs]; exact hV
  clear hH hlocs hV0
  obtain ⟨⟨fs9, hx0⟩, hxd, hdz⟩ := hC.at
  have hn : [o].Nodup := by simp
  refine lv_aload_n hx hb d_La_spot_0 rfl (lv_at hl 3 rfl) ?_
  refine lv_iconst (v := 0) hx hb d_La_spot_1 (by decide) ?_
  refine lv_aload_n hx hb d_La_spot_2 rfl (lv_at hl 0 rfl) ?_
  refine lv_iload_n hx hb d_La_spot_3 rfl (lv_at hl 1 rfl) ?_
  refine lv_iload_n hx hb d_La_spot_4 rfl (lv_at hl 2 rfl) ?_
  refine x_callV (As := [.int v1, .int v2]) (rest := [.int 0, .ref o]) ⟨hx, hb, hml, hown, hts⟩ (k_SG_spot l hlT G lo hC v1 v2) (kwV 2 hts w_co_SG_spot rfl rfl w_it_SG w_ml_La_39 w_im_SG_spot w_se_SG__SG_spot (by decide +kernel) ⟨(Nat.le_of_ble_eq_true rfl), (Nat.le_of_ble_eq_true rfl)⟩) (v_preV hK hV rfl hz hx0 rfl) rfl hl.1 rfl (Nat.le_of_ble_eq_true rfl) d_La_spot_5 ⟨(Nat.le_of_ble_eq_true rfl), (Nat.le_of_ble_eq_true rfl)⟩ hV (fun r9 V9 H locs hp hV hle => ?_) (fun q9 E9 ce9 V9 H locs hp hV hle hce hcv hcl => ?_)
  · obtain ⟨rfl, hth, hC9, hfr, hsz9⟩ := hp
    have ho9 : V9 o = some (eL (gL G) 1 f2) := (hfr o (by omega) (by omega)).trans ho
    replace hV : vS G.1 cls lo s H locs (vU V9 [(o, eL (gL G) 1 f2)]) := by rw [vU_all (W := V9) (ds := [(o, eL (gL G) 1 f2)]) (fun z hz => by rw [List.mem_singleton.mp hz]; exact ho9)]; exact hV
    refine W.eq (g2 := F0 mi 8 ls [.int (vaI (spoR (bsel v2 B S) v1)), .int 0, .ref o]) rfl ?_
    refine lv_i2l (v := (vaI (spoR (bsel v2 B S) v1)).toInt64) hx hb d_La_spot_8 (rfl) ?_
    refine u_lastN (j := 0) hx hb hK hV hn 0 rfl (by omega) (by decide) d_La_spot_9 (fun H2 locs hV hz9 => ?_)
    replace hV : vS G.1 cls lo s H2 locs (vU V9 [(o, eL (gL G) 1 (vp_updL f2 0 ((vaI (spoR (bsel v2 B S) v1)).toInt64)))]) := hV
    refine lv_goto (tgt := 17) hx hb d_La_spot_10 (by decide) ?_
    refine lv_iconst (v := 0) hx hb d_La_spot_17 (by decide) ?_
    refine W.widen (k := 1) (n := 6) (by omega) (by omega) ?_
    have hf9 : (vp_updL f2 0 ((vaI (spoR (bsel v2 B S) v1)).toInt64)) 0 = (vaI (spoR (bsel v2 B S) v1)).toInt64 := by simp [vp_updL]
    refine W.iret (v := 0) hx hb hr (v_end hV ⟨by rw [hth], _, vU_at (cs := [(o, eL (gL G) 1 (vp_updL f2 0 ((vaI (spoR (bsel v2 B S) v1)).toInt64)))]) hn 0 rfl, fun _ => hf9, ?_, ?_, by rw [hz9]; exact hsz9⟩) hV.2.1.2.2 d_La_spot_18
    · rw [hz9]; exact cS.eq hC9 (fun a h1 h2 => vU_out V9 [(o, eL (gL G) 1 (vp_updL f2 0 ((vaI (spoR (bsel v2 B S) v1)).toInt64)))] a (by simp; omega)) (fun a h1 _ => vU_out V9 [(o, eL (gL G) 1 (vp_updL f2 0 ((vaI (spoR (bsel v2 B S) v1)).toInt64)))] a (by simp; omega))
    · exact fun a h1 h2 h3 => (vU_out V9 [(o, eL (gL G) 1 (vp_updL f2 0 ((vaI (spoR (bsel v2 B S) v1)).toInt64)))] a (by simp; exact h3)).trans (hfr a h1 h2)
  · obtain ⟨h1, hC9, hfr, hsz9⟩ := hp
    have ho9 : V9 o = some (eL (gL G) 1 f2) := (hfr o (by omega) (by omega)).trans ho
    obtain ⟨rfl, hth⟩ := h1
    refine x_catch1 (x := ⟨0, 10, 13, 27⟩) (nm := "java/lang/IllegalArgumentException") rfl hown htab rfl (by decide) (hts _ w_cl_La_27) hce hcv hcl (hK.2.2.2.1 s (State.WarmedH.refl s) (fun _ _ _ => rfl) _ (List.mem_of_getElem? (i := 10) rfl) args) ?_
    refine W.eq (g2 := F0 mi 13 ls [.ref q9]) rfl ?_
    refine lv_astore (lv' := [(4, .ref q9), (0, .ref x), (1, .int v1), (2, .int v2), (3, .ref o)]) hx hb d_La_spot_13 hl (by decide) rfl (fun ls hl => ?_)
    refine lv_iconst (v := 1) hx hb d_La_spot_15 (by decide) ?_
    refine W.widen (k := 1) (n := 6) (by omega) (by omega) ?_
    exact W.iret (v := 1) hx hb hr (v_end hV ⟨by rw [hth], f2, ho9, fun h0 => absurd (hth.symm.trans h0) (by decide), hC9, fun a h1 h2 _ => hfr a h1 h2, hsz9⟩) hV.2.1.2.2 d_La_spot_16

set_option maxHeartbeats 4000000 in
set_option maxRecDepth 100000 in
/-- along, as the law asks for it -/
theorem c_La_along (l : Launch) (hlT : l.stackTraces = false) (G : Gx) (lo : Nat) {V : Vw} {x dy sz : Nat} {Q : Nat → Option PcR} {B S : Nat → Option (Nat × Nat)} {L : List Tri} {t : Nat → Nat} {n : Nat} {wr : Int32} {F : List Two} {PB : List Nat} {o : Nat} {f2 : Nat → Int64} (hC : cS G V x dy sz Q B S L t n wr F PB) (hox : o < x ∨ x + 32 ≤ o) (hod : o < dy) (ho : V o = some (eL (gL G) 1 f2)) (v1 v2 : Int32) : Met l y_La_along (.codeWith y_La_along b_La_along 5 (some .int) [(0, 10, 13, 27)] :: lwT) ({ frames := 7, cells := 1, slots := 6, locals := 160 } : Room) (vPre G lo [.ref x, .int v1, .int v2, .ref o] V sz) (vPost G lo (fun r V' k => r = some (.int (thI (aloR (bsel v2 B S) v1))) ∧ ∃ f9 : Nat → Int64, V' o = some (eL (gL G) 1 f9) ∧ (thI (aloR (bsel v2 B S) v1) = 0 → f9 0 = (vaI (aloR (bsel v2 B S) v1)).toInt64) ∧ cS G V' x dy k Q B S L t n wr F PB ∧ (∀ a, a < sz → ¬ (x ≤ a ∧ a < x + 32) → a ≠ o → V' a = V a) ∧ sz ≤ k)) 1 6 (vL lo) := by
  refine vMetW (Rn := RLa) (by decide) rfl (Nat.le_of_ble_eq_true rfl) ?_
  intro pg ev s mi args below meth cd hx hb hr hml hlk htab hts hown hK hz hV ls hl
  have hl : lv_has ls 5 [(0, .ref x), (1, .int v1), (2, .int v2), (3, .ref o)] := hl
  have hV0 := hV
  obtain ⟨H, hH⟩ : ∃ H, H = s.heap := ⟨_, rfl⟩
  obtain ⟨locs, hlocs⟩ : ∃ locs : List Loc, locs = [] := ⟨_, rfl⟩
  rw [← hH, ← hlocs]
  rw [← hH] at hz
  replace hV : vS G.1 cls lo s H locs V := by rw [hH, hlocs]; exact hV
  clear hH hlocs hV0
  obtain ⟨⟨fs9, hx0⟩, hxd, hdz⟩ := hC.at
  have hn : [o].Nodup := by simp
  refine lv_aload_n hx hb d_La_along_0 rfl (lv_at hl 3 rfl) ?_
  refine lv_iconst (v := 0) hx hb d_La_along_1 (by decide) ?_
  refine lv_aload_n hx hb d_La_along_2 rfl (lv_at hl 0 rfl) ?_
  refine lv_iload_n hx hb d_La_along_3 rfl (lv_at hl 1 rfl) ?_
  refine lv_iload_n hx hb d_La_along_4 rfl (lv_at hl 2 rfl) ?_
  refine x_callV (As := [.int v1, .int v2]) (rest := [.int 0, .ref o]) ⟨hx, hb, hml, hown, hts⟩ (k_SG_along l hlT G lo hC v1 v2) (kwV 2 hts w_co_SG_along rfl rfl w_it_SG w_ml_La_43 w_im_SG_along w_se_SG__SG_along (by decide +kernel) ⟨(Nat.le_of_ble_eq_true rfl), (Nat.le_of_ble_eq_true rfl)⟩) (v_preV hK hV rfl hz hx0 rfl) rfl hl.1 rfl (Nat.le_of_ble_eq_true rfl) d_La_along_5 ⟨(Nat.le_of_ble_eq_true rfl), (Nat.le_of_ble_eq_true rfl)⟩ hV (fun r9 V9 H locs hp hV hle => ?_) (fun q9 E9 ce9 V9 H locs hp hV hle hce hcv hcl => ?_)
  · obtain ⟨rfl, hth, hC9, hfr, hsz9⟩ := hp
    have ho9 : V9 o = some (eL (gL G) 1 f2) := (hfr o (by omega) (by omega)).trans ho
    replace hV : vS G.1 cls lo s H locs (vU V9 [(o, eL (gL G) 1 f2)]) := by rw [vU_all (W := V9) (ds := [(o, eL (gL G) 1 f2)]) (fun z hz => by rw [List.mem_singleton.mp hz]; exact ho9)]; exact hV
    refine W.eq (g2 := F0 mi 8 ls [.int (vaI (aloR (bsel v2 B S) v1)), .int 0, .ref o]) rfl ?_
    refine lv_i2l (v := (vaI (aloR (bsel v2 B S) v1)).toInt64) hx hb d_La_along_8 (rfl) ?_
    refine u_lastN (j := 0) hx hb hK hV hn 0 rfl (by omega) (by decide) d_La_along_9 (fun H2 locs hV hz9 => ?_)
    replace hV : vS G.1 cls lo s H2 locs (vU V9 [(o, eL (gL G) 1 (vp_updL f2 0 ((vaI (aloR (bsel v2 B S) v1)).toInt64)))]) := hV
    refine lv_goto (tgt := 17) hx hb d_La_along_10 (by decide) ?_
    refine lv_iconst (v := 0) hx hb d_La_along_17 (by decide) ?_
    refine W.widen (k := 1) (n := 6) (by omega) (by omega) ?_
    have hf9 : (vp_updL f2 0 ((vaI (aloR (bsel v2 B S) v1)).toInt64)) 0 = (vaI (aloR (bsel v2 B S) v1)).toInt64 := by simp [vp_updL]
    refine W.iret (v := 0) hx hb hr (v_end hV ⟨by rw [hth], _, vU_at (cs := [(o, eL (gL G) 1 (vp_updL f2 0 ((vaI (aloR (bsel v2 B S) v1)).toInt64)))]) hn 0 rfl, fun _ => hf9, ?_, ?_, by rw [hz9]; exact hsz9⟩) hV.2.1.2.2 d_La_along_18
    · rw [hz9]; exact cS.eq hC9 (fun a h1 h2 => vU_out V9 [(o, eL (gL G) 1 (vp_updL f2 0 ((vaI (aloR (bsel v2 B S) v1)).toInt64)))] a (by simp; omega)) (fun a h1 _ => vU_out V9 [(o, eL (gL G) 1 (vp_updL f2 0 ((vaI (aloR (bsel v2 B S) v1)).toInt64)))] a (by simp; omega))
    · exact fun a h1 h2 h3 => (vU_out V9 [(o, eL (gL G) 1 (vp_updL f2 0 ((vaI (aloR (bsel v2 B S) v1)).toInt64)))] a (by simp; exact h3)).trans (hfr a h1 h2)
  · obtain ⟨h1, hC9, hfr, hsz9⟩ := hp
    have ho9 : V9 o = some (eL (gL G) 1 f2) := (hfr o (by omega) (by omega)).trans ho
    obtain ⟨rfl, hth⟩ := h1
    refine x_catch1 (x := ⟨0, 10, 13, 27⟩) (nm := "java/lang/IllegalArgumentException") rfl hown htab rfl (by decide) (hts _ w_cl_La_27) hce hcv hcl (hK.2.2.2.1 s (State.WarmedH.refl s) (fun _ _ _ => rfl) _ (List.mem_of_getElem? (i := 10) rfl) args) ?_
    refine W.eq (g2 := F0 mi 13 ls [.ref q9]) rfl ?_
    refine lv_astore (lv' := [(4, .ref q9), (0, .ref x), (1, .int v1), (2, .int v2), (3, .ref o)]) hx hb d_La_along_13 hl (by decide) rfl (fun ls hl => ?_)
    refine lv_iconst (v := 1) hx hb d_La_along_15 (by decide) ?_
    refine W.widen (k := 1) (n := 6) (by omega) (by omega) ?_
    exact W.iret (v := 1) hx hb hr (v_end hV ⟨by rw [hth], f2, ho9, fun h0 => absurd (hth.symm.trans h0) (by decide), hC9, fun a h1 h2 _ => hfr a h1 h2, hsz9⟩) hV.2.1.2.2 d_La_along_16

set_option maxHeartbeats 4000000 in
set_option maxRecDepth 100000 in
/-- at, as the law asks for it -/
theorem c_La_at (l : Launch) (hlT : l.stackTraces = false) (G : Gx) (lo : Nat) {V : Vw} {x dy sz : Nat} {Q : Nat → Option PcR} {B S : Nat → Option (Nat × Nat)} {L : List Tri} {t : Nat → Nat} {n : Nat} {wr : Int32} {F : List Two} {PB : List Nat} {o : Nat} {f2 : Nat → Int64} (hC : cS G V x dy sz Q B S L t n wr F PB) (hox : o < x ∨ x + 32 ≤ o) (hod : o < dy) (ho : V o = some (eL (gL G) 1 f2)) (v1 : Int32) : Met l y_La_at (.codeWith y_La_at b_La_at 4 (some .int) [(0, 9, 12, 13)] :: lwT) ({ frames := 7, cells := 1, slots := 6, locals := 160 } : Room) (vPre G lo [.ref x, .int v1, .ref o] V sz) (vPost G lo (fun r V' k => r = some (.int (thI (atR PB v1))) ∧ ∃ f9 : Nat → Int64, V' o = some (eL (gL G) 1 f9) ∧ (thI (atR PB v1) = 0 → f9 0 = (vaI (atR PB v1)).toInt64) ∧ cS G V' x dy k Q B S L t n wr F PB ∧ (∀ a, a < sz → ¬ (x ≤ a ∧ a < x + 32) → a ≠ o → V' a = V a) ∧ sz ≤ k)) 1 6 (vL lo) := by
  refine vMetW (Rn := RLa) (by decide) rfl (Nat.le_of_ble_eq_true rfl) ?_
  intro pg ev s mi args below meth cd hx hb hr hml hlk htab hts hown hK hz hV ls hl
  have hl : lv_has ls 4 [(0, .ref x), (1, .int v1), (2, .ref o)] := hl
  have hV0 := hV
  obtain ⟨H, hH⟩ : ∃ H, H = s.heap := ⟨_, rfl⟩
  obtain ⟨locs, hlocs⟩ : ∃ locs : List Loc, locs = [] := ⟨_, rfl⟩
  rw [← hH, ← hlocs]
  rw [← hH] at hz
  replace hV : vS G.1 cls lo s H locs V := by rw [hH, hlocs]; exact hV
  clear hH hlocs hV0
  obtain ⟨⟨fs9, hx0⟩, hxd, hdz⟩ := hC.at
  have hn : [o].Nodup := by simp
  refine lv_aload_n hx hb d_La_at_0 rfl (lv_at hl 2 rfl) ?_
  refine lv_iconst (v := 0) hx hb d_La_at_1 (by decide) ?_
  refine lv_aload_n hx hb d_La_at_2 rfl (lv_at hl 0 rfl) ?_
  refine lv_iload_n hx hb d_La_at_3 rfl (lv_at hl 1 rfl) ?_
  refine x_callV (As := [.int v1]) (rest := [.int 0, .ref o]) ⟨hx, hb, hml, hown, hts⟩ (k_SG_at l hlT G lo hC v1) (kwV 1 hts w_co_SG_at rfl rfl w_it_SG w_ml_La_49 w_im_SG_at w_se_SG__SG_at (by decide +kernel) ⟨(Nat.le_of_ble_eq_true rfl), (Nat.le_of_ble_eq_true rfl)⟩) (v_preV hK hV rfl hz hx0 rfl) rfl hl.1 rfl (Nat.le_of_ble_eq_true rfl) d_La_at_4 ⟨(Nat.le_of_ble_eq_true rfl), (Nat.le_of_ble_eq_true rfl)⟩ hV (fun r9 V9 H locs hp hV hle => ?_) (fun q9 E9 ce9 V9 H locs hp hV hle hce hcv hcl => ?_)
  · obtain ⟨rfl, hth, hC9, hfr, hsz9⟩ := hp
    have ho9 : V9 o = some (eL (gL G) 1 f2) := (hfr o (by omega) (by omega)).trans ho
    replace hV : vS G.1 cls lo s H locs (vU V9 [(o, eL (gL G) 1 f2)]) := by rw [vU_all (W := V9) (ds := [(o, eL (gL G) 1 f2)]) (fun z hz => by rw [List.mem_singleton.mp hz]; exact ho9)]; exact hV
    refine W.eq (g2 := F0 mi 7 ls [.int (vaI (atR PB v1)), .int 0, .ref o]) rfl ?_
    refine lv_i2l (v := (vaI (atR PB v1)).toInt64) hx hb d_La_at_7 (rfl) ?_
    refine u_lastN (j := 0) hx hb hK hV hn 0 rfl (by omega) (by decide) d_La_at_8 (fun H2 locs hV hz9 => ?_)
    replace hV : vS G.1 cls lo s H2 locs (vU V9 [(o, eL (gL G) 1 (vp_updL f2 0 ((vaI (atR PB v1)).toInt64)))]) := hV
    refine lv_goto (tgt := 15) hx hb d_La_at_9 (by decide) ?_
    refine lv_iconst (v := 0) hx hb d_La_at_15 (by decide) ?_
    refine W.widen (k := 1) (n := 6) (by omega) (by omega) ?_
    have hf9 : (vp_updL f2 0 ((vaI (atR PB v1)).toInt64)) 0 = (vaI (atR PB v1)).toInt64 := by simp [vp_updL]
    refine W.iret (v := 0) hx hb hr (v_end hV ⟨by rw [hth], _, vU_at (cs := [(o, eL (gL G) 1 (vp_updL f2 0 ((vaI (atR PB v1)).toInt64)))]) hn 0 rfl, fun _ => hf9, ?_, ?_, by rw [hz9]; exact hsz9⟩) hV.2.1.2.2 d_La_at_16
    · rw [hz9]; exact cS.eq hC9 (fun a h1 h2 => vU_out V9 [(o, eL (gL G) 1 (vp_updL f2 0 ((vaI (atR PB v1)).toInt64)))] a (by simp; omega)) (fun a h1 _ => vU_out V9 [(o, eL (gL G) 1 (vp_updL f2 0 ((vaI (atR PB v1)).toInt64)))] a (by simp; omega))
    · exact fun a h1 h2 h3 => (vU_out V9 [(o, eL (gL G) 1 (vp_updL f2 0 ((vaI (atR PB v1)).toInt64)))] a (by simp; exact h3)).trans (hfr a h1 h2)
  · obtain ⟨h1, hC9, hfr, hsz9⟩ := hp
    have ho9 : V9 o = some (eL (gL G) 1 f2) := (hfr o (by omega) (by omega)).trans ho
    obtain ⟨rfl, hth⟩ := h1
    refine x_catch1 (x := ⟨0, 9, 12, 13⟩) (nm := "java/lang/IndexOutOfBoundsException") rfl hown htab rfl (by decide) (hts _ w_cl_La_13) hce hcv hcl (hK.2.2.2.1 s (State.WarmedH.refl s) (fun _ _ _ => rfl) _ (List.mem_of_getElem? (i := 7) rfl) args) ?_
    refine W.eq (g2 := F0 mi 12 ls [.ref q9]) rfl ?_
    refine lv_astore_n (lv' := [(3, .ref q9), (0, .ref x), (1, .int v1), (2, .ref o)]) hx hb d_La_at_12 rfl hl (by decide) rfl (fun ls hl => ?_)
    refine lv_iconst (v := 1) hx hb d_La_at_13 (by decide) ?_
    refine W.widen (k := 1) (n := 6) (by omega) (by omega) ?_
    exact W.iret (v := 1) hx hb hr (v_end hV ⟨by rw [hth], f2, ho9, fun h0 => absurd (hth.symm.trans h0) (by decide), hC9, fun a h1 h2 _ => hfr a h1 h2, hsz9⟩) hV.2.1.2.2 d_La_at_14

set_option maxHeartbeats 4000000 in
set_option maxRecDepth 100000 in
/-- count, as the law asks for it -/
theorem c_La_count (l : Launch) (hlT : l.stackTraces = false) (G : Gx) (lo : Nat) {V : Vw} {x dy sz : Nat} {Q : Nat → Option PcR} {B S : Nat → Option (Nat × Nat)} {L : List Tri} {t : Nat → Nat} {n : Nat} {wr : Int32} {F : List Two} {PB : List Nat} {o : Nat} {f2 : Nat → Int64} (hC : cS G V x dy sz Q B S L t n wr F PB) (hox : o < x ∨ x + 32 ≤ o) (hod : o < dy) (ho : V o = some (eL (gL G) 1 f2)) (v1 : Int32) : Met l y_La_count (.codeWith y_La_count b_La_count 4 (some .int) [(0, 9, 12, 13)] :: lwT) ({ frames := 7, cells := 1, slots := 6, locals := 160 } : Room) (vPre G lo [.ref x, .int v1, .ref o] V sz) (vPost G lo (fun r V' k => r = some (.int (thI (couR (Q, B, S, L) v1))) ∧ ∃ f9 : Nat → Int64, V' o = some (eL (gL G) 1 f9) ∧ (thI (couR (Q, B, S, L) v1) = 0 → f9 0 = (vaI (couR (Q, B, S, L) v1)).toInt64) ∧ cS G V' x dy k Q B S L t n wr F PB ∧ (∀ a, a < sz → ¬ (x ≤ a ∧ a < x + 32) → a ≠ o → V' a = V a) ∧ sz ≤ k)) 1 6 (vL lo) := by
  refine vMetW (Rn := RLa) (by decide) rfl (Nat.le_of_ble_eq_true rfl) ?_
  intro pg ev s mi args below meth cd hx hb hr hml hlk htab hts hown hK hz hV ls hl
  have hl : lv_has ls 4 [(0, .ref x), (1, .int v1), (2, .ref o)] := hl
  have hV0 := hV
  obtain ⟨H, hH⟩ : ∃ H, H = s.heap := ⟨_, rfl⟩
  obtain ⟨locs, hlocs⟩ : ∃ locs : List Loc, locs = [] := ⟨_, rfl⟩
  rw [← hH, ← hlocs]
  rw [← hH] at hz
  replace hV : vS G.1 cls lo s H locs V := by rw [hH, hlocs]; exact hV
  clear hH hlocs hV0
  obtain ⟨⟨fs9, hx0⟩, hxd, hdz⟩ := hC.at
  have hn : [o].Nodup := by simp
  refine lv_aload_n hx hb d_La_count_0 rfl (lv_at hl 2 rfl) ?_
  refine lv_iconst (v := 0) hx hb d_La_count_1 (by decide) ?_
  refine lv_aload_n hx hb d_La_count_2 rfl (lv_at hl 0 rfl) ?_
  refine lv_iload_n hx hb d_La_count_3 rfl (lv_at hl 1 rfl) ?_
  refine x_callV (As := [.int v1]) (rest := [.int 0, .ref o]) ⟨hx, hb, hml, hown, hts⟩ (k_SG_count l hlT G lo hC v1) (kwV 1 hts w_co_SG_count rfl rfl w_it_SG w_ml_La_53 w_im_SG_count w_se_SG__SG_count (by decide +kernel) ⟨(Nat.le_of_ble_eq_true rfl), (Nat.le_of_ble_eq_true rfl)⟩) (v_preV hK hV rfl hz hx0 rfl) rfl hl.1 rfl (Nat.le_of_ble_eq_true rfl) d_La_count_4 ⟨(Nat.le_of_ble_eq_true rfl), (Nat.le_of_ble_eq_true rfl)⟩ hV (fun r9 V9 H locs hp hV hle => ?_) (fun q9 E9 ce9 V9 H locs hp hV hle hce hcv hcl => ?_)
  · obtain ⟨rfl, hth, hC9, hfr, hsz9⟩ := hp
    have ho9 : V9 o = some (eL (gL G) 1 f2) := (hfr o (by omega) (by omega)).trans ho
    replace hV : vS G.1 cls lo s H locs (vU V9 [(o, eL (gL G) 1 f2)]) := by rw [vU_all (W := V9) (ds := [(o, eL (gL G) 1 f2)]) (fun z hz => by rw [List.mem_singleton.mp hz]; exact ho9)]; exact hV
    refine W.eq (g2 := F0 mi 7 ls [.int (vaI (couR (Q, B, S, L) v1)), .int 0, .ref o]) rfl ?_
    refine lv_i2l (v := (vaI (couR (Q, B, S, L) v1)).toInt64) hx hb d_La_count_7 (rfl) ?_
    refine u_lastN (j := 0) hx hb hK hV hn 0 rfl (by omega) (by decide) d_La_count_8 (fun H2 locs hV hz9 => ?_)
    replace hV : vS G.1 cls lo s H2 locs (vU V9 [(o, eL (gL G) 1 (vp_updL f2 0 ((vaI (couR (Q, B, S, L) v1)).toInt64)))]) := hV
    refine lv_goto (tgt := 15) hx hb d_La_count_9 (by decide) ?_
    refine lv_iconst (v := 0) hx hb d_La_count_15 (by decide) ?_
    refine W.widen (k := 1) (n := 6) (by omega) (by omega) ?_
    have hf9 : (vp_updL f2 0 ((vaI (couR (Q, B, S, L) v1)).toInt64)) 0 = (vaI (couR (Q, B, S, L) v1)).toInt64 := by simp [vp_updL]
    refine W.iret (v := 0) hx hb hr (v_end hV ⟨by rw [hth], _, vU_at (cs := [(o, eL (gL G) 1 (vp_updL f2 0 ((vaI (couR (Q, B, S, L) v1)).toInt64)))]) hn 0 rfl, fun _ => hf9, ?_, ?_, by rw [hz9]; exact hsz9⟩) hV.2.1.2.2 d_La_count_16
    · rw [hz9]; exact cS.eq hC9 (fun a h1 h2 => vU_out V9 [(o, eL (gL G) 1 (vp_updL f2 0 ((vaI (couR (Q, B, S, L) v1)).toInt64)))] a (by simp; omega)) (fun a h1 _ => vU_out V9 [(o, eL (gL G) 1 (vp_updL f2 0 ((vaI (couR (Q, B, S, L) v1)).toInt64)))] a (by simp; omega))
    · exact fun a h1 h2 h3 => (vU_out V9 [(o, eL (gL G) 1 (vp_updL f2 0 ((vaI (couR (Q, B, S, L) v1)).toInt64)))] a (by simp; exact h3)).trans (hfr a h1 h2)
  · obtain ⟨h1, hC9, hfr, hsz9⟩ := hp
    have ho9 : V9 o = some (eL (gL G) 1 f2) := (hfr o (by omega) (by omega)).trans ho
    obtain ⟨rfl, hth⟩ := h1
    refine x_catch1 (x := ⟨0, 9, 12, 13⟩) (nm := "java/lang/IndexOutOfBoundsException") rfl hown htab rfl (by decide) (hts _ w_cl_La_13) hce hcv hcl (hK.2.2.2.1 s (State.WarmedH.refl s) (fun _ _ _ => rfl) _ (List.mem_of_getElem? (i := 7) rfl) args) ?_
    refine W.eq (g2 := F0 mi 12 ls [.ref q9]) rfl ?_
    refine lv_astore_n (lv' := [(3, .ref q9), (0, .ref x), (1, .int v1), (2, .ref o)]) hx hb d_La_count_12 rfl hl (by decide) rfl (fun ls hl => ?_)
    refine lv_iconst (v := 1) hx hb d_La_count_13 (by decide) ?_
    refine W.widen (k := 1) (n := 6) (by omega) (by omega) ?_
    exact W.iret (v := 1) hx hb hr (v_end hV ⟨by rw [hth], f2, ho9, fun h0 => absurd (hth.symm.trans h0) (by decide), hC9, fun a h1 h2 _ => hfr a h1 h2, hsz9⟩) hV.2.1.2.2 d_La_count_14

set_option maxHeartbeats 4000000 in
set_option maxRecDepth 100000 in
/-- sign, as the law asks for it -/
theorem c_La_sign (l : Launch) (hlT : l.stackTraces = false) (G : Gx) (lo : Nat) {V : Vw} {x dy sz : Nat} {Q : Nat → Option PcR} {B S : Nat → Option (Nat × Nat)} {L : List Tri} {t : Nat → Nat} {n : Nat} {wr : Int32} {F : List Two} {PB : List Nat} {o : Nat} {f2 : Nat → Int64} (hC : cS G V x dy sz Q B S L t n wr F PB) (hox : o < x ∨ x + 32 ≤ o) (hod : o < dy) (ho : V o = some (eL (gL G) 1 f2)) (v1 : Int64) (v2 : Int32) : Met l y_La_sign (.codeWith y_La_sign b_La_sign 6 (some .int) [(0, 11, 14, 13), (0, 11, 18, 15)] :: lwT) ({ frames := 7, cells := 1, slots := 6, locals := 160 } : Room) (vPre G lo [.ref x, .long v1, .int v2, .ref o] V sz) (vPost G lo (fun r V' k => r = some (.int (thI (sgnR n v2))) ∧ ∃ f9 : Nat → Int64, V' o = some (eL (gL G) 1 f9) ∧ (thI (sgnR n v2) = 0 → f9 0 = (vaS (sgnR n v2)).toInt64) ∧ cS G V' x dy k Q B S L (tpT v1 t n (sgnR n v2)) (tpS n (sgnR n v2)) wr F PB ∧ (∀ a, a < sz → ¬ (x ≤ a ∧ a < x + 32) → a ≠ o → V' a = V a) ∧ sz ≤ k)) 1 6 (vL lo) := by
  refine vMetW (Rn := RLa) (by decide) rfl (Nat.le_of_ble_eq_true rfl) ?_
  intro pg ev s mi args below meth cd hx hb hr hml hlk htab hts hown hK hz hV ls hl
  have hl : lv_has ls 6 [(0, .ref x), (1, .long v1), (3, .int v2), (4, .ref o)] := hl
  have hV0 := hV
  obtain ⟨H, hH⟩ : ∃ H, H = s.heap := ⟨_, rfl⟩
  obtain ⟨locs, hlocs⟩ : ∃ locs : List Loc, locs = [] := ⟨_, rfl⟩
  rw [← hH, ← hlocs]
  rw [← hH] at hz
  replace hV : vS G.1 cls lo s H locs V := by rw [hH, hlocs]; exact hV
  clear hH hlocs hV0
  obtain ⟨⟨fs9, hx0⟩, hxd, hdz⟩ := hC.at
  have hn : [o].Nodup := by simp
  refine lv_aload hx hb d_La_sign_0 (lv_at hl 3 rfl) ?_
  refine lv_iconst (v := 0) hx hb d_La_sign_2 (by decide) ?_
  refine lv_aload_n hx hb d_La_sign_3 rfl (lv_at hl 0 rfl) ?_
  refine lv_lload_n hx hb d_La_sign_4 rfl (lv_at hl 1 rfl) ?_
  refine lv_iload_n hx hb d_La_sign_5 rfl (lv_at hl 2 rfl) ?_
  refine x_callV (As := [.long v1, .int v2]) (rest := [.int 0, .ref o]) ⟨hx, hb, hml, hown, hts⟩ (k_SG_sign l hlT G lo hC v1 v2) (kwV 2 hts w_co_SG_sign rfl rfl w_it_SG w_ml_La_7 w_im_SG_sign w_se_SG__SG_sign (by decide +kernel) ⟨(Nat.le_of_ble_eq_true rfl), (Nat.le_of_ble_eq_true rfl)⟩) (v_preV hK hV rfl hz hx0 rfl) rfl hl.1 rfl (Nat.le_of_ble_eq_true rfl) d_La_sign_6 ⟨(Nat.le_of_ble_eq_true rfl), (Nat.le_of_ble_eq_true rfl)⟩ hV (fun r9 V9 H locs hp hV hle => ?_) (fun q9 E9 ce9 V9 H locs hp hV hle hce hcv hcl => ?_)
  · obtain ⟨rfl, hth, hC9, hfr, hsz9⟩ := hp
    have ho9 : V9 o = some (eL (gL G) 1 f2) := (hfr o (by omega) (by omega)).trans ho
    replace hV : vS G.1 cls lo s H locs (vU V9 [(o, eL (gL G) 1 f2)]) := by rw [vU_all (W := V9) (ds := [(o, eL (gL G) 1 f2)]) (fun z hz => by rw [List.mem_singleton.mp hz]; exact ho9)]; exact hV
    refine W.eq (g2 := F0 mi 9 ls [.int (vaS (sgnR n v2)), .int 0, .ref o]) rfl ?_
    refine lv_i2l (v := (vaS (sgnR n v2)).toInt64) hx hb d_La_sign_9 (rfl) ?_
    refine u_lastN (j := 0) hx hb hK hV hn 0 rfl (by omega) (by decide) d_La_sign_10 (fun H2 locs hV hz9 => ?_)
    replace hV : vS G.1 cls lo s H2 locs (vU V9 [(o, eL (gL G) 1 (vp_updL f2 0 ((vaS (sgnR n v2)).toInt64)))]) := hV
    refine lv_goto (tgt := 22) hx hb d_La_sign_11 (by decide) ?_
    refine lv_iconst (v := 0) hx hb d_La_sign_22 (by decide) ?_
    refine W.widen (k := 1) (n := 6) (by omega) (by omega) ?_
    have hf9 : (vp_updL f2 0 ((vaS (sgnR n v2)).toInt64)) 0 = (vaS (sgnR n v2)).toInt64 := by simp [vp_updL]
    refine W.iret (v := 0) hx hb hr (v_end hV ⟨by rw [hth], _, vU_at (cs := [(o, eL (gL G) 1 (vp_updL f2 0 ((vaS (sgnR n v2)).toInt64)))]) hn 0 rfl, fun _ => hf9, ?_, ?_, by rw [hz9]; exact hsz9⟩) hV.2.1.2.2 d_La_sign_23
    · rw [hz9]; exact cS.eq hC9 (fun a h1 h2 => vU_out V9 [(o, eL (gL G) 1 (vp_updL f2 0 ((vaS (sgnR n v2)).toInt64)))] a (by simp; omega)) (fun a h1 _ => vU_out V9 [(o, eL (gL G) 1 (vp_updL f2 0 ((vaS (sgnR n v2)).toInt64)))] a (by simp; omega))
    · exact fun a h1 h2 h3 => (vU_out V9 [(o, eL (gL G) 1 (vp_updL f2 0 ((vaS (sgnR n v2)).toInt64)))] a (by simp; exact h3)).trans (hfr a h1 h2)
  · obtain ⟨h1, hC9, hfr, hsz9⟩ := hp
    have ho9 : V9 o = some (eL (gL G) 1 f2) := (hfr o (by omega) (by omega)).trans ho
    rcases h1 with ⟨rfl, hth⟩ | ⟨rfl, hth⟩
    · refine x_catch1 (x := ⟨0, 11, 14, 13⟩) (nm := "java/lang/IndexOutOfBoundsException") rfl hown htab rfl (by decide) (hts _ w_cl_La_13) hce hcv hcl (hK.2.2.2.1 s (State.WarmedH.refl s) (fun _ _ _ => rfl) _ (List.mem_of_getElem? (i := 7) rfl) args) ?_
      refine W.eq (g2 := F0 mi 14 ls [.ref q9]) rfl ?_
      refine lv_astore (lv' := [(5, .ref q9), (0, .ref x), (1, .long v1), (3, .int v2), (4, .ref o)]) hx hb d_La_sign_14 hl (by decide) rfl (fun ls hl => ?_)
      refine lv_iconst (v := 1) hx hb d_La_sign_16 (by decide) ?_
      refine W.widen (k := 1) (n := 6) (by omega) (by omega) ?_
      exact W.iret (v := 1) hx hb hr (v_end hV ⟨by rw [hth], f2, ho9, fun h0 => absurd (hth.symm.trans h0) (by decide), hC9, fun a h1 h2 _ => hfr a h1 h2, hsz9⟩) hV.2.1.2.2 d_La_sign_17
    · refine x_catch2 (x := ⟨0, 11, 14, 13⟩) (x2 := ⟨0, 11, 18, 15⟩) (nm := "java/lang/IndexOutOfBoundsException") (nm2 := "java/lang/UnsupportedOperationException") rfl hown htab rfl (by decide) rfl (by decide) (hts _ w_cl_La_13) (hts _ w_cl_La_15) hce hcv hcl (hK.2.2.2.1 s (State.WarmedH.refl s) (fun _ _ _ => rfl) _ (List.mem_of_getElem? (i := 11) rfl) args) (hK.2.2.2.1 s (State.WarmedH.refl s) (fun _ _ _ => rfl) _ (List.mem_of_getElem? (i := 8) rfl) args) ?_
      refine W.eq (g2 := F0 mi 18 ls [.ref q9]) rfl ?_
      refine lv_astore (lv' := [(5, .ref q9), (0, .ref x), (1, .long v1), (3, .int v2), (4, .ref o)]) hx hb d_La_sign_18 hl (by decide) rfl (fun ls hl => ?_)
      refine lv_iconst (v := 2) hx hb d_La_sign_20 (by decide) ?_
      refine W.widen (k := 1) (n := 6) (by omega) (by omega) ?_
      exact W.iret (v := 2) hx hb hr (v_end hV ⟨by rw [hth], f2, ho9, fun h0 => absurd (hth.symm.trans h0) (by decide), hC9, fun a h1 h2 _ => hfr a h1 h2, hsz9⟩) hV.2.1.2.2 d_La_sign_21

set_option maxHeartbeats 4000000 in
set_option maxRecDepth 100000 in
/-- read, as the law asks for it -/
theorem c_La_read (l : Launch) (hlT : l.stackTraces = false) (G : Gx) (lo : Nat) {V : Vw} {x dy sz : Nat} {Q : Nat → Option PcR} {B S : Nat → Option (Nat × Nat)} {L : List Tri} {t : Nat → Nat} {n : Nat} {wr : Int32} {F : List Two} {PB : List Nat} {o : Nat} {f2 : Nat → Int64} (hC : cS G V x dy sz Q B S L t n wr F PB) (hox : o < x ∨ x + 32 ≤ o) (hod : o < dy) (ho : V o = some (eL (gL G) 1 f2))  : Met l y_La_read (.codeWith y_La_read b_La_read 3 (some .int) [(0, 8, 11, 21), (0, 8, 14, 15)] :: lwT) ({ frames := 10, cells := 4 * n + 1, slots := 24 * n + 6, locals := 300 } : Room) (vPre G lo [.ref x, .ref o] V sz) (vPost G lo (fun r V' k => r = some (.int (thI (rdR t n (Q, B, S, L)))) ∧ ∃ f9 : Nat → Int64, V' o = some (eL (gL G) 1 f9) ∧ (thI (rdR t n (Q, B, S, L)) = 0 → f9 0 = (vaT (rdR t n (Q, B, S, L))).toInt64) ∧ cS G V' x dy k (rdA (Q, B, S, L) (rdR t n (Q, B, S, L))).1 (rdA (Q, B, S, L) (rdR t n (Q, B, S, L))).2.1 (rdA (Q, B, S, L) (rdR t n (Q, B, S, L))).2.2.1 (rdA (Q, B, S, L) (rdR t n (Q, B, S, L))).2.2.2 t 0 (wI (txtR t n (Q, B, S, L))) F PB ∧ (∀ a, a < sz → ¬ (x ≤ a ∧ a < x + 32) → a ≠ o → V' a = V a) ∧ sz ≤ k)) (4 * n + 1) (24 * n + 6) (vL lo) := by
  refine vMetW (Rn := RLa) (by decide) rfl (Nat.le_of_ble_eq_true rfl) ?_
  intro pg ev s mi args below meth cd hx hb hr hml hlk htab hts hown hK hz hV ls hl
  have hl : lv_has ls 3 [(0, .ref x), (1, .ref o)] := hl
  have hV0 := hV
  obtain ⟨H, hH⟩ : ∃ H, H = s.heap := ⟨_, rfl⟩
  obtain ⟨locs, hlocs⟩ : ∃ locs : List Loc, locs = [] := ⟨_, rfl⟩
  rw [← hH, ← hlocs]
  rw [← hH] at hz
  replace hV : vS G.1 cls lo s H locs V := by rw [hH, hlocs]; exact hV
  clear hH hlocs hV0
  obtain ⟨⟨fs9, hx0⟩, hxd, hdz⟩ := hC.at
  have hn : [o].Nodup := by simp
  refine lv_aload_n hx hb d_La_read_0 rfl (lv_at hl 1 rfl) ?_
  refine lv_iconst (v := 0) hx hb d_La_read_1 (by decide) ?_
  refine lv_aload_n hx hb d_La_read_2 rfl (lv_at hl 0 rfl) ?_
  refine x_callV (As := []) (rest := [.int 0, .ref o]) ⟨hx, hb, hml, hown, hts⟩ (k_SG_read l hlT G lo hC ) (kwV 0 hts w_co_SG_read rfl rfl w_it_SG w_ml_La_17 w_im_SG_read w_se_SG__SG_read (by decide +kernel) ⟨(Nat.le_of_ble_eq_true rfl), (Nat.le_of_ble_eq_true rfl)⟩) (v_preV hK hV rfl hz hx0 rfl) rfl hl.1 rfl (Nat.le_of_ble_eq_true rfl) d_La_read_3 ⟨by simp, by simp⟩ hV (fun r9 V9 H locs hp hV hle => ?_) (fun q9 E9 ce9 V9 H locs hp hV hle hce hcv hcl => ?_)
  · obtain ⟨rfl, hth, hC9, hfr, hsz9⟩ := hp
    have ho9 : V9 o = some (eL (gL G) 1 f2) := (hfr o (by omega) (by omega)).trans ho
    replace hV : vS G.1 cls lo s H locs (vU V9 [(o, eL (gL G) 1 f2)]) := by rw [vU_all (W := V9) (ds := [(o, eL (gL G) 1 f2)]) (fun z hz => by rw [List.mem_singleton.mp hz]; exact ho9)]; exact hV
    refine W.eq (g2 := F0 mi 6 ls [.int (vaT (rdR t n (Q, B, S, L))), .int 0, .ref o]) rfl ?_
    refine lv_i2l (v := (vaT (rdR t n (Q, B, S, L))).toInt64) hx hb d_La_read_6 (rfl) ?_
    refine u_lastN (j := 0) hx hb hK hV hn 0 rfl (by omega) (by decide) d_La_read_7 (fun H2 locs hV hz9 => ?_)
    replace hV : vS G.1 cls lo s H2 locs (vU V9 [(o, eL (gL G) 1 (vp_updL f2 0 ((vaT (rdR t n (Q, B, S, L))).toInt64)))]) := hV
    refine lv_goto (tgt := 17) hx hb d_La_read_8 (by decide) ?_
    refine lv_iconst (v := 0) hx hb d_La_read_17 (by decide) ?_
    refine W.widen (k := (4 * n + 1)) (n := (24 * n + 6)) (by omega) (by omega) ?_
    have hf9 : (vp_updL f2 0 ((vaT (rdR t n (Q, B, S, L))).toInt64)) 0 = (vaT (rdR t n (Q, B, S, L))).toInt64 := by simp [vp_updL]
    refine W.iret (v := 0) hx hb hr (v_end hV ⟨by rw [hth], _, vU_at (cs := [(o, eL (gL G) 1 (vp_updL f2 0 ((vaT (rdR t n (Q, B, S, L))).toInt64)))]) hn 0 rfl, fun _ => hf9, ?_, ?_, by rw [hz9]; exact hsz9⟩) hV.2.1.2.2 d_La_read_18
    · rw [hz9]; exact cS.eq hC9 (fun a h1 h2 => vU_out V9 [(o, eL (gL G) 1 (vp_updL f2 0 ((vaT (rdR t n (Q, B, S, L))).toInt64)))] a (by simp; omega)) (fun a h1 _ => vU_out V9 [(o, eL (gL G) 1 (vp_updL f2 0 ((vaT (rdR t n (Q, B, S, L))).toInt64)))] a (by simp; omega))
    · exact fun a h1 h2 h3 => (vU_out V9 [(o, eL (gL G) 1 (vp_updL f2 0 ((vaT (rdR t n (Q, B, S, L))).toInt64)))] a (by simp; exact h3)).trans (hfr a h1 h2)
  · obtain ⟨h1, hC9, hfr, hsz9⟩ := hp
    have ho9 : V9 o = some (eL (gL G) 1 f2) := (hfr o (by omega) (by omega)).trans ho
    rcases h1 with ⟨rfl, hth⟩ | ⟨rfl, hth⟩
    · refine x_catch1 (x := ⟨0, 8, 11, 21⟩) (nm := "java/lang/IllegalStateException") rfl hown htab rfl (by decide) (hts _ w_cl_La_21) hce hcv hcl (hK.2.2.2.1 s (State.WarmedH.refl s) (fun _ _ _ => rfl) _ (List.mem_of_getElem? (i := 9) rfl) args) ?_
      refine W.eq (g2 := F0 mi 11 ls [.ref q9]) rfl ?_
      refine lv_astore_n (lv' := [(2, .ref q9), (0, .ref x), (1, .ref o)]) hx hb d_La_read_11 rfl hl (by decide) rfl (fun ls hl => ?_)
      refine lv_iconst (v := 1) hx hb d_La_read_12 (by decide) ?_
      refine W.widen (k := (4 * n + 1)) (n := (24 * n + 6)) (by omega) (by omega) ?_
      exact W.iret (v := 1) hx hb hr (v_end hV ⟨by rw [hth], f2, ho9, fun h0 => absurd (hth.symm.trans h0) (by decide), hC9, fun a h1 h2 _ => hfr a h1 h2, hsz9⟩) hV.2.1.2.2 d_La_read_13
    · refine x_catch2 (x := ⟨0, 8, 11, 21⟩) (x2 := ⟨0, 8, 14, 15⟩) (nm := "java/lang/IllegalStateException") (nm2 := "java/lang/UnsupportedOperationException") rfl hown htab rfl (by decide) rfl (by decide) (hts _ w_cl_La_21) (hts _ w_cl_La_15) hce hcv hcl (hK.2.2.2.1 s (State.WarmedH.refl s) (fun _ _ _ => rfl) _ (List.mem_of_getElem? (i := 12) rfl) args) (hK.2.2.2.1 s (State.WarmedH.refl s) (fun _ _ _ => rfl) _ (List.mem_of_getElem? (i := 8) rfl) args) ?_
      refine W.eq (g2 := F0 mi 14 ls [.ref q9]) rfl ?_
      refine lv_astore_n (lv' := [(2, .ref q9), (0, .ref x), (1, .ref o)]) hx hb d_La_read_14 rfl hl (by decide) rfl (fun ls hl => ?_)
      refine lv_iconst (v := 2) hx hb d_La_read_15 (by decide) ?_
      refine W.widen (k := (4 * n + 1)) (n := (24 * n + 6)) (by omega) (by omega) ?_
      exact W.iret (v := 2) hx hb hr (v_end hV ⟨by rw [hth], f2, ho9, fun h0 => absurd (hth.symm.trans h0) (by decide), hC9, fun a h1 h2 _ => hfr a h1 h2, hsz9⟩) hV.2.1.2.2 d_La_read_16
