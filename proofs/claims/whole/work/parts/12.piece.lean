theorem enc_shl {ls : List Nat} (h : ls.length < 8) (hc : ∀ c ∈ ls, c < 128) : lN (encN ls) <<< ((8 : Int32).toInt64 &&& 63) = lN (encN ls * 256) := by
  have e1 : (Int64.toBitVec ((8 : Int32).toInt64 &&& 63)).smod 64 = BitVec.ofNat 64 8 := by decide
  exact g_shl (k := 8) e1 (by decide) (by decide) (by have := encN_small (by omega : ls.length ≤ 8) hc; omega)
theorem enc_or {ls : List Nat} (h : ls.length < 8) (hc : ∀ c ∈ ls, c < 128) {a : Nat} (ha : a < 128) : lN (encN ls * 256) ||| lN a = lN (encN (ls ++ [a])) := by
  have h1 : encN (ls ++ [a]) < 2 ^ 63 := encN_small (by simp; omega) (by intro c hcc; rcases List.mem_append.mp hcc with q | q; exact hc c q; simp at q; omega)
  rw [encN_app] at h1 ⊢
  rw [g_or (k := 8) (by decide) (by omega) (by omega)]
  congr 1
  omega
theorem d_Pc_isNamedLike_0 : decode b_Pc_isNamedLike 0 = .ok (.aload_n 0, 1) := by decide +kernel
theorem d_Pc_isNamedLike_1 : decode b_Pc_isNamedLike 1 = .ok (.getfield 21, 3) := by decide +kernel
theorem d_Pc_isNamedLike_4 : decode b_Pc_isNamedLike 4 = .ok (.iconst (-1), 1) := by decide +kernel
theorem d_Pc_isNamedLike_5 : decode b_Pc_isNamedLike 5 = .ok (.if_icmp .eq 30, 3) := by decide +kernel
theorem d_Pc_isNamedLike_8 : decode b_Pc_isNamedLike 8 = .ok (.aload_n 0, 1) := by decide +kernel
theorem d_Pc_isNamedLike_9 : decode b_Pc_isNamedLike 9 = .ok (.getfield 21, 3) := by decide +kernel
theorem d_Pc_isNamedLike_12 : decode b_Pc_isNamedLike 12 = .ok (.aload_n 1, 1) := by decide +kernel
theorem d_Pc_isNamedLike_13 : decode b_Pc_isNamedLike 13 = .ok (.getfield 21, 3) := by decide +kernel
theorem d_Pc_isNamedLike_16 : decode b_Pc_isNamedLike 16 = .ok (.if_icmp .ne 19, 3) := by decide +kernel
theorem d_Pc_isNamedLike_19 : decode b_Pc_isNamedLike 19 = .ok (.aload_n 0, 1) := by decide +kernel
theorem d_Pc_isNamedLike_20 : decode b_Pc_isNamedLike 20 = .ok (.getfield 31, 3) := by decide +kernel
theorem d_Pc_isNamedLike_23 : decode b_Pc_isNamedLike 23 = .ok (.aload_n 1, 1) := by decide +kernel
theorem d_Pc_isNamedLike_24 : decode b_Pc_isNamedLike 24 = .ok (.getfield 31, 3) := by decide +kernel
theorem d_Pc_isNamedLike_27 : decode b_Pc_isNamedLike 27 = .ok (.lcmp, 1) := by decide +kernel
theorem d_Pc_isNamedLike_28 : decode b_Pc_isNamedLike 28 = .ok (.ifCond .ne 7, 3) := by decide +kernel
theorem d_Pc_isNamedLike_31 : decode b_Pc_isNamedLike 31 = .ok (.iconst 1, 1) := by decide +kernel
theorem d_Pc_isNamedLike_32 : decode b_Pc_isNamedLike 32 = .ok (.goto 4, 3) := by decide +kernel
theorem d_Pc_isNamedLike_35 : decode b_Pc_isNamedLike 35 = .ok (.iconst 0, 1) := by decide +kernel
theorem d_Pc_isNamedLike_36 : decode b_Pc_isNamedLike 36 = .ok (.ireturn, 1) := by decide +kernel
theorem d_Pc_leads_0 : decode b_Pc_leads 0 = .ok (.aload_n 0, 1) := by decide +kernel
theorem d_Pc_leads_1 : decode b_Pc_leads 1 = .ok (.getfield 41, 3) := by decide +kernel
theorem d_Pc_leads_4 : decode b_Pc_leads 4 = .ok (.iload_n 1, 1) := by decide +kernel
theorem d_Pc_leads_5 : decode b_Pc_leads 5 = .ok (.if_icmp .ne 11, 3) := by decide +kernel
theorem d_Pc_leads_8 : decode b_Pc_leads 8 = .ok (.aload_n 0, 1) := by decide +kernel
theorem d_Pc_leads_9 : decode b_Pc_leads 9 = .ok (.getfield 44, 3) := by decide +kernel
theorem d_Pc_leads_12 : decode b_Pc_leads 12 = .ok (.iload_n 2, 1) := by decide +kernel
theorem d_Pc_leads_13 : decode b_Pc_leads 13 = .ok (.if_icmp .eq 26, 3) := by decide +kernel
theorem d_Pc_leads_16 : decode b_Pc_leads 16 = .ok (.aload_n 0, 1) := by decide +kernel
theorem d_Pc_leads_17 : decode b_Pc_leads 17 = .ok (.getfield 47, 3) := by decide +kernel
theorem d_Pc_leads_20 : decode b_Pc_leads 20 = .ok (.ifCond .ne 23, 3) := by decide +kernel
theorem d_Pc_leads_23 : decode b_Pc_leads 23 = .ok (.aload_n 0, 1) := by decide +kernel
theorem d_Pc_leads_24 : decode b_Pc_leads 24 = .ok (.getfield 44, 3) := by decide +kernel
theorem d_Pc_leads_27 : decode b_Pc_leads 27 = .ok (.iload_n 1, 1) := by decide +kernel
theorem d_Pc_leads_28 : decode b_Pc_leads 28 = .ok (.if_icmp .ne 15, 3) := by decide +kernel
theorem d_Pc_leads_31 : decode b_Pc_leads 31 = .ok (.aload_n 0, 1) := by decide +kernel
theorem d_Pc_leads_32 : decode b_Pc_leads 32 = .ok (.getfield 41, 3) := by decide +kernel
theorem d_Pc_leads_35 : decode b_Pc_leads 35 = .ok (.iload_n 2, 1) := by decide +kernel
theorem d_Pc_leads_36 : decode b_Pc_leads 36 = .ok (.if_icmp .ne 7, 3) := by decide +kernel
theorem d_Pc_leads_39 : decode b_Pc_leads 39 = .ok (.iconst 1, 1) := by decide +kernel
theorem d_Pc_leads_40 : decode b_Pc_leads 40 = .ok (.goto 4, 3) := by decide +kernel
theorem d_Pc_leads_43 : decode b_Pc_leads 43 = .ok (.iconst 0, 1) := by decide +kernel
theorem d_Pc_leads_44 : decode b_Pc_leads 44 = .ok (.ireturn, 1) := by decide +kernel
theorem d_Pc_nodesToWhichItGoes_0 : decode b_Pc_nodesToWhichItGoes 0 = .ok (.aload_n 0, 1) := by decide +kernel
theorem d_Pc_nodesToWhichItGoes_1 : decode b_Pc_nodesToWhichItGoes 1 = .ok (.getfield 47, 3) := by decide +kernel
theorem d_Pc_nodesToWhichItGoes_4 : decode b_Pc_nodesToWhichItGoes 4 = .ok (.ifCond .eq 12, 3) := by decide +kernel
theorem d_Pc_nodesToWhichItGoes_7 : decode b_Pc_nodesToWhichItGoes 7 = .ok (.lconst 1, 1) := by decide +kernel
theorem d_Pc_nodesToWhichItGoes_8 : decode b_Pc_nodesToWhichItGoes 8 = .ok (.aload_n 0, 1) := by decide +kernel
theorem d_Pc_nodesToWhichItGoes_9 : decode b_Pc_nodesToWhichItGoes 9 = .ok (.getfield 44, 3) := by decide +kernel
theorem d_Pc_nodesToWhichItGoes_12 : decode b_Pc_nodesToWhichItGoes 12 = .ok (.lshl, 1) := by decide +kernel
theorem d_Pc_nodesToWhichItGoes_13 : decode b_Pc_nodesToWhichItGoes 13 = .ok (.goto 7, 3) := by decide +kernel
theorem d_Pc_nodesToWhichItGoes_16 : decode b_Pc_nodesToWhichItGoes 16 = .ok (.aload_n 0, 1) := by decide +kernel
theorem d_Pc_nodesToWhichItGoes_17 : decode b_Pc_nodesToWhichItGoes 17 = .ok (.invokevirtual 51, 3) := by decide +kernel
theorem d_Pc_nodesToWhichItGoes_20 : decode b_Pc_nodesToWhichItGoes 20 = .ok (.lreturn, 1) := by decide +kernel
theorem d_Pc_ends_0 : decode b_Pc_ends 0 = .ok (.lconst 1, 1) := by decide +kernel
theorem d_Pc_ends_1 : decode b_Pc_ends 1 = .ok (.aload_n 0, 1) := by decide +kernel
theorem d_Pc_ends_2 : decode b_Pc_ends 2 = .ok (.getfield 41, 3) := by decide +kernel
theorem d_Pc_ends_5 : decode b_Pc_ends 5 = .ok (.lshl, 1) := by decide +kernel
theorem d_Pc_ends_6 : decode b_Pc_ends 6 = .ok (.lconst 1, 1) := by decide +kernel
theorem d_Pc_ends_7 : decode b_Pc_ends 7 = .ok (.aload_n 0, 1) := by decide +kernel
theorem d_Pc_ends_8 : decode b_Pc_ends 8 = .ok (.getfield 44, 3) := by decide +kernel
theorem d_Pc_ends_11 : decode b_Pc_ends 11 = .ok (.lshl, 1) := by decide +kernel
theorem d_Pc_ends_12 : decode b_Pc_ends 12 = .ok (.lor, 1) := by decide +kernel
theorem d_Pc_ends_13 : decode b_Pc_ends 13 = .ok (.lreturn, 1) := by decide +kernel
theorem d_Pc_nodesFromWhichItGoes_0 : decode b_Pc_nodesFromWhichItGoes 0 = .ok (.aload_n 0, 1) := by decide +kernel
theorem d_Pc_nodesFromWhichItGoes_1 : decode b_Pc_nodesFromWhichItGoes 1 = .ok (.getfield 47, 3) := by decide +kernel
theorem d_Pc_nodesFromWhichItGoes_4 : decode b_Pc_nodesFromWhichItGoes 4 = .ok (.ifCond .eq 12, 3) := by decide +kernel
theorem d_Pc_nodesFromWhichItGoes_7 : decode b_Pc_nodesFromWhichItGoes 7 = .ok (.lconst 1, 1) := by decide +kernel
theorem d_Pc_nodesFromWhichItGoes_8 : decode b_Pc_nodesFromWhichItGoes 8 = .ok (.aload_n 0, 1) := by decide +kernel
theorem d_Pc_nodesFromWhichItGoes_9 : decode b_Pc_nodesFromWhichItGoes 9 = .ok (.getfield 41, 3) := by decide +kernel
theorem d_Pc_nodesFromWhichItGoes_12 : decode b_Pc_nodesFromWhichItGoes 12 = .ok (.lshl, 1) := by decide +kernel
theorem d_Pc_nodesFromWhichItGoes_13 : decode b_Pc_nodesFromWhichItGoes 13 = .ok (.goto 7, 3) := by decide +kernel
theorem d_Pc_nodesFromWhichItGoes_16 : decode b_Pc_nodesFromWhichItGoes 16 = .ok (.aload_n 0, 1) := by decide +kernel
theorem d_Pc_nodesFromWhichItGoes_17 : decode b_Pc_nodesFromWhichItGoes 17 = .ok (.invokevirtual 51, 3) := by decide +kernel
theorem d_Pc_nodesFromWhichItGoes_20 : decode b_Pc_nodesFromWhichItGoes 20 = .ok (.lreturn, 1) := by decide +kernel
theorem d_Pc_isForWheels_0 : decode b_Pc_isForWheels 0 = .ok (.aload_n 0, 1) := by decide +kernel
theorem d_Pc_isForWheels_1 : decode b_Pc_isForWheels 1 = .ok (.getfield 38, 3) := by decide +kernel
theorem d_Pc_isForWheels_4 : decode b_Pc_isForWheels 4 = .ok (.iconst 3, 1) := by decide +kernel
theorem d_Pc_isForWheels_5 : decode b_Pc_isForWheels 5 = .ok (.if_icmp .ge 7, 3) := by decide +kernel
theorem d_Pc_isForWheels_8 : decode b_Pc_isForWheels 8 = .ok (.iconst 1, 1) := by decide +kernel
theorem d_Pc_isForWheels_9 : decode b_Pc_isForWheels 9 = .ok (.goto 4, 3) := by decide +kernel
theorem d_Pc_isForWheels_12 : decode b_Pc_isForWheels 12 = .ok (.iconst 0, 1) := by decide +kernel
theorem d_Pc_isForWheels_13 : decode b_Pc_isForWheels 13 = .ok (.ireturn, 1) := by decide +kernel
theorem d_Pc_letter_0 : decode b_Pc_letter 0 = .ok (.iload_n 1, 1) := by decide +kernel
theorem d_Pc_letter_1 : decode b_Pc_letter 1 = .ok (.ifCond .lt 11, 3) := by decide +kernel
theorem d_Pc_letter_4 : decode b_Pc_letter 4 = .ok (.iload_n 1, 1) := by decide +kernel
theorem d_Pc_letter_5 : decode b_Pc_letter 5 = .ok (.aload_n 0, 1) := by decide +kernel
theorem d_Pc_letter_6 : decode b_Pc_letter 6 = .ok (.getfield 35, 3) := by decide +kernel
theorem d_Pc_letter_9 : decode b_Pc_letter 9 = .ok (.if_icmp .lt 5, 3) := by decide +kernel
theorem d_Pc_letter_12 : decode b_Pc_letter 12 = .ok (.iconst (-1), 1) := by decide +kernel
theorem d_Pc_letter_13 : decode b_Pc_letter 13 = .ok (.ireturn, 1) := by decide +kernel
theorem d_Pc_letter_14 : decode b_Pc_letter 14 = .ok (.aload_n 0, 1) := by decide +kernel
theorem d_Pc_letter_15 : decode b_Pc_letter 15 = .ok (.getfield 31, 3) := by decide +kernel
theorem d_Pc_letter_18 : decode b_Pc_letter 18 = .ok (.bipush 8, 2) := by decide +kernel
theorem d_Pc_letter_20 : decode b_Pc_letter 20 = .ok (.aload_n 0, 1) := by decide +kernel
theorem d_Pc_letter_21 : decode b_Pc_letter 21 = .ok (.getfield 35, 3) := by decide +kernel
theorem d_Pc_letter_24 : decode b_Pc_letter 24 = .ok (.iconst 1, 1) := by decide +kernel
theorem d_Pc_letter_25 : decode b_Pc_letter 25 = .ok (.isub, 1) := by decide +kernel
theorem d_Pc_letter_26 : decode b_Pc_letter 26 = .ok (.iload_n 1, 1) := by decide +kernel
theorem d_Pc_letter_27 : decode b_Pc_letter 27 = .ok (.isub, 1) := by decide +kernel
theorem d_Pc_letter_28 : decode b_Pc_letter 28 = .ok (.imul, 1) := by decide +kernel
theorem d_Pc_letter_29 : decode b_Pc_letter 29 = .ok (.lshr, 1) := by decide +kernel
theorem d_Pc_letter_30 : decode b_Pc_letter 30 = .ok (.l2i, 1) := by decide +kernel
theorem d_Pc_letter_31 : decode b_Pc_letter 31 = .ok (.sipush 255, 3) := by decide +kernel
theorem d_Pc_letter_34 : decode b_Pc_letter 34 = .ok (.iand, 1) := by decide +kernel
theorem d_Pc_letter_35 : decode b_Pc_letter 35 = .ok (.ireturn, 1) := by decide +kernel
theorem d_Pc_init_0 : decode b_Pc_init 0 = .ok (.aload_n 0, 1) := by decide +kernel
theorem d_Pc_init_1 : decode b_Pc_init 1 = .ok (.invokespecial 3, 3) := by decide +kernel
theorem d_Pc_init_4 : decode b_Pc_init 4 = .ok (.aload_n 0, 1) := by decide +kernel
theorem d_Pc_init_5 : decode b_Pc_init 5 = .ok (.iconst 3, 1) := by decide +kernel
theorem d_Pc_init_6 : decode b_Pc_init 6 = .ok (.newarray .int, 2) := by decide +kernel
theorem d_Pc_init_8 : decode b_Pc_init 8 = .ok (.putfield 9, 3) := by decide +kernel
theorem d_Pc_init_11 : decode b_Pc_init 11 = .ok (.aload_n 0, 1) := by decide +kernel
theorem d_Pc_init_12 : decode b_Pc_init 12 = .ok (.iconst 3, 1) := by decide +kernel
theorem d_Pc_init_13 : decode b_Pc_init 13 = .ok (.newarray .int, 2) := by decide +kernel
theorem d_Pc_init_15 : decode b_Pc_init 15 = .ok (.putfield 15, 3) := by decide +kernel
theorem d_Pc_init_18 : decode b_Pc_init 18 = .ok (.aload_n 0, 1) := by decide +kernel
theorem d_Pc_init_19 : decode b_Pc_init 19 = .ok (.iconst 3, 1) := by decide +kernel
theorem d_Pc_init_20 : decode b_Pc_init 20 = .ok (.newarray .int, 2) := by decide +kernel
theorem d_Pc_init_22 : decode b_Pc_init 22 = .ok (.putfield 18, 3) := by decide +kernel
theorem d_Pc_init_25 : decode b_Pc_init 25 = .ok (.aload_n 0, 1) := by decide +kernel
theorem d_Pc_init_26 : decode b_Pc_init 26 = .ok (.iconst (-1), 1) := by decide +kernel
theorem d_Pc_init_27 : decode b_Pc_init 27 = .ok (.putfield 21, 3) := by decide +kernel
theorem d_Pc_init_30 : decode b_Pc_init 30 = .ok (.return_, 1) := by decide +kernel
theorem d_Pc_addHours_0 : decode b_Pc_addHours 0 = .ok (.aload_n 0, 1) := by decide +kernel
theorem d_Pc_addHours_1 : decode b_Pc_addHours 1 = .ok (.getfield 25, 3) := by decide +kernel
theorem d_Pc_addHours_4 : decode b_Pc_addHours 4 = .ok (.iconst 3, 1) := by decide +kernel
theorem d_Pc_addHours_5 : decode b_Pc_addHours 5 = .ok (.if_icmp .ge 43, 3) := by decide +kernel
theorem d_Pc_addHours_8 : decode b_Pc_addHours 8 = .ok (.aload_n 0, 1) := by decide +kernel
theorem d_Pc_addHours_9 : decode b_Pc_addHours 9 = .ok (.getfield 9, 3) := by decide +kernel
theorem d_Pc_addHours_12 : decode b_Pc_addHours 12 = .ok (.aload_n 0, 1) := by decide +kernel
theorem d_Pc_addHours_13 : decode b_Pc_addHours 13 = .ok (.getfield 25, 3) := by decide +kernel
theorem d_Pc_addHours_16 : decode b_Pc_addHours 16 = .ok (.iload_n 1, 1) := by decide +kernel
theorem d_Pc_addHours_17 : decode b_Pc_addHours 17 = .ok (.iastore, 1) := by decide +kernel
theorem d_Pc_addHours_18 : decode b_Pc_addHours 18 = .ok (.aload_n 0, 1) := by decide +kernel
theorem d_Pc_addHours_19 : decode b_Pc_addHours 19 = .ok (.getfield 15, 3) := by decide +kernel
theorem d_Pc_addHours_22 : decode b_Pc_addHours 22 = .ok (.aload_n 0, 1) := by decide +kernel
theorem d_Pc_addHours_23 : decode b_Pc_addHours 23 = .ok (.getfield 25, 3) := by decide +kernel
theorem d_Pc_addHours_26 : decode b_Pc_addHours 26 = .ok (.iload_n 2, 1) := by decide +kernel
theorem d_Pc_addHours_27 : decode b_Pc_addHours 27 = .ok (.iastore, 1) := by decide +kernel
theorem d_Pc_addHours_28 : decode b_Pc_addHours 28 = .ok (.aload_n 0, 1) := by decide +kernel
theorem d_Pc_addHours_29 : decode b_Pc_addHours 29 = .ok (.getfield 18, 3) := by decide +kernel
theorem d_Pc_addHours_32 : decode b_Pc_addHours 32 = .ok (.aload_n 0, 1) := by decide +kernel
theorem d_Pc_addHours_33 : decode b_Pc_addHours 33 = .ok (.getfield 25, 3) := by decide +kernel
theorem d_Pc_addHours_36 : decode b_Pc_addHours 36 = .ok (.iload_n 3, 1) := by decide +kernel
theorem d_Pc_addHours_37 : decode b_Pc_addHours 37 = .ok (.iastore, 1) := by decide +kernel
theorem d_Pc_addHours_38 : decode b_Pc_addHours 38 = .ok (.aload_n 0, 1) := by decide +kernel
theorem d_Pc_addHours_39 : decode b_Pc_addHours 39 = .ok (.dup, 1) := by decide +kernel
theorem d_Pc_addHours_40 : decode b_Pc_addHours 40 = .ok (.getfield 25, 3) := by decide +kernel
theorem d_Pc_addHours_43 : decode b_Pc_addHours 43 = .ok (.iconst 1, 1) := by decide +kernel
theorem d_Pc_addHours_44 : decode b_Pc_addHours 44 = .ok (.iadd, 1) := by decide +kernel
theorem d_Pc_addHours_45 : decode b_Pc_addHours 45 = .ok (.putfield 25, 3) := by decide +kernel
theorem d_Pc_addHours_48 : decode b_Pc_addHours 48 = .ok (.return_, 1) := by decide +kernel
theorem d_Pc_addLetter_0 : decode b_Pc_addLetter 0 = .ok (.aload_n 0, 1) := by decide +kernel
theorem d_Pc_addLetter_1 : decode b_Pc_addLetter 1 = .ok (.aload_n 0, 1) := by decide +kernel
theorem d_Pc_addLetter_2 : decode b_Pc_addLetter 2 = .ok (.getfield 31, 3) := by decide +kernel
theorem d_Pc_addLetter_5 : decode b_Pc_addLetter 5 = .ok (.bipush 8, 2) := by decide +kernel
theorem d_Pc_addLetter_7 : decode b_Pc_addLetter 7 = .ok (.lshl, 1) := by decide +kernel
theorem d_Pc_addLetter_8 : decode b_Pc_addLetter 8 = .ok (.iload_n 1, 1) := by decide +kernel
theorem d_Pc_addLetter_9 : decode b_Pc_addLetter 9 = .ok (.i2l, 1) := by decide +kernel
theorem d_Pc_addLetter_10 : decode b_Pc_addLetter 10 = .ok (.lor, 1) := by decide +kernel
theorem d_Pc_addLetter_11 : decode b_Pc_addLetter 11 = .ok (.putfield 31, 3) := by decide +kernel
theorem d_Pc_addLetter_14 : decode b_Pc_addLetter 14 = .ok (.aload_n 0, 1) := by decide +kernel
theorem d_Pc_addLetter_15 : decode b_Pc_addLetter 15 = .ok (.dup, 1) := by decide +kernel
theorem d_Pc_addLetter_16 : decode b_Pc_addLetter 16 = .ok (.getfield 35, 3) := by decide +kernel
theorem d_Pc_addLetter_19 : decode b_Pc_addLetter 19 = .ok (.iconst 1, 1) := by decide +kernel
theorem d_Pc_addLetter_20 : decode b_Pc_addLetter 20 = .ok (.iadd, 1) := by decide +kernel
theorem d_Pc_addLetter_21 : decode b_Pc_addLetter 21 = .ok (.putfield 35, 3) := by decide +kernel
theorem d_Pc_addLetter_24 : decode b_Pc_addLetter 24 = .ok (.return_, 1) := by decide +kernel
theorem d_Pc_speedAt_0 : decode b_Pc_speedAt 0 = .ok (.iconst 0, 1) := by decide +kernel
theorem d_Pc_speedAt_1 : decode b_Pc_speedAt 1 = .ok (.istore_n 2, 1) := by decide +kernel
theorem d_Pc_speedAt_2 : decode b_Pc_speedAt 2 = .ok (.iload_n 2, 1) := by decide +kernel
theorem d_Pc_speedAt_3 : decode b_Pc_speedAt 3 = .ok (.aload_n 0, 1) := by decide +kernel
theorem d_Pc_speedAt_4 : decode b_Pc_speedAt 4 = .ok (.getfield 25, 3) := by decide +kernel
theorem d_Pc_speedAt_7 : decode b_Pc_speedAt 7 = .ok (.if_icmp .ge 36, 3) := by decide +kernel
theorem d_Pc_speedAt_10 : decode b_Pc_speedAt 10 = .ok (.aload_n 0, 1) := by decide +kernel
theorem d_Pc_speedAt_11 : decode b_Pc_speedAt 11 = .ok (.getfield 9, 3) := by decide +kernel
theorem d_Pc_speedAt_14 : decode b_Pc_speedAt 14 = .ok (.iload_n 2, 1) := by decide +kernel
theorem d_Pc_speedAt_15 : decode b_Pc_speedAt 15 = .ok (.iaload, 1) := by decide +kernel
theorem d_Pc_speedAt_16 : decode b_Pc_speedAt 16 = .ok (.iload_n 1, 1) := by decide +kernel
theorem d_Pc_speedAt_17 : decode b_Pc_speedAt 17 = .ok (.if_icmp .gt 20, 3) := by decide +kernel
theorem d_Pc_speedAt_20 : decode b_Pc_speedAt 20 = .ok (.iload_n 1, 1) := by decide +kernel
theorem d_Pc_speedAt_21 : decode b_Pc_speedAt 21 = .ok (.aload_n 0, 1) := by decide +kernel
theorem d_Pc_speedAt_22 : decode b_Pc_speedAt 22 = .ok (.getfield 15, 3) := by decide +kernel
theorem d_Pc_speedAt_25 : decode b_Pc_speedAt 25 = .ok (.iload_n 2, 1) := by decide +kernel
theorem d_Pc_speedAt_26 : decode b_Pc_speedAt 26 = .ok (.iaload, 1) := by decide +kernel
theorem d_Pc_speedAt_27 : decode b_Pc_speedAt 27 = .ok (.if_icmp .gt 10, 3) := by decide +kernel
theorem d_Pc_speedAt_30 : decode b_Pc_speedAt 30 = .ok (.aload_n 0, 1) := by decide +kernel
theorem d_Pc_speedAt_31 : decode b_Pc_speedAt 31 = .ok (.getfield 18, 3) := by decide +kernel
theorem d_Pc_speedAt_34 : decode b_Pc_speedAt 34 = .ok (.iload_n 2, 1) := by decide +kernel
theorem d_Pc_speedAt_35 : decode b_Pc_speedAt 35 = .ok (.iaload, 1) := by decide +kernel
theorem d_Pc_speedAt_36 : decode b_Pc_speedAt 36 = .ok (.ireturn, 1) := by decide +kernel
theorem d_Pc_speedAt_37 : decode b_Pc_speedAt 37 = .ok (.iinc 2 1, 3) := by decide +kernel
theorem d_Pc_speedAt_40 : decode b_Pc_speedAt 40 = .ok (.goto (-38), 3) := by decide +kernel
theorem d_Pc_speedAt_43 : decode b_Pc_speedAt 43 = .ok (.aload_n 0, 1) := by decide +kernel
theorem d_Pc_speedAt_44 : decode b_Pc_speedAt 44 = .ok (.getfield 28, 3) := by decide +kernel
theorem d_Pc_speedAt_47 : decode b_Pc_speedAt 47 = .ok (.ireturn, 1) := by decide +kernel

set_option maxHeartbeats 4000000 in
set_option maxRecDepth 100000 in
/-- Piece() -/
theorem c_Pc_init (l : Launch) (G : Gx) (lo : Nat) (V : Vw) (sz : Nat) (pa : Nat) (hpa : pa < sz) : Met l y_Pc_init ws_Pc_init ({ frames := 1, cells := 3, slots := 9, locals := 12 } : Room) (vPre G lo [.ref pa] (vU V [(pa, eO 1 [.int 0, .int 0, .int 0, .int 0, .int 0, .int 0, .int 0, .null, .null, .null, .int 0, .int 0, .long ((0 : Int64)), .int 0, .int 0])]) sz) (vPost G lo (fun r V' k => r = none ∧ V' = vU V [(sz + 2, eI (gI G) 3 (fun _ => 0)), (sz + 1, eI (gI G) 3 (fun _ => 0)), (sz, eI (gI G) 3 (fun _ => 0)), (pa, eO 1 [.int 0, .int 0, .int 0, .int 0, .int 0, .int 0, .int 0, .ref sz, .ref (sz + 1), .ref (sz + 2), .int 0, .int 0, .long ((0 : Int64)), .int 0, .int ((-1))])] ∧ k = sz + 3)) 3 9 (vL lo) := by
  refine vMet (R := RPc) (by decide) rfl (Nat.le_of_ble_eq_true rfl) ?_
  intro pg ev s mi args below meth cd hx hb hr hml hlk hnm hts hown hK hz hV ls hl
  have hl : lv_has ls 1 [(0, .ref pa)] := hl
  have hV0 := hV
  obtain ⟨H, hH⟩ : ∃ H, H = s.heap := ⟨_, rfl⟩
  obtain ⟨locs, hlocs⟩ : ∃ locs : List Loc, locs = [] := ⟨_, rfl⟩
  rw [← hH, ← hlocs]
  rw [← hH] at hz
  replace hV : vS G.1 cls lo s H locs (vU V [(pa, eO 1 [.int 0, .int 0, .int 0, .int 0, .int 0, .int 0, .int 0, .null, .null, .null, .int 0, .int 0, .long ((0 : Int64)), .int 0, .int 0])]) := by rw [hH, hlocs]; exact hV
  clear hH hlocs hV0
  have hn : [pa].Nodup := by simp
  refine lv_aload_n hx hb d_Pc_init_0 rfl (lv_at hl 0 rfl) ?_
  refine W.objInit hx hb hown (hts _ w_ml_Pc_3) (hts _ w_im_Ob_init) (hts _ w_co_Ob_init) rfl (by rw [hml]; exact hl.1) rfl d_Pc_init_1 (Nat.le_of_ble_eq_true rfl) (Nat.le_of_ble_eq_true rfl) ?_
  refine W.eq (g2 := F0 mi 4 ls []) rfl ?_
  refine lv_aload_n hx hb d_Pc_init_4 rfl (lv_at hl 0 rfl) ?_
  refine lv_iconst (v := 3) hx hb d_Pc_init_5 (by decide) ?_
  refine u_newa (atype := .int) hx hb hts w_ac_int rfl hK hV 0 rfl (a0 := (3, .inl (fun _ => 0))) (fun _ => rfl) (by decide) (N' := 3) (by decide) (by decide) (Nat.le_of_ble_eq_true rfl) (Nat.le_of_ble_eq_true rfl) d_Pc_init_6 hz (fun H hV hz => ?_)
  have hV : vS G.1 cls lo s H locs (vU V [(sz, eI (gI G) 3 (fun _ => 0)), (pa, eO 1 [.int 0, .int 0, .int 0, .int 0, .int 0, .int 0, .int 0, .null, .null, .null, .int 0, .int 0, .long ((0 : Int64)), .int 0, .int 0])]) := hV
  have hn : [sz, pa].Nodup := List.nodup_cons.mpr ⟨by simp only [List.mem_cons, List.not_mem_nil, or_false, not_or]; omega, hn⟩
  refine u_putF hx hb hts inPc tyPc tyPc_ok nmPc hown hK hV hn 1 rfl rfl 7 (by decide) w_fl_Pc_9 rfl rfl hnm rfl rfl rfl (Nat.le_of_ble_eq_true rfl) d_Pc_init_8 (fun H locs hV hz9 => ?_)
  have hV : vS G.1 cls lo s H locs (vU V [(sz, eI (gI G) 3 (fun _ => 0)), (pa, eO 1 [.int 0, .int 0, .int 0, .int 0, .int 0, .int 0, .int 0, .ref sz, .null, .null, .int 0, .int 0, .long ((0 : Int64)), .int 0, .int 0])]) := hV
  replace hz := hz9.trans hz
  refine lv_aload_n hx hb d_Pc_init_11 rfl (lv_at hl 0 rfl) ?_
  refine lv_iconst (v := 3) hx hb d_Pc_init_12 (by decide) ?_
  refine u_newa (atype := .int) hx hb hts w_ac_int rfl hK hV 0 rfl (a0 := (3, .inl (fun _ => 0))) (fun _ => rfl) (by decide) (N' := 3) (by decide) (by decide) (Nat.le_of_ble_eq_true rfl) (Nat.le_of_ble_eq_true rfl) d_Pc_init_13 hz (fun H hV hz => ?_)
  have hV : vS G.1 cls lo s H locs (vU V [(sz + 1, eI (gI G) 3 (fun _ => 0)), (sz, eI (gI G) 3 (fun _ => 0)), (pa, eO 1 [.int 0, .int 0, .int 0, .int 0, .int 0, .int 0, .int 0, .ref sz, .null, .null, .int 0, .int 0, .long ((0 : Int64)), .int 0, .int 0])]) := hV
  have hn : [sz + 1, sz, pa].Nodup := List.nodup_cons.mpr ⟨by simp only [List.mem_cons, List.not_mem_nil, or_false, not_or]; omega, hn⟩
  refine u_putF hx hb hts inPc tyPc tyPc_ok nmPc hown hK hV hn 2 rfl rfl 8 (by decide) w_fl_Pc_15 rfl rfl hnm rfl rfl rfl (Nat.le_of_ble_eq_true rfl) d_Pc_init_15 (fun H locs hV hz9 => ?_)
  have hV : vS G.1 cls lo s H locs (vU V [(sz + 1, eI (gI G) 3 (fun _ => 0)), (sz, eI (gI G) 3 (fun _ => 0)), (pa, eO 1 [.int 0, .int 0, .int 0, .int 0, .int 0, .int 0, .int 0, .ref sz, .ref (sz + 1), .null, .int 0, .int 0, .long ((0 : Int64)), .int 0, .int 0])]) := hV
  replace hz := hz9.trans hz
  refine lv_aload_n hx hb d_Pc_init_18 rfl (lv_at hl 0 rfl) ?_
  refine lv_iconst (v := 3) hx hb d_Pc_init_19 (by decide) ?_
  refine u_newa (atype := .int) hx hb hts w_ac_int rfl hK hV 0 rfl (a0 := (3, .inl (fun _ => 0))) (fun _ => rfl) (by decide) (N' := 3) (by decide) (by decide) (Nat.le_of_ble_eq_true rfl) (Nat.le_of_ble_eq_true rfl) d_Pc_init_20 hz (fun H hV hz => ?_)
  have hV : vS G.1 cls lo s H locs (vU V [(sz + 2, eI (gI G) 3 (fun _ => 0)), (sz + 1, eI (gI G) 3 (fun _ => 0)), (sz, eI (gI G) 3 (fun _ => 0)), (pa, eO 1 [.int 0, .int 0, .int 0, .int 0, .int 0, .int 0, .int 0, .ref sz, .ref (sz + 1), .null, .int 0, .int 0, .long ((0 : Int64)), .int 0, .int 0])]) := hV
  have hn : [sz + 2, sz + 1, sz, pa].Nodup := List.nodup_cons.mpr ⟨by simp only [List.mem_cons, List.not_mem_nil, or_false, not_or]; omega, hn⟩
  refine u_putF hx hb hts inPc tyPc tyPc_ok nmPc hown hK hV hn 3 rfl rfl 9 (by decide) w_fl_Pc_18 rfl rfl hnm rfl rfl rfl (Nat.le_of_ble_eq_true rfl) d_Pc_init_22 (fun H locs hV hz9 => ?_)
  have hV : vS G.1 cls lo s H locs (vU V [(sz + 2, eI (gI G) 3 (fun _ => 0)), (sz + 1, eI (gI G) 3 (fun _ => 0)), (sz, eI (gI G) 3 (fun _ => 0)), (pa, eO 1 [.int 0, .int 0, .int 0, .int 0, .int 0, .int 0, .int 0, .ref sz, .ref (sz + 1), .ref (sz + 2), .int 0, .int 0, .long ((0 : Int64)), .int 0, .int 0])]) := hV
  replace hz := hz9.trans hz
  refine lv_aload_n hx hb d_Pc_init_25 rfl (lv_at hl 0 rfl) ?_
  refine lv_iconst (v := (-1)) hx hb d_Pc_init_26 (by decide) ?_
  refine u_put hx hb hts inPc tyPc tyPc_ok nmPc hown hK hV hn 3 rfl rfl 14 (by decide) w_fl_Pc_21 rfl rfl rfl rfl (Nat.le_of_ble_eq_true rfl) d_Pc_init_27 (fun H locs hV hz9 => ?_)
  have hV : vS G.1 cls lo s H locs (vU V [(sz + 2, eI (gI G) 3 (fun _ => 0)), (sz + 1, eI (gI G) 3 (fun _ => 0)), (sz, eI (gI G) 3 (fun _ => 0)), (pa, eO 1 [.int 0, .int 0, .int 0, .int 0, .int 0, .int 0, .int 0, .ref sz, .ref (sz + 1), .ref (sz + 2), .int 0, .int 0, .long ((0 : Int64)), .int 0, .int ((-1))])]) := hV
  replace hz := hz9.trans hz
  exact W.vret hx hb hr (v_end hV ⟨rfl, rfl, hz⟩) hV.2.1.2.2 d_Pc_init_30

set_option maxHeartbeats 4000000 in
set_option maxRecDepth 100000 in
/-- Piece.addHours -/
theorem c_Pc_addHours (l : Launch) (G : Gx) (lo : Nat) (V : Vw) (sz : Nat) (pa x1 x2 x3 : Nat) (i0 i1 i2 i3 i4 i5 i6 i7 : Int32) (j8 : Int64) (i9 i10 : Int32) (h1 h2 h3 : Nat → Int32) (hs : List Tri) (hn : [pa, x1, x2, x3].Nodup) (hH : hrOk h1 h2 h3 hs) (a b c : Nat) (hl3 : hs.length < 3) : Met l y_Pc_addHours ws_Pc_addHours ({ frames := 0, cells := 0, slots := 0, locals := 0 } : Room) (vPre G lo [.ref pa, .int (nI a), .int (nI b), .int (nI c)] (vU V [(pa, eO 1 [.int i0, .int i1, .int i2, .int i3, .int i4, .int i5, .int (nI hs.length), .ref x1, .ref x2, .ref x3, .int i6, .int i7, .long j8, .int i9, .int i10]), (x1, eI (gI G) 3 h1), (x2, eI (gI G) 3 h2), (x3, eI (gI G) 3 h3)]) sz) (vPost G lo (fun r V' k => r = none ∧ (∃ h1' h2' h3' : Nat → Int32, V' = vU V [(pa, eO 1 [.int i0, .int i1, .int i2, .int i3, .int i4, .int i5, .int (nI (hs.length + 1)), .ref x1, .ref x2, .ref x3, .int i6, .int i7, .long j8, .int i9, .int i10]), (x1, eI (gI G) 3 h1'), (x2, eI (gI G) 3 h2'), (x3, eI (gI G) 3 h3')] ∧ hrOk h1' h2' h3' (hs ++ [(a, b, c)])) ∧ k = sz)) 0 0 (vL lo) := by
  refine vMet (R := RPc) (by decide) rfl (Nat.le_of_ble_eq_true rfl) ?_
  intro pg ev s mi args below meth cd hx hb hr hml hlk hnm hts hown hK hz hV ls hl
  have hl : lv_has ls 4 [(0, .ref pa), (1, .int (nI a)), (2, .int (nI b)), (3, .int (nI c))] := hl
  have hV0 := hV
  obtain ⟨H, hH⟩ : ∃ H, H = s.heap := ⟨_, rfl⟩
  obtain ⟨locs, hlocs⟩ : ∃ locs : List Loc, locs = [] := ⟨_, rfl⟩
  rw [← hH, ← hlocs]
  rw [← hH] at hz
  replace hV : vS G.1 cls lo s H locs (vU V [(pa, eO 1 [.int i0, .int i1, .int i2, .int i3, .int i4, .int i5, .int (nI hs.length), .ref x1, .ref x2, .ref x3, .int i6, .int i7, .long j8, .int i9, .int i10]), (x1, eI (gI G) 3 h1), (x2, eI (gI G) 3 h2), (x3, eI (gI G) 3 h3)]) := by rw [hH, hlocs]; exact hV
  clear hH hlocs hV0
  refine lv_aload_n hx hb d_Pc_addHours_0 rfl (lv_at hl 0 rfl) ?_
  refine u_get hx hb hts inPc hown hK hV hn 0 rfl rfl 6 (by decide) w_fl_Pc_25 rfl rfl d_Pc_addHours_1 ?_
  refine lv_iconst (v := 3) hx hb d_Pc_addHours_4 (by decide) ?_
  refine lv_icmp_ge (tgt := 48) hx hb d_Pc_addHours_5 (by decide) (fun c_1 => absurd c_1 (nI_ge (a := hs.length) (b := 3) hl3 (by decide))) (fun c_1 => ?_)
  replace c_1 : ¬ 3 ≤ hs.length := fun z9 => c_1 ((nI_leI (a := 3) (b := hs.length) (by omega) (by omega)).mpr z9)
  refine lv_aload_n hx hb d_Pc_addHours_8 rfl (lv_at hl 0 rfl) ?_
  refine u_get hx hb hts inPc hown hK hV hn 0 rfl rfl 7 (by decide) w_fl_Pc_9 rfl rfl d_Pc_addHours_9 ?_
  refine lv_aload_n hx hb d_Pc_addHours_12 rfl (lv_at hl 0 rfl) ?_
  refine u_get hx hb hts inPc hown hK hV hn 0 rfl rfl 6 (by decide) w_fl_Pc_25 rfl rfl d_Pc_addHours_13 ?_
  refine lv_iload_n hx hb d_Pc_addHours_16 rfl (lv_at hl 1 rfl) ?_
  refine u_iastN hx hb hK hV hn 1 rfl (by omega) (by decide) d_Pc_addHours_17 (fun H locs hV hz9 => ?_)
  have hV : vS G.1 cls lo s H locs (vU V [(pa, eO 1 [.int i0, .int i1, .int i2, .int i3, .int i4, .int i5, .int (nI hs.length), .ref x1, .ref x2, .ref x3, .int i6, .int i7, .long j8, .int i9, .int i10]), (x1, eI (gI G) 3 (upd h1 hs.length (nI a))), (x2, eI (gI G) 3 h2), (x3, eI (gI G) 3 h3)]) := hV
  replace hz := hz9.trans hz
  refine lv_aload_n hx hb d_Pc_addHours_18 rfl (lv_at hl 0 rfl) ?_
  refine u_get hx hb hts inPc hown hK hV hn 0 rfl rfl 8 (by decide) w_fl_Pc_15 rfl rfl d_Pc_addHours_19 ?_
  refine lv_aload_n hx hb d_Pc_addHours_22 rfl (lv_at hl 0 rfl) ?_
  refine u_get hx hb hts inPc hown hK hV hn 0 rfl rfl 6 (by decide) w_fl_Pc_25 rfl rfl d_Pc_addHours_23 ?_
  refine lv_iload_n hx hb d_Pc_addHours_26 rfl (lv_at hl 2 rfl) ?_
  refine u_iastN hx hb hK hV hn 2 rfl (by omega) (by decide) d_Pc_addHours_27 (fun H locs hV hz9 => ?_)
  have hV : vS G.1 cls lo s H locs (vU V [(pa, eO 1 [.int i0, .int i1, .int i2, .int i3, .int i4, .int i5, .int (nI hs.length), .ref x1, .ref x2, .ref x3, .int i6, .int i7, .long j8, .int i9, .int i10]), (x1, eI (gI G) 3 (upd h1 hs.length (nI a))), (x2, eI (gI G) 3 (upd h2 hs.length (nI b))), (x3, eI (gI G) 3 h3)]) := hV
  replace hz := hz9.trans hz
  refine lv_aload_n hx hb d_Pc_addHours_28 rfl (lv_at hl 0 rfl) ?_
  refine u_get hx hb hts inPc hown hK hV hn 0 rfl rfl 9 (by decide) w_fl_Pc_18 rfl rfl d_Pc_addHours_29 ?_
  refine lv_aload_n hx hb d_Pc_addHours_32 rfl (lv_at hl 0 rfl) ?_
  refine u_get hx hb hts inPc hown hK hV hn 0 rfl rfl 6 (by decide) w_fl_Pc_25 rfl rfl d_Pc_addHours_33 ?_
  refine lv_iload_n hx hb d_Pc_addHours_36 rfl (lv_at hl 3 rfl) ?_
  refine u_iastN hx hb hK hV hn 3 rfl (by omega) (by decide) d_Pc_addHours_37 (fun H locs hV hz9 => ?_)
  have hV : vS G.1 cls lo s H locs (vU V [(pa, eO 1 [.int i0, .int i1, .int i2, .int i3, .int i4, .int i5, .int (nI hs.length), .ref x1, .ref x2, .ref x3, .int i6, .int i7, .long j8, .int i9, .int i10]), (x1, eI (gI G) 3 (upd h1 hs.length (nI a))), (x2, eI (gI G) 3 (upd h2 hs.length (nI b))), (x3, eI (gI G) 3 (upd h3 hs.length (nI c)))]) := hV
  replace hz := hz9.trans hz
  refine lv_aload_n hx hb d_Pc_addHours_38 rfl (lv_at hl 0 rfl) ?_
  refine lv_dup hx hb d_Pc_addHours_39 rfl ?_
  refine u_get hx hb hts inPc hown hK hV hn 0 rfl rfl 6 (by decide) w_fl_Pc_25 rfl rfl d_Pc_addHours_40 ?_
  refine lv_iconst (v := 1) hx hb d_Pc_addHours_43 (by decide) ?_
  refine e_iadd (v := nI (hs.length + 1)) hx hb d_Pc_addHours_44 (nI_add hs.length 1) ?_
  refine u_put hx hb hts inPc tyPc tyPc_ok nmPc hown hK hV hn 0 rfl rfl 6 (by decide) w_fl_Pc_25 rfl rfl rfl rfl (Nat.le_of_ble_eq_true rfl) d_Pc_addHours_45 (fun H locs hV hz9 => ?_)
  have hV : vS G.1 cls lo s H locs (vU V [(pa, eO 1 [.int i0, .int i1, .int i2, .int i3, .int i4, .int i5, .int (nI (hs.length + 1)), .ref x1, .ref x2, .ref x3, .int i6, .int i7, .long j8, .int i9, .int i10]), (x1, eI (gI G) 3 (upd h1 hs.length (nI a))), (x2, eI (gI G) 3 (upd h2 hs.length (nI b))), (x3, eI (gI G) 3 (upd h3 hs.length (nI c)))]) := hV
  replace hz := hz9.trans hz
  exact W.vret hx hb hr (v_end hV ⟨rfl, ⟨_, _, _, rfl, hrOk_add hH a b c⟩, hz⟩) hV.2.1.2.2 d_Pc_addHours_48

set_option maxHeartbeats 4000000 in
set_option maxRecDepth 100000 in
/-- Piece.addLetter -/
theorem c_Pc_addLetter (l : Launch) (G : Gx) (lo : Nat) (V : Vw) (sz : Nat) (pa x1 x2 x3 : Nat) (i0 i1 i2 i3 i4 i5 i6 i7 i8 : Int32) (i10 : Int32) (ls0 : List Nat) (a : Nat) (ha : a < 128) (hl8 : ls0.length < 8) (hc8 : ∀ c ∈ ls0, c < 128) : Met l y_Pc_addLetter ws_Pc_addLetter ({ frames := 0, cells := 0, slots := 0, locals := 0 } : Room) (vPre G lo [.ref pa, .int (nI a)] (vU V [(pa, eO 1 [.int i0, .int i1, .int i2, .int i3, .int i4, .int i5, .int i6, .ref x1, .ref x2, .ref x3, .int i7, .int i8, .long (lN (encN ls0)), .int (nI ls0.length), .int i10])]) sz) (vPost G lo (fun r V' k => r = none ∧ V' = vU V [(pa, eO 1 [.int i0, .int i1, .int i2, .int i3, .int i4, .int i5, .int i6, .ref x1, .ref x2, .ref x3, .int i7, .int i8, .long (lN (encN (ls0 ++ [a]))), .int (nI ((ls0 ++ [a]).length)), .int i10])] ∧ k = sz)) 0 0 (vL lo) := by
  refine vMet (R := RPc) (by decide) rfl (Nat.le_of_ble_eq_true rfl) ?_
  intro pg ev s mi args below meth cd hx hb hr hml hlk hnm hts hown hK hz hV ls hl
  have hl : lv_has ls 2 [(0, .ref pa), (1, .int (nI a))] := hl
  have hV0 := hV
  obtain ⟨H, hH⟩ : ∃ H, H = s.heap := ⟨_, rfl⟩
  obtain ⟨locs, hlocs⟩ : ∃ locs : List Loc, locs = [] := ⟨_, rfl⟩
  rw [← hH, ← hlocs]
  rw [← hH] at hz
  replace hV : vS G.1 cls lo s H locs (vU V [(pa, eO 1 [.int i0, .int i1, .int i2, .int i3, .int i4, .int i5, .int i6, .ref x1, .ref x2, .ref x3, .int i7, .int i8, .long (lN (encN ls0)), .int (nI ls0.length), .int i10])]) := by rw [hH, hlocs]; exact hV
  clear hH hlocs hV0
  have hn : [pa].Nodup := by simp
  refine lv_aload_n hx hb d_Pc_addLetter_0 rfl (lv_at hl 0 rfl) ?_
  refine lv_aload_n hx hb d_Pc_addLetter_1 rfl (lv_at hl 0 rfl) ?_
  refine u_get hx hb hts inPc hown hK hV hn 0 rfl rfl 12 (by decide) w_fl_Pc_31 rfl rfl d_Pc_addLetter_2 ?_
  refine lv_bipush (v := 8) hx hb d_Pc_addLetter_5 (by decide) ?_
  refine lv_lshl (v := lN (encN ls0 * 256)) hx hb d_Pc_addLetter_7 (enc_shl hl8 hc8) ?_
  refine lv_iload_n hx hb d_Pc_addLetter_8 rfl (lv_at hl 1 rfl) ?_
  refine lv_i2l (v := lN a) hx hb d_Pc_addLetter_9 (nI_l (by omega)) ?_
  refine e_lor (v := lN (encN (ls0 ++ [a]))) hx hb d_Pc_addLetter_10 (enc_or hl8 hc8 ha) ?_
  refine u_put hx hb hts inPc tyPc tyPc_ok nmPc hown hK hV hn 0 rfl rfl 12 (by decide) w_fl_Pc_31 rfl rfl rfl rfl (Nat.le_of_ble_eq_true rfl) d_Pc_addLetter_11 (fun H locs hV hz9 => ?_)
  have hV : vS G.1 cls lo s H locs (vU V [(pa, eO 1 [.int i0, .int i1, .int i2, .int i3, .int i4, .int i5, .int i6, .ref x1, .ref x2, .ref x3, .int i7, .int i8, .long (lN (encN (ls0 ++ [a]))), .int (nI ls0.length), .int i10])]) := hV
  replace hz := hz9.trans hz
  refine lv_aload_n hx hb d_Pc_addLetter_14 rfl (lv_at hl 0 rfl) ?_
  refine lv_dup hx hb d_Pc_addLetter_15 rfl ?_
  refine u_get hx hb hts inPc hown hK hV hn 0 rfl rfl 13 (by decide) w_fl_Pc_35 rfl rfl d_Pc_addLetter_16 ?_
  refine lv_iconst (v := 1) hx hb d_Pc_addLetter_19 (by decide) ?_
  refine e_iadd (v := nI (ls0.length + 1)) hx hb d_Pc_addLetter_20 (nI_add ls0.length 1) ?_
  refine u_put hx hb hts inPc tyPc tyPc_ok nmPc hown hK hV hn 0 rfl rfl 13 (by decide) w_fl_Pc_35 rfl rfl rfl rfl (Nat.le_of_ble_eq_true rfl) d_Pc_addLetter_21 (fun H locs hV hz9 => ?_)
  have hV : vS G.1 cls lo s H locs (vU V [(pa, eO 1 [.int i0, .int i1, .int i2, .int i3, .int i4, .int i5, .int i6, .ref x1, .ref x2, .ref x3, .int i7, .int i8, .long (lN (encN (ls0 ++ [a]))), .int (nI (ls0.length + 1)), .int i10])]) := hV
  replace hz := hz9.trans hz
  exact W.vret hx hb hr (v_end hV ⟨rfl, by rw [List.length_append]; rfl, hz⟩) hV.2.1.2.2 d_Pc_addLetter_24
