theorem d_Ck_init_0 : decode b_Ck_init 0 = .ok (.aload_n 0, 1) := by decide +kernel
theorem d_Ck_init_1 : decode b_Ck_init 1 = .ok (.invokespecial 3, 3) := by decide +kernel
theorem d_Ck_init_4 : decode b_Ck_init 4 = .ok (.aload_n 0, 1) := by decide +kernel
theorem d_Ck_init_5 : decode b_Ck_init 5 = .ok (.sipush 250, 3) := by decide +kernel
theorem d_Ck_init_8 : decode b_Ck_init 8 = .ok (.newarray .int, 2) := by decide +kernel
theorem d_Ck_init_10 : decode b_Ck_init 10 = .ok (.putfield 11, 3) := by decide +kernel
theorem d_Ck_init_13 : decode b_Ck_init 13 = .ok (.aload_n 0, 1) := by decide +kernel
theorem d_Ck_init_14 : decode b_Ck_init 14 = .ok (.sipush 250, 3) := by decide +kernel
theorem d_Ck_init_17 : decode b_Ck_init 17 = .ok (.newarray .int, 2) := by decide +kernel
theorem d_Ck_init_19 : decode b_Ck_init 19 = .ok (.putfield 15, 3) := by decide +kernel
theorem d_Ck_init_22 : decode b_Ck_init 22 = .ok (.return_, 1) := by decide +kernel
theorem d_Ck_lookAt_0 : decode b_Ck_lookAt 0 = .ok (.aload_n 0, 1) := by decide +kernel
theorem d_Ck_lookAt_1 : decode b_Ck_lookAt 1 = .ok (.iconst 0, 1) := by decide +kernel
theorem d_Ck_lookAt_2 : decode b_Ck_lookAt 2 = .ok (.putfield 18, 3) := by decide +kernel
theorem d_Ck_lookAt_5 : decode b_Ck_lookAt 5 = .ok (.aload_n 0, 1) := by decide +kernel
theorem d_Ck_lookAt_6 : decode b_Ck_lookAt 6 = .ok (.aload_n 1, 1) := by decide +kernel
theorem d_Ck_lookAt_7 : decode b_Ck_lookAt 7 = .ok (.aload_n 1, 1) := by decide +kernel
theorem d_Ck_lookAt_8 : decode b_Ck_lookAt 8 = .ok (.getfield 22, 3) := by decide +kernel
theorem d_Ck_lookAt_11 : decode b_Ck_lookAt 11 = .ok (.iconst 1, 1) := by decide +kernel
theorem d_Ck_lookAt_12 : decode b_Ck_lookAt 12 = .ok (.invokevirtual 28, 3) := by decide +kernel
theorem d_Ck_lookAt_15 : decode b_Ck_lookAt 15 = .ok (.aload_n 0, 1) := by decide +kernel
theorem d_Ck_lookAt_16 : decode b_Ck_lookAt 16 = .ok (.aload_n 1, 1) := by decide +kernel
theorem d_Ck_lookAt_17 : decode b_Ck_lookAt 17 = .ok (.aload_n 1, 1) := by decide +kernel
theorem d_Ck_lookAt_18 : decode b_Ck_lookAt 18 = .ok (.getfield 32, 3) := by decide +kernel
theorem d_Ck_lookAt_21 : decode b_Ck_lookAt 21 = .ok (.iconst 2, 1) := by decide +kernel
theorem d_Ck_lookAt_22 : decode b_Ck_lookAt 22 = .ok (.invokevirtual 28, 3) := by decide +kernel
theorem d_Ck_lookAt_25 : decode b_Ck_lookAt 25 = .ok (.aload_n 0, 1) := by decide +kernel
theorem d_Ck_lookAt_26 : decode b_Ck_lookAt 26 = .ok (.aload_n 1, 1) := by decide +kernel
theorem d_Ck_lookAt_27 : decode b_Ck_lookAt 27 = .ok (.invokevirtual 35, 3) := by decide +kernel
theorem d_Ck_lookAt_30 : decode b_Ck_lookAt 30 = .ok (.aload_n 0, 1) := by decide +kernel
theorem d_Ck_lookAt_31 : decode b_Ck_lookAt 31 = .ok (.aload_n 1, 1) := by decide +kernel
theorem d_Ck_lookAt_32 : decode b_Ck_lookAt 32 = .ok (.invokevirtual 39, 3) := by decide +kernel
theorem d_Ck_lookAt_35 : decode b_Ck_lookAt 35 = .ok (.aload_n 0, 1) := by decide +kernel
theorem d_Ck_lookAt_36 : decode b_Ck_lookAt 36 = .ok (.aload_n 1, 1) := by decide +kernel
theorem d_Ck_lookAt_37 : decode b_Ck_lookAt 37 = .ok (.getfield 42, 3) := by decide +kernel
theorem d_Ck_lookAt_40 : decode b_Ck_lookAt 40 = .ok (.invokevirtual 46, 3) := by decide +kernel
theorem d_Ck_lookAt_43 : decode b_Ck_lookAt 43 = .ok (.aload_n 0, 1) := by decide +kernel
theorem d_Ck_lookAt_44 : decode b_Ck_lookAt 44 = .ok (.aload_n 1, 1) := by decide +kernel
theorem d_Ck_lookAt_45 : decode b_Ck_lookAt 45 = .ok (.invokevirtual 50, 3) := by decide +kernel
theorem d_Ck_lookAt_48 : decode b_Ck_lookAt 48 = .ok (.aload_n 0, 1) := by decide +kernel
theorem d_Ck_lookAt_49 : decode b_Ck_lookAt 49 = .ok (.aload_n 1, 1) := by decide +kernel
theorem d_Ck_lookAt_50 : decode b_Ck_lookAt 50 = .ok (.invokevirtual 53, 3) := by decide +kernel
theorem d_Ck_lookAt_53 : decode b_Ck_lookAt 53 = .ok (.return_, 1) := by decide +kernel
theorem d_Ck_findLostSpots_0 : decode b_Ck_findLostSpots 0 = .ok (.iconst 1, 1) := by decide +kernel
theorem d_Ck_findLostSpots_1 : decode b_Ck_findLostSpots 1 = .ok (.istore 4, 2) := by decide +kernel
theorem d_Ck_findLostSpots_3 : decode b_Ck_findLostSpots 3 = .ok (.iload 4, 2) := by decide +kernel
theorem d_Ck_findLostSpots_5 : decode b_Ck_findLostSpots 5 = .ok (.bipush 30, 2) := by decide +kernel
theorem d_Ck_findLostSpots_7 : decode b_Ck_findLostSpots 7 = .ok (.if_icmp .gt 58, 3) := by decide +kernel
theorem d_Ck_findLostSpots_10 : decode b_Ck_findLostSpots 10 = .ok (.aload_n 2, 1) := by decide +kernel
theorem d_Ck_findLostSpots_11 : decode b_Ck_findLostSpots 11 = .ok (.iload 4, 2) := by decide +kernel
theorem d_Ck_findLostSpots_13 : decode b_Ck_findLostSpots 13 = .ok (.invokevirtual 56, 3) := by decide +kernel
theorem d_Ck_findLostSpots_16 : decode b_Ck_findLostSpots 16 = .ok (.ifCond .eq 43, 3) := by decide +kernel
theorem d_Ck_findLostSpots_19 : decode b_Ck_findLostSpots 19 = .ok (.aload_n 1, 1) := by decide +kernel
theorem d_Ck_findLostSpots_20 : decode b_Ck_findLostSpots 20 = .ok (.aload_n 2, 1) := by decide +kernel
theorem d_Ck_findLostSpots_21 : decode b_Ck_findLostSpots 21 = .ok (.getfield 62, 3) := by decide +kernel
theorem d_Ck_findLostSpots_24 : decode b_Ck_findLostSpots 24 = .ok (.iload 4, 2) := by decide +kernel
theorem d_Ck_findLostSpots_26 : decode b_Ck_findLostSpots 26 = .ok (.iaload, 1) := by decide +kernel
theorem d_Ck_findLostSpots_27 : decode b_Ck_findLostSpots 27 = .ok (.invokevirtual 65, 3) := by decide +kernel
theorem d_Ck_findLostSpots_30 : decode b_Ck_findLostSpots 30 = .ok (.astore 5, 2) := by decide +kernel
theorem d_Ck_findLostSpots_32 : decode b_Ck_findLostSpots 32 = .ok (.aload 5, 2) := by decide +kernel
theorem d_Ck_findLostSpots_34 : decode b_Ck_findLostSpots 34 = .ok (.ifnull 18, 3) := by decide +kernel
theorem d_Ck_findLostSpots_37 : decode b_Ck_findLostSpots 37 = .ok (.aload_n 2, 1) := by decide +kernel
theorem d_Ck_findLostSpots_38 : decode b_Ck_findLostSpots 38 = .ok (.getfield 69, 3) := by decide +kernel
theorem d_Ck_findLostSpots_41 : decode b_Ck_findLostSpots 41 = .ok (.iload 4, 2) := by decide +kernel
theorem d_Ck_findLostSpots_43 : decode b_Ck_findLostSpots 43 = .ok (.iaload, 1) := by decide +kernel
theorem d_Ck_findLostSpots_44 : decode b_Ck_findLostSpots 44 = .ok (.aload 5, 2) := by decide +kernel
theorem d_Ck_findLostSpots_46 : decode b_Ck_findLostSpots 46 = .ok (.getfield 72, 3) := by decide +kernel
theorem d_Ck_findLostSpots_49 : decode b_Ck_findLostSpots 49 = .ok (.if_icmp .le 10, 3) := by decide +kernel
theorem d_Ck_findLostSpots_52 : decode b_Ck_findLostSpots 52 = .ok (.aload_n 0, 1) := by decide +kernel
theorem d_Ck_findLostSpots_53 : decode b_Ck_findLostSpots 53 = .ok (.iload_n 3, 1) := by decide +kernel
theorem d_Ck_findLostSpots_54 : decode b_Ck_findLostSpots 54 = .ok (.iload 4, 2) := by decide +kernel
theorem d_Ck_findLostSpots_56 : decode b_Ck_findLostSpots 56 = .ok (.invokevirtual 77, 3) := by decide +kernel
theorem d_Ck_findLostSpots_59 : decode b_Ck_findLostSpots 59 = .ok (.iinc 4 1, 3) := by decide +kernel
theorem d_Ck_findLostSpots_62 : decode b_Ck_findLostSpots 62 = .ok (.goto (-59), 3) := by decide +kernel
theorem d_Ck_findLostSpots_65 : decode b_Ck_findLostSpots 65 = .ok (.return_, 1) := by decide +kernel
theorem d_Ck_add_0 : decode b_Ck_add 0 = .ok (.aload_n 0, 1) := by decide +kernel
theorem d_Ck_add_1 : decode b_Ck_add 1 = .ok (.getfield 18, 3) := by decide +kernel
theorem d_Ck_add_4 : decode b_Ck_add 4 = .ok (.sipush 250, 3) := by decide +kernel
theorem d_Ck_add_7 : decode b_Ck_add 7 = .ok (.if_icmp .ge 33, 3) := by decide +kernel
theorem d_Ck_add_10 : decode b_Ck_add 10 = .ok (.aload_n 0, 1) := by decide +kernel
theorem d_Ck_add_11 : decode b_Ck_add 11 = .ok (.getfield 11, 3) := by decide +kernel
theorem d_Ck_add_14 : decode b_Ck_add 14 = .ok (.aload_n 0, 1) := by decide +kernel
theorem d_Ck_add_15 : decode b_Ck_add 15 = .ok (.getfield 18, 3) := by decide +kernel
theorem d_Ck_add_18 : decode b_Ck_add 18 = .ok (.iload_n 1, 1) := by decide +kernel
theorem d_Ck_add_19 : decode b_Ck_add 19 = .ok (.iastore, 1) := by decide +kernel
theorem d_Ck_add_20 : decode b_Ck_add 20 = .ok (.aload_n 0, 1) := by decide +kernel
theorem d_Ck_add_21 : decode b_Ck_add 21 = .ok (.getfield 15, 3) := by decide +kernel
theorem d_Ck_add_24 : decode b_Ck_add 24 = .ok (.aload_n 0, 1) := by decide +kernel
theorem d_Ck_add_25 : decode b_Ck_add 25 = .ok (.getfield 18, 3) := by decide +kernel
theorem d_Ck_add_28 : decode b_Ck_add 28 = .ok (.iload_n 2, 1) := by decide +kernel
theorem d_Ck_add_29 : decode b_Ck_add 29 = .ok (.iastore, 1) := by decide +kernel
theorem d_Ck_add_30 : decode b_Ck_add 30 = .ok (.aload_n 0, 1) := by decide +kernel
theorem d_Ck_add_31 : decode b_Ck_add 31 = .ok (.dup, 1) := by decide +kernel
theorem d_Ck_add_32 : decode b_Ck_add 32 = .ok (.getfield 18, 3) := by decide +kernel
theorem d_Ck_add_35 : decode b_Ck_add 35 = .ok (.iconst 1, 1) := by decide +kernel
theorem d_Ck_add_36 : decode b_Ck_add 36 = .ok (.iadd, 1) := by decide +kernel
theorem d_Ck_add_37 : decode b_Ck_add 37 = .ok (.putfield 18, 3) := by decide +kernel
theorem d_Ck_add_40 : decode b_Ck_add 40 = .ok (.return_, 1) := by decide +kernel
theorem d_Ck_findSameNames_0 : decode b_Ck_findSameNames 0 = .ok (.iconst 2, 1) := by decide +kernel
theorem d_Ck_findSameNames_1 : decode b_Ck_findSameNames 1 = .ok (.istore_n 2, 1) := by decide +kernel
theorem d_Ck_findSameNames_2 : decode b_Ck_findSameNames 2 = .ok (.iload_n 2, 1) := by decide +kernel
theorem d_Ck_findSameNames_3 : decode b_Ck_findSameNames 3 = .ok (.bipush 60, 2) := by decide +kernel
theorem d_Ck_findSameNames_5 : decode b_Ck_findSameNames 5 = .ok (.if_icmp .gt 24, 3) := by decide +kernel
theorem d_Ck_findSameNames_8 : decode b_Ck_findSameNames 8 = .ok (.aload_n 0, 1) := by decide +kernel
theorem d_Ck_findSameNames_9 : decode b_Ck_findSameNames 9 = .ok (.aload_n 1, 1) := by decide +kernel
theorem d_Ck_findSameNames_10 : decode b_Ck_findSameNames 10 = .ok (.iload_n 2, 1) := by decide +kernel
theorem d_Ck_findSameNames_11 : decode b_Ck_findSameNames 11 = .ok (.invokevirtual 81, 3) := by decide +kernel
theorem d_Ck_findSameNames_14 : decode b_Ck_findSameNames 14 = .ok (.ifCond .eq 9, 3) := by decide +kernel
theorem d_Ck_findSameNames_17 : decode b_Ck_findSameNames 17 = .ok (.aload_n 0, 1) := by decide +kernel
theorem d_Ck_findSameNames_18 : decode b_Ck_findSameNames 18 = .ok (.iconst 3, 1) := by decide +kernel
theorem d_Ck_findSameNames_19 : decode b_Ck_findSameNames 19 = .ok (.iload_n 2, 1) := by decide +kernel
theorem d_Ck_findSameNames_20 : decode b_Ck_findSameNames 20 = .ok (.invokevirtual 77, 3) := by decide +kernel
theorem d_Ck_findSameNames_23 : decode b_Ck_findSameNames 23 = .ok (.iinc 2 1, 3) := by decide +kernel
theorem d_Ck_findSameNames_26 : decode b_Ck_findSameNames 26 = .ok (.goto (-24), 3) := by decide +kernel
theorem d_Ck_findSameNames_29 : decode b_Ck_findSameNames 29 = .ok (.return_, 1) := by decide +kernel
theorem d_Ck_hasNameOfLower_0 : decode b_Ck_hasNameOfLower 0 = .ok (.aload_n 1, 1) := by decide +kernel
theorem d_Ck_hasNameOfLower_1 : decode b_Ck_hasNameOfLower 1 = .ok (.iload_n 2, 1) := by decide +kernel
theorem d_Ck_hasNameOfLower_2 : decode b_Ck_hasNameOfLower 2 = .ok (.invokevirtual 65, 3) := by decide +kernel
theorem d_Ck_hasNameOfLower_5 : decode b_Ck_hasNameOfLower 5 = .ok (.astore_n 3, 1) := by decide +kernel
theorem d_Ck_hasNameOfLower_6 : decode b_Ck_hasNameOfLower 6 = .ok (.aload_n 3, 1) := by decide +kernel
theorem d_Ck_hasNameOfLower_7 : decode b_Ck_hasNameOfLower 7 = .ok (.ifnonnull 5, 3) := by decide +kernel
theorem d_Ck_hasNameOfLower_10 : decode b_Ck_hasNameOfLower 10 = .ok (.iconst 0, 1) := by decide +kernel
theorem d_Ck_hasNameOfLower_11 : decode b_Ck_hasNameOfLower 11 = .ok (.ireturn, 1) := by decide +kernel
theorem d_Ck_hasNameOfLower_12 : decode b_Ck_hasNameOfLower 12 = .ok (.iconst 1, 1) := by decide +kernel
theorem d_Ck_hasNameOfLower_13 : decode b_Ck_hasNameOfLower 13 = .ok (.istore 4, 2) := by decide +kernel
theorem d_Ck_hasNameOfLower_15 : decode b_Ck_hasNameOfLower 15 = .ok (.iload 4, 2) := by decide +kernel
theorem d_Ck_hasNameOfLower_17 : decode b_Ck_hasNameOfLower 17 = .ok (.iload_n 2, 1) := by decide +kernel
theorem d_Ck_hasNameOfLower_18 : decode b_Ck_hasNameOfLower 18 = .ok (.if_icmp .ge 33, 3) := by decide +kernel
theorem d_Ck_hasNameOfLower_21 : decode b_Ck_hasNameOfLower 21 = .ok (.aload_n 1, 1) := by decide +kernel
theorem d_Ck_hasNameOfLower_22 : decode b_Ck_hasNameOfLower 22 = .ok (.iload 4, 2) := by decide +kernel
theorem d_Ck_hasNameOfLower_24 : decode b_Ck_hasNameOfLower 24 = .ok (.invokevirtual 65, 3) := by decide +kernel
theorem d_Ck_hasNameOfLower_27 : decode b_Ck_hasNameOfLower 27 = .ok (.astore 5, 2) := by decide +kernel
theorem d_Ck_hasNameOfLower_29 : decode b_Ck_hasNameOfLower 29 = .ok (.aload 5, 2) := by decide +kernel
theorem d_Ck_hasNameOfLower_31 : decode b_Ck_hasNameOfLower 31 = .ok (.ifnull 14, 3) := by decide +kernel
theorem d_Ck_hasNameOfLower_34 : decode b_Ck_hasNameOfLower 34 = .ok (.aload_n 3, 1) := by decide +kernel
theorem d_Ck_hasNameOfLower_35 : decode b_Ck_hasNameOfLower 35 = .ok (.aload 5, 2) := by decide +kernel
theorem d_Ck_hasNameOfLower_37 : decode b_Ck_hasNameOfLower 37 = .ok (.invokevirtual 85, 3) := by decide +kernel
theorem d_Ck_hasNameOfLower_40 : decode b_Ck_hasNameOfLower 40 = .ok (.ifCond .eq 5, 3) := by decide +kernel
theorem d_Ck_hasNameOfLower_43 : decode b_Ck_hasNameOfLower 43 = .ok (.iconst 1, 1) := by decide +kernel
theorem d_Ck_hasNameOfLower_44 : decode b_Ck_hasNameOfLower 44 = .ok (.ireturn, 1) := by decide +kernel
theorem d_Ck_hasNameOfLower_45 : decode b_Ck_hasNameOfLower 45 = .ok (.iinc 4 1, 3) := by decide +kernel
theorem d_Ck_hasNameOfLower_48 : decode b_Ck_hasNameOfLower 48 = .ok (.goto (-33), 3) := by decide +kernel
theorem d_Ck_hasNameOfLower_51 : decode b_Ck_hasNameOfLower 51 = .ok (.iconst 0, 1) := by decide +kernel
theorem d_Ck_hasNameOfLower_52 : decode b_Ck_hasNameOfLower 52 = .ok (.ireturn, 1) := by decide +kernel
theorem d_Ck_findIdleTurns_0 : decode b_Ck_findIdleTurns 0 = .ok (.aload_n 1, 1) := by decide +kernel
theorem d_Ck_findIdleTurns_1 : decode b_Ck_findIdleTurns 1 = .ok (.getfield 42, 3) := by decide +kernel
theorem d_Ck_findIdleTurns_4 : decode b_Ck_findIdleTurns 4 = .ok (.astore_n 2, 1) := by decide +kernel
theorem d_Ck_findIdleTurns_5 : decode b_Ck_findIdleTurns 5 = .ok (.iconst 1, 1) := by decide +kernel
theorem d_Ck_findIdleTurns_6 : decode b_Ck_findIdleTurns 6 = .ok (.istore_n 3, 1) := by decide +kernel
theorem d_Ck_findIdleTurns_7 : decode b_Ck_findIdleTurns 7 = .ok (.iload_n 3, 1) := by decide +kernel
theorem d_Ck_findIdleTurns_8 : decode b_Ck_findIdleTurns 8 = .ok (.bipush 40, 2) := by decide +kernel
theorem d_Ck_findIdleTurns_10 : decode b_Ck_findIdleTurns 10 = .ok (.if_icmp .gt 74, 3) := by decide +kernel
theorem d_Ck_findIdleTurns_13 : decode b_Ck_findIdleTurns 13 = .ok (.iconst 0, 1) := by decide +kernel
theorem d_Ck_findIdleTurns_14 : decode b_Ck_findIdleTurns 14 = .ok (.istore 4, 2) := by decide +kernel
theorem d_Ck_findIdleTurns_16 : decode b_Ck_findIdleTurns 16 = .ok (.iload 4, 2) := by decide +kernel
theorem d_Ck_findIdleTurns_18 : decode b_Ck_findIdleTurns 18 = .ok (.aload_n 2, 1) := by decide +kernel
theorem d_Ck_findIdleTurns_19 : decode b_Ck_findIdleTurns 19 = .ok (.getfield 89, 3) := by decide +kernel
theorem d_Ck_findIdleTurns_22 : decode b_Ck_findIdleTurns 22 = .ok (.if_icmp .ge 56, 3) := by decide +kernel
theorem d_Ck_findIdleTurns_25 : decode b_Ck_findIdleTurns 25 = .ok (.aload_n 2, 1) := by decide +kernel
theorem d_Ck_findIdleTurns_26 : decode b_Ck_findIdleTurns 26 = .ok (.getfield 92, 3) := by decide +kernel
theorem d_Ck_findIdleTurns_29 : decode b_Ck_findIdleTurns 29 = .ok (.iload 4, 2) := by decide +kernel
theorem d_Ck_findIdleTurns_31 : decode b_Ck_findIdleTurns 31 = .ok (.iaload, 1) := by decide +kernel
theorem d_Ck_findIdleTurns_32 : decode b_Ck_findIdleTurns 32 = .ok (.iload_n 3, 1) := by decide +kernel
theorem d_Ck_findIdleTurns_33 : decode b_Ck_findIdleTurns 33 = .ok (.if_icmp .ne 39, 3) := by decide +kernel
theorem d_Ck_findIdleTurns_36 : decode b_Ck_findIdleTurns 36 = .ok (.aload_n 1, 1) := by decide +kernel
theorem d_Ck_findIdleTurns_37 : decode b_Ck_findIdleTurns 37 = .ok (.aload_n 2, 1) := by decide +kernel
theorem d_Ck_findIdleTurns_38 : decode b_Ck_findIdleTurns 38 = .ok (.getfield 95, 3) := by decide +kernel
theorem d_Ck_findIdleTurns_41 : decode b_Ck_findIdleTurns 41 = .ok (.iload 4, 2) := by decide +kernel
theorem d_Ck_findIdleTurns_43 : decode b_Ck_findIdleTurns 43 = .ok (.iaload, 1) := by decide +kernel
theorem d_Ck_findIdleTurns_44 : decode b_Ck_findIdleTurns 44 = .ok (.iload_n 3, 1) := by decide +kernel
theorem d_Ck_findIdleTurns_45 : decode b_Ck_findIdleTurns 45 = .ok (.invokevirtual 98, 3) := by decide +kernel
theorem d_Ck_findIdleTurns_48 : decode b_Ck_findIdleTurns 48 = .ok (.ifCond .eq 18, 3) := by decide +kernel
theorem d_Ck_findIdleTurns_51 : decode b_Ck_findIdleTurns 51 = .ok (.aload_n 1, 1) := by decide +kernel
theorem d_Ck_findIdleTurns_52 : decode b_Ck_findIdleTurns 52 = .ok (.iload_n 3, 1) := by decide +kernel
theorem d_Ck_findIdleTurns_53 : decode b_Ck_findIdleTurns 53 = .ok (.aload_n 2, 1) := by decide +kernel
theorem d_Ck_findIdleTurns_54 : decode b_Ck_findIdleTurns 54 = .ok (.getfield 102, 3) := by decide +kernel
theorem d_Ck_findIdleTurns_57 : decode b_Ck_findIdleTurns 57 = .ok (.iload 4, 2) := by decide +kernel
theorem d_Ck_findIdleTurns_59 : decode b_Ck_findIdleTurns 59 = .ok (.iaload, 1) := by decide +kernel
theorem d_Ck_findIdleTurns_60 : decode b_Ck_findIdleTurns 60 = .ok (.invokevirtual 98, 3) := by decide +kernel
theorem d_Ck_findIdleTurns_63 : decode b_Ck_findIdleTurns 63 = .ok (.ifCond .ne 9, 3) := by decide +kernel
theorem d_Ck_findIdleTurns_66 : decode b_Ck_findIdleTurns 66 = .ok (.aload_n 0, 1) := by decide +kernel
theorem d_Ck_findIdleTurns_67 : decode b_Ck_findIdleTurns 67 = .ok (.iconst 4, 1) := by decide +kernel
theorem d_Ck_findIdleTurns_68 : decode b_Ck_findIdleTurns 68 = .ok (.iload_n 3, 1) := by decide +kernel
theorem d_Ck_findIdleTurns_69 : decode b_Ck_findIdleTurns 69 = .ok (.invokevirtual 77, 3) := by decide +kernel
theorem d_Ck_findIdleTurns_72 : decode b_Ck_findIdleTurns 72 = .ok (.iinc 4 1, 3) := by decide +kernel
theorem d_Ck_findIdleTurns_75 : decode b_Ck_findIdleTurns 75 = .ok (.goto (-59), 3) := by decide +kernel
theorem d_Ck_findIdleTurns_78 : decode b_Ck_findIdleTurns 78 = .ok (.iinc 3 1, 3) := by decide +kernel
theorem d_Ck_findIdleTurns_81 : decode b_Ck_findIdleTurns 81 = .ok (.goto (-74), 3) := by decide +kernel
theorem d_Ck_findIdleTurns_84 : decode b_Ck_findIdleTurns 84 = .ok (.return_, 1) := by decide +kernel
theorem d_Ck_findWalls_0 : decode b_Ck_findWalls 0 = .ok (.iconst 1, 1) := by decide +kernel
theorem d_Ck_findWalls_1 : decode b_Ck_findWalls 1 = .ok (.istore_n 2, 1) := by decide +kernel
theorem d_Ck_findWalls_2 : decode b_Ck_findWalls 2 = .ok (.iload_n 2, 1) := by decide +kernel
theorem d_Ck_findWalls_3 : decode b_Ck_findWalls 3 = .ok (.bipush 40, 2) := by decide +kernel
theorem d_Ck_findWalls_5 : decode b_Ck_findWalls 5 = .ok (.if_icmp .gt 24, 3) := by decide +kernel
theorem d_Ck_findWalls_8 : decode b_Ck_findWalls 8 = .ok (.aload_n 0, 1) := by decide +kernel
theorem d_Ck_findWalls_9 : decode b_Ck_findWalls 9 = .ok (.aload_n 1, 1) := by decide +kernel
theorem d_Ck_findWalls_10 : decode b_Ck_findWalls 10 = .ok (.iload_n 2, 1) := by decide +kernel
theorem d_Ck_findWalls_11 : decode b_Ck_findWalls 11 = .ok (.invokevirtual 105, 3) := by decide +kernel
theorem d_Ck_findWalls_14 : decode b_Ck_findWalls 14 = .ok (.ifCond .eq 9, 3) := by decide +kernel
theorem d_Ck_findWalls_17 : decode b_Ck_findWalls 17 = .ok (.aload_n 0, 1) := by decide +kernel
theorem d_Ck_findWalls_18 : decode b_Ck_findWalls 18 = .ok (.iconst 5, 1) := by decide +kernel
theorem d_Ck_findWalls_19 : decode b_Ck_findWalls 19 = .ok (.iload_n 2, 1) := by decide +kernel
theorem d_Ck_findWalls_20 : decode b_Ck_findWalls 20 = .ok (.invokevirtual 77, 3) := by decide +kernel
theorem d_Ck_findWalls_23 : decode b_Ck_findWalls 23 = .ok (.iinc 2 1, 3) := by decide +kernel
theorem d_Ck_findWalls_26 : decode b_Ck_findWalls 26 = .ok (.goto (-24), 3) := by decide +kernel
theorem d_Ck_findWalls_29 : decode b_Ck_findWalls 29 = .ok (.return_, 1) := by decide +kernel
theorem d_Ck_isWall_0 : decode b_Ck_isWall 0 = .ok (.iconst 0, 1) := by decide +kernel
theorem d_Ck_isWall_1 : decode b_Ck_isWall 1 = .ok (.istore_n 3, 1) := by decide +kernel
theorem d_Ck_isWall_2 : decode b_Ck_isWall 2 = .ok (.iload_n 3, 1) := by decide +kernel
theorem d_Ck_isWall_3 : decode b_Ck_isWall 3 = .ok (.aload_n 1, 1) := by decide +kernel
theorem d_Ck_isWall_4 : decode b_Ck_isWall 4 = .ok (.getfield 89, 3) := by decide +kernel
theorem d_Ck_isWall_7 : decode b_Ck_isWall 7 = .ok (.if_icmp .ge 56, 3) := by decide +kernel
theorem d_Ck_isWall_10 : decode b_Ck_isWall 10 = .ok (.aload_n 1, 1) := by decide +kernel
theorem d_Ck_isWall_11 : decode b_Ck_isWall 11 = .ok (.getfield 92, 3) := by decide +kernel
theorem d_Ck_isWall_14 : decode b_Ck_isWall 14 = .ok (.iload_n 3, 1) := by decide +kernel
theorem d_Ck_isWall_15 : decode b_Ck_isWall 15 = .ok (.iaload, 1) := by decide +kernel
theorem d_Ck_isWall_16 : decode b_Ck_isWall 16 = .ok (.iload_n 2, 1) := by decide +kernel
theorem d_Ck_isWall_17 : decode b_Ck_isWall 17 = .ok (.if_icmp .ne 40, 3) := by decide +kernel
theorem d_Ck_isWall_20 : decode b_Ck_isWall 20 = .ok (.aload_n 1, 1) := by decide +kernel
theorem d_Ck_isWall_21 : decode b_Ck_isWall 21 = .ok (.getfield 95, 3) := by decide +kernel
theorem d_Ck_isWall_24 : decode b_Ck_isWall 24 = .ok (.iload_n 3, 1) := by decide +kernel
theorem d_Ck_isWall_25 : decode b_Ck_isWall 25 = .ok (.iaload, 1) := by decide +kernel
theorem d_Ck_isWall_26 : decode b_Ck_isWall 26 = .ok (.aload_n 1, 1) := by decide +kernel
theorem d_Ck_isWall_27 : decode b_Ck_isWall 27 = .ok (.getfield 102, 3) := by decide +kernel
theorem d_Ck_isWall_30 : decode b_Ck_isWall 30 = .ok (.iload_n 3, 1) := by decide +kernel
theorem d_Ck_isWall_31 : decode b_Ck_isWall 31 = .ok (.iaload, 1) := by decide +kernel
theorem d_Ck_isWall_32 : decode b_Ck_isWall 32 = .ok (.if_icmp .eq 25, 3) := by decide +kernel
theorem d_Ck_isWall_35 : decode b_Ck_isWall 35 = .ok (.aload_n 1, 1) := by decide +kernel
theorem d_Ck_isWall_36 : decode b_Ck_isWall 36 = .ok (.aload_n 1, 1) := by decide +kernel
theorem d_Ck_isWall_37 : decode b_Ck_isWall 37 = .ok (.getfield 102, 3) := by decide +kernel
theorem d_Ck_isWall_40 : decode b_Ck_isWall 40 = .ok (.iload_n 3, 1) := by decide +kernel
theorem d_Ck_isWall_41 : decode b_Ck_isWall 41 = .ok (.iaload, 1) := by decide +kernel
theorem d_Ck_isWall_42 : decode b_Ck_isWall 42 = .ok (.iload_n 2, 1) := by decide +kernel
theorem d_Ck_isWall_43 : decode b_Ck_isWall 43 = .ok (.aload_n 1, 1) := by decide +kernel
theorem d_Ck_isWall_44 : decode b_Ck_isWall 44 = .ok (.getfield 95, 3) := by decide +kernel
theorem d_Ck_isWall_47 : decode b_Ck_isWall 47 = .ok (.iload_n 3, 1) := by decide +kernel
theorem d_Ck_isWall_48 : decode b_Ck_isWall 48 = .ok (.iaload, 1) := by decide +kernel
theorem d_Ck_isWall_49 : decode b_Ck_isWall 49 = .ok (.invokevirtual 109, 3) := by decide +kernel
theorem d_Ck_isWall_52 : decode b_Ck_isWall 52 = .ok (.ifCond .eq 5, 3) := by decide +kernel
theorem d_Ck_isWall_55 : decode b_Ck_isWall 55 = .ok (.iconst 1, 1) := by decide +kernel
theorem d_Ck_isWall_56 : decode b_Ck_isWall 56 = .ok (.ireturn, 1) := by decide +kernel
theorem d_Ck_isWall_57 : decode b_Ck_isWall 57 = .ok (.iinc 3 1, 3) := by decide +kernel
theorem d_Ck_isWall_60 : decode b_Ck_isWall 60 = .ok (.goto (-58), 3) := by decide +kernel
theorem d_Ck_isWall_63 : decode b_Ck_isWall 63 = .ok (.iconst 0, 1) := by decide +kernel
theorem d_Ck_isWall_64 : decode b_Ck_isWall 64 = .ok (.ireturn, 1) := by decide +kernel
theorem d_Ck_findEnds_0 : decode b_Ck_findEnds 0 = .ok (.lconst 0, 1) := by decide +kernel
theorem d_Ck_findEnds_1 : decode b_Ck_findEnds 1 = .ok (.lstore_n 2, 1) := by decide +kernel
theorem d_Ck_findEnds_2 : decode b_Ck_findEnds 2 = .ok (.lconst 0, 1) := by decide +kernel
theorem d_Ck_findEnds_3 : decode b_Ck_findEnds 3 = .ok (.lstore 4, 2) := by decide +kernel
theorem d_Ck_findEnds_5 : decode b_Ck_findEnds 5 = .ok (.iconst 1, 1) := by decide +kernel
theorem d_Ck_findEnds_6 : decode b_Ck_findEnds 6 = .ok (.istore 6, 2) := by decide +kernel
theorem d_Ck_findEnds_8 : decode b_Ck_findEnds 8 = .ok (.iload 6, 2) := by decide +kernel
theorem d_Ck_findEnds_10 : decode b_Ck_findEnds 10 = .ok (.bipush 60, 2) := by decide +kernel
theorem d_Ck_findEnds_12 : decode b_Ck_findEnds 12 = .ok (.if_icmp .gt 40, 3) := by decide +kernel
theorem d_Ck_findEnds_15 : decode b_Ck_findEnds 15 = .ok (.aload_n 1, 1) := by decide +kernel
theorem d_Ck_findEnds_16 : decode b_Ck_findEnds 16 = .ok (.iload 6, 2) := by decide +kernel
theorem d_Ck_findEnds_18 : decode b_Ck_findEnds 18 = .ok (.invokevirtual 65, 3) := by decide +kernel
theorem d_Ck_findEnds_21 : decode b_Ck_findEnds 21 = .ok (.astore 7, 2) := by decide +kernel
theorem d_Ck_findEnds_23 : decode b_Ck_findEnds 23 = .ok (.aload 7, 2) := by decide +kernel
theorem d_Ck_findEnds_25 : decode b_Ck_findEnds 25 = .ok (.ifnull 21, 3) := by decide +kernel
theorem d_Ck_findEnds_28 : decode b_Ck_findEnds 28 = .ok (.lload_n 2, 1) := by decide +kernel
theorem d_Ck_findEnds_29 : decode b_Ck_findEnds 29 = .ok (.aload 7, 2) := by decide +kernel
theorem d_Ck_findEnds_31 : decode b_Ck_findEnds 31 = .ok (.invokevirtual 112, 3) := by decide +kernel
theorem d_Ck_findEnds_34 : decode b_Ck_findEnds 34 = .ok (.lor, 1) := by decide +kernel
theorem d_Ck_findEnds_35 : decode b_Ck_findEnds 35 = .ok (.lstore_n 2, 1) := by decide +kernel
theorem d_Ck_findEnds_36 : decode b_Ck_findEnds 36 = .ok (.lload 4, 2) := by decide +kernel
theorem d_Ck_findEnds_38 : decode b_Ck_findEnds 38 = .ok (.aload 7, 2) := by decide +kernel
theorem d_Ck_findEnds_40 : decode b_Ck_findEnds 40 = .ok (.invokevirtual 116, 3) := by decide +kernel
theorem d_Ck_findEnds_43 : decode b_Ck_findEnds 43 = .ok (.lor, 1) := by decide +kernel
theorem d_Ck_findEnds_44 : decode b_Ck_findEnds 44 = .ok (.lstore 4, 2) := by decide +kernel
theorem d_Ck_findEnds_46 : decode b_Ck_findEnds 46 = .ok (.iinc 6 1, 3) := by decide +kernel
theorem d_Ck_findEnds_49 : decode b_Ck_findEnds 49 = .ok (.goto (-41), 3) := by decide +kernel
theorem d_Ck_findEnds_52 : decode b_Ck_findEnds 52 = .ok (.lload_n 2, 1) := by decide +kernel
theorem d_Ck_findEnds_53 : decode b_Ck_findEnds 53 = .ok (.lload 4, 2) := by decide +kernel
theorem d_Ck_findEnds_55 : decode b_Ck_findEnds 55 = .ok (.ldc2_w 119, 3) := by decide +kernel
theorem d_Ck_findEnds_58 : decode b_Ck_findEnds 58 = .ok (.lxor, 1) := by decide +kernel
theorem d_Ck_findEnds_59 : decode b_Ck_findEnds 59 = .ok (.land, 1) := by decide +kernel
theorem d_Ck_findEnds_60 : decode b_Ck_findEnds 60 = .ok (.lstore 6, 2) := by decide +kernel
theorem d_Ck_findEnds_62 : decode b_Ck_findEnds 62 = .ok (.iconst 1, 1) := by decide +kernel
theorem d_Ck_findEnds_63 : decode b_Ck_findEnds 63 = .ok (.istore 8, 2) := by decide +kernel
theorem d_Ck_findEnds_65 : decode b_Ck_findEnds 65 = .ok (.iload 8, 2) := by decide +kernel
theorem d_Ck_findEnds_67 : decode b_Ck_findEnds 67 = .ok (.bipush 40, 2) := by decide +kernel
theorem d_Ck_findEnds_69 : decode b_Ck_findEnds 69 = .ok (.if_icmp .gt 29, 3) := by decide +kernel
theorem d_Ck_findEnds_72 : decode b_Ck_findEnds 72 = .ok (.lload 6, 2) := by decide +kernel
theorem d_Ck_findEnds_74 : decode b_Ck_findEnds 74 = .ok (.iload 8, 2) := by decide +kernel
theorem d_Ck_findEnds_76 : decode b_Ck_findEnds 76 = .ok (.lshr, 1) := by decide +kernel
theorem d_Ck_findEnds_77 : decode b_Ck_findEnds 77 = .ok (.lconst 1, 1) := by decide +kernel
theorem d_Ck_findEnds_78 : decode b_Ck_findEnds 78 = .ok (.land, 1) := by decide +kernel
theorem d_Ck_findEnds_79 : decode b_Ck_findEnds 79 = .ok (.lconst 0, 1) := by decide +kernel
theorem d_Ck_findEnds_80 : decode b_Ck_findEnds 80 = .ok (.lcmp, 1) := by decide +kernel
theorem d_Ck_findEnds_81 : decode b_Ck_findEnds 81 = .ok (.ifCond .eq 11, 3) := by decide +kernel
theorem d_Ck_findEnds_84 : decode b_Ck_findEnds 84 = .ok (.aload_n 0, 1) := by decide +kernel
theorem d_Ck_findEnds_85 : decode b_Ck_findEnds 85 = .ok (.bipush 6, 2) := by decide +kernel
theorem d_Ck_findEnds_87 : decode b_Ck_findEnds 87 = .ok (.iload 8, 2) := by decide +kernel
theorem d_Ck_findEnds_89 : decode b_Ck_findEnds 89 = .ok (.invokevirtual 77, 3) := by decide +kernel
theorem d_Ck_findEnds_92 : decode b_Ck_findEnds 92 = .ok (.iinc 8 1, 3) := by decide +kernel
theorem d_Ck_findEnds_95 : decode b_Ck_findEnds 95 = .ok (.goto (-30), 3) := by decide +kernel
theorem d_Ck_findEnds_98 : decode b_Ck_findEnds 98 = .ok (.return_, 1) := by decide +kernel
theorem d_Ck_findUnreachedStations_0 : decode b_Ck_findUnreachedStations 0 = .ok (.aconst_null, 1) := by decide +kernel
theorem d_Ck_findUnreachedStations_1 : decode b_Ck_findUnreachedStations 1 = .ok (.astore_n 2, 1) := by decide +kernel
theorem d_Ck_findUnreachedStations_2 : decode b_Ck_findUnreachedStations 2 = .ok (.lconst 0, 1) := by decide +kernel
theorem d_Ck_findUnreachedStations_3 : decode b_Ck_findUnreachedStations 3 = .ok (.lstore_n 3, 1) := by decide +kernel
theorem d_Ck_findUnreachedStations_4 : decode b_Ck_findUnreachedStations 4 = .ok (.iconst 1, 1) := by decide +kernel
theorem d_Ck_findUnreachedStations_5 : decode b_Ck_findUnreachedStations 5 = .ok (.istore 5, 2) := by decide +kernel
theorem d_Ck_findUnreachedStations_7 : decode b_Ck_findUnreachedStations 7 = .ok (.iload 5, 2) := by decide +kernel
theorem d_Ck_findUnreachedStations_9 : decode b_Ck_findUnreachedStations 9 = .ok (.bipush 30, 2) := by decide +kernel
theorem d_Ck_findUnreachedStations_11 : decode b_Ck_findUnreachedStations 11 = .ok (.if_icmp .gt 75, 3) := by decide +kernel
theorem d_Ck_findUnreachedStations_14 : decode b_Ck_findUnreachedStations 14 = .ok (.aload_n 1, 1) := by decide +kernel
theorem d_Ck_findUnreachedStations_15 : decode b_Ck_findUnreachedStations 15 = .ok (.aload_n 1, 1) := by decide +kernel
theorem d_Ck_findUnreachedStations_16 : decode b_Ck_findUnreachedStations 16 = .ok (.getfield 32, 3) := by decide +kernel
theorem d_Ck_findUnreachedStations_19 : decode b_Ck_findUnreachedStations 19 = .ok (.getfield 62, 3) := by decide +kernel
theorem d_Ck_findUnreachedStations_22 : decode b_Ck_findUnreachedStations 22 = .ok (.iload 5, 2) := by decide +kernel
theorem d_Ck_findUnreachedStations_24 : decode b_Ck_findUnreachedStations 24 = .ok (.iaload, 1) := by decide +kernel
theorem d_Ck_findUnreachedStations_25 : decode b_Ck_findUnreachedStations 25 = .ok (.invokevirtual 65, 3) := by decide +kernel
theorem d_Ck_findUnreachedStations_28 : decode b_Ck_findUnreachedStations 28 = .ok (.astore 6, 2) := by decide +kernel
theorem d_Ck_findUnreachedStations_30 : decode b_Ck_findUnreachedStations 30 = .ok (.aload 6, 2) := by decide +kernel
theorem d_Ck_findUnreachedStations_32 : decode b_Ck_findUnreachedStations 32 = .ok (.ifnull 48, 3) := by decide +kernel
theorem d_Ck_findUnreachedStations_35 : decode b_Ck_findUnreachedStations 35 = .ok (.aload_n 2, 1) := by decide +kernel
theorem d_Ck_findUnreachedStations_36 : decode b_Ck_findUnreachedStations 36 = .ok (.ifnonnull 16, 3) := by decide +kernel
theorem d_Ck_findUnreachedStations_39 : decode b_Ck_findUnreachedStations 39 = .ok (.aload 6, 2) := by decide +kernel
theorem d_Ck_findUnreachedStations_41 : decode b_Ck_findUnreachedStations 41 = .ok (.astore_n 2, 1) := by decide +kernel
theorem d_Ck_findUnreachedStations_42 : decode b_Ck_findUnreachedStations 42 = .ok (.aload_n 0, 1) := by decide +kernel
theorem d_Ck_findUnreachedStations_43 : decode b_Ck_findUnreachedStations 43 = .ok (.aload_n 1, 1) := by decide +kernel
theorem d_Ck_findUnreachedStations_44 : decode b_Ck_findUnreachedStations 44 = .ok (.aload_n 2, 1) := by decide +kernel
theorem d_Ck_findUnreachedStations_45 : decode b_Ck_findUnreachedStations 45 = .ok (.invokevirtual 121, 3) := by decide +kernel
theorem d_Ck_findUnreachedStations_48 : decode b_Ck_findUnreachedStations 48 = .ok (.invokevirtual 124, 3) := by decide +kernel
theorem d_Ck_findUnreachedStations_51 : decode b_Ck_findUnreachedStations 51 = .ok (.lstore_n 3, 1) := by decide +kernel
theorem d_Ck_findUnreachedStations_52 : decode b_Ck_findUnreachedStations 52 = .ok (.aload 6, 2) := by decide +kernel
theorem d_Ck_findUnreachedStations_54 : decode b_Ck_findUnreachedStations 54 = .ok (.invokevirtual 128, 3) := by decide +kernel
theorem d_Ck_findUnreachedStations_57 : decode b_Ck_findUnreachedStations 57 = .ok (.ifCond .eq 15, 3) := by decide +kernel
theorem d_Ck_findUnreachedStations_60 : decode b_Ck_findUnreachedStations 60 = .ok (.aload 6, 2) := by decide +kernel
theorem d_Ck_findUnreachedStations_62 : decode b_Ck_findUnreachedStations 62 = .ok (.invokevirtual 121, 3) := by decide +kernel
theorem d_Ck_findUnreachedStations_65 : decode b_Ck_findUnreachedStations 65 = .ok (.lload_n 3, 1) := by decide +kernel
theorem d_Ck_findUnreachedStations_66 : decode b_Ck_findUnreachedStations 66 = .ok (.land, 1) := by decide +kernel
theorem d_Ck_findUnreachedStations_67 : decode b_Ck_findUnreachedStations 67 = .ok (.lconst 0, 1) := by decide +kernel
theorem d_Ck_findUnreachedStations_68 : decode b_Ck_findUnreachedStations 68 = .ok (.lcmp, 1) := by decide +kernel
theorem d_Ck_findUnreachedStations_69 : decode b_Ck_findUnreachedStations 69 = .ok (.ifCond .ne 11, 3) := by decide +kernel
theorem d_Ck_findUnreachedStations_72 : decode b_Ck_findUnreachedStations 72 = .ok (.aload_n 0, 1) := by decide +kernel
theorem d_Ck_findUnreachedStations_73 : decode b_Ck_findUnreachedStations 73 = .ok (.bipush 7, 2) := by decide +kernel
theorem d_Ck_findUnreachedStations_75 : decode b_Ck_findUnreachedStations 75 = .ok (.iload 5, 2) := by decide +kernel
theorem d_Ck_findUnreachedStations_77 : decode b_Ck_findUnreachedStations 77 = .ok (.invokevirtual 77, 3) := by decide +kernel
theorem d_Ck_findUnreachedStations_80 : decode b_Ck_findUnreachedStations 80 = .ok (.iinc 5 1, 3) := by decide +kernel
theorem d_Ck_findUnreachedStations_83 : decode b_Ck_findUnreachedStations 83 = .ok (.goto (-76), 3) := by decide +kernel
theorem d_Ck_findUnreachedStations_86 : decode b_Ck_findUnreachedStations 86 = .ok (.return_, 1) := by decide +kernel
theorem d_Ck_nodesReachedFrom_0 : decode b_Ck_nodesReachedFrom 0 = .ok (.lload_n 2, 1) := by decide +kernel
theorem d_Ck_nodesReachedFrom_1 : decode b_Ck_nodesReachedFrom 1 = .ok (.lstore 4, 2) := by decide +kernel
theorem d_Ck_nodesReachedFrom_3 : decode b_Ck_nodesReachedFrom 3 = .ok (.iconst 0, 1) := by decide +kernel
theorem d_Ck_nodesReachedFrom_4 : decode b_Ck_nodesReachedFrom 4 = .ok (.istore 6, 2) := by decide +kernel
theorem d_Ck_nodesReachedFrom_6 : decode b_Ck_nodesReachedFrom 6 = .ok (.iload 6, 2) := by decide +kernel
theorem d_Ck_nodesReachedFrom_8 : decode b_Ck_nodesReachedFrom 8 = .ok (.bipush 40, 2) := by decide +kernel
theorem d_Ck_nodesReachedFrom_10 : decode b_Ck_nodesReachedFrom 10 = .ok (.if_icmp .ge 84, 3) := by decide +kernel
theorem d_Ck_nodesReachedFrom_13 : decode b_Ck_nodesReachedFrom 13 = .ok (.lload 4, 2) := by decide +kernel
theorem d_Ck_nodesReachedFrom_15 : decode b_Ck_nodesReachedFrom 15 = .ok (.lstore 7, 2) := by decide +kernel
theorem d_Ck_nodesReachedFrom_17 : decode b_Ck_nodesReachedFrom 17 = .ok (.iconst 1, 1) := by decide +kernel
theorem d_Ck_nodesReachedFrom_18 : decode b_Ck_nodesReachedFrom 18 = .ok (.istore 9, 2) := by decide +kernel
theorem d_Ck_nodesReachedFrom_20 : decode b_Ck_nodesReachedFrom 20 = .ok (.iload 9, 2) := by decide +kernel
theorem d_Ck_nodesReachedFrom_22 : decode b_Ck_nodesReachedFrom 22 = .ok (.bipush 60, 2) := by decide +kernel
theorem d_Ck_nodesReachedFrom_24 : decode b_Ck_nodesReachedFrom 24 = .ok (.if_icmp .gt 53, 3) := by decide +kernel
theorem d_Ck_nodesReachedFrom_27 : decode b_Ck_nodesReachedFrom 27 = .ok (.aload_n 1, 1) := by decide +kernel
theorem d_Ck_nodesReachedFrom_28 : decode b_Ck_nodesReachedFrom 28 = .ok (.iload 9, 2) := by decide +kernel
theorem d_Ck_nodesReachedFrom_30 : decode b_Ck_nodesReachedFrom 30 = .ok (.invokevirtual 65, 3) := by decide +kernel
theorem d_Ck_nodesReachedFrom_33 : decode b_Ck_nodesReachedFrom 33 = .ok (.astore 10, 2) := by decide +kernel
theorem d_Ck_nodesReachedFrom_35 : decode b_Ck_nodesReachedFrom 35 = .ok (.aload 10, 2) := by decide +kernel
theorem d_Ck_nodesReachedFrom_37 : decode b_Ck_nodesReachedFrom 37 = .ok (.ifnull 34, 3) := by decide +kernel
theorem d_Ck_nodesReachedFrom_40 : decode b_Ck_nodesReachedFrom 40 = .ok (.aload 10, 2) := by decide +kernel
theorem d_Ck_nodesReachedFrom_42 : decode b_Ck_nodesReachedFrom 42 = .ok (.invokevirtual 128, 3) := by decide +kernel
theorem d_Ck_nodesReachedFrom_45 : decode b_Ck_nodesReachedFrom 45 = .ok (.ifCond .eq 26, 3) := by decide +kernel
theorem d_Ck_nodesReachedFrom_48 : decode b_Ck_nodesReachedFrom 48 = .ok (.aload 10, 2) := by decide +kernel
theorem d_Ck_nodesReachedFrom_50 : decode b_Ck_nodesReachedFrom 50 = .ok (.invokevirtual 116, 3) := by decide +kernel
theorem d_Ck_nodesReachedFrom_53 : decode b_Ck_nodesReachedFrom 53 = .ok (.lload 4, 2) := by decide +kernel
theorem d_Ck_nodesReachedFrom_55 : decode b_Ck_nodesReachedFrom 55 = .ok (.land, 1) := by decide +kernel
theorem d_Ck_nodesReachedFrom_56 : decode b_Ck_nodesReachedFrom 56 = .ok (.lconst 0, 1) := by decide +kernel
theorem d_Ck_nodesReachedFrom_57 : decode b_Ck_nodesReachedFrom 57 = .ok (.lcmp, 1) := by decide +kernel
theorem d_Ck_nodesReachedFrom_58 : decode b_Ck_nodesReachedFrom 58 = .ok (.ifCond .eq 13, 3) := by decide +kernel
theorem d_Ck_nodesReachedFrom_61 : decode b_Ck_nodesReachedFrom 61 = .ok (.lload 4, 2) := by decide +kernel
theorem d_Ck_nodesReachedFrom_63 : decode b_Ck_nodesReachedFrom 63 = .ok (.aload 10, 2) := by decide +kernel
theorem d_Ck_nodesReachedFrom_65 : decode b_Ck_nodesReachedFrom 65 = .ok (.invokevirtual 112, 3) := by decide +kernel
theorem d_Ck_nodesReachedFrom_68 : decode b_Ck_nodesReachedFrom 68 = .ok (.lor, 1) := by decide +kernel
theorem d_Ck_nodesReachedFrom_69 : decode b_Ck_nodesReachedFrom 69 = .ok (.lstore 4, 2) := by decide +kernel
theorem d_Ck_nodesReachedFrom_71 : decode b_Ck_nodesReachedFrom 71 = .ok (.iinc 9 1, 3) := by decide +kernel
theorem d_Ck_nodesReachedFrom_74 : decode b_Ck_nodesReachedFrom 74 = .ok (.goto (-54), 3) := by decide +kernel
theorem d_Ck_nodesReachedFrom_77 : decode b_Ck_nodesReachedFrom 77 = .ok (.lload 4, 2) := by decide +kernel
theorem d_Ck_nodesReachedFrom_79 : decode b_Ck_nodesReachedFrom 79 = .ok (.lload 7, 2) := by decide +kernel
theorem d_Ck_nodesReachedFrom_81 : decode b_Ck_nodesReachedFrom 81 = .ok (.lcmp, 1) := by decide +kernel
theorem d_Ck_nodesReachedFrom_82 : decode b_Ck_nodesReachedFrom 82 = .ok (.ifCond .ne 6, 3) := by decide +kernel
theorem d_Ck_nodesReachedFrom_85 : decode b_Ck_nodesReachedFrom 85 = .ok (.goto 9, 3) := by decide +kernel
theorem d_Ck_nodesReachedFrom_88 : decode b_Ck_nodesReachedFrom 88 = .ok (.iinc 6 1, 3) := by decide +kernel
theorem d_Ck_nodesReachedFrom_91 : decode b_Ck_nodesReachedFrom 91 = .ok (.goto (-85), 3) := by decide +kernel
theorem d_Ck_nodesReachedFrom_94 : decode b_Ck_nodesReachedFrom 94 = .ok (.lload 4, 2) := by decide +kernel
theorem d_Ck_nodesReachedFrom_96 : decode b_Ck_nodesReachedFrom 96 = .ok (.lreturn, 1) := by decide +kernel

set_option maxHeartbeats 4000000 in
set_option maxRecDepth 100000 in
/-- Checker() -/
theorem c_Ck_init (l : Launch) (G : Gx) (lo : Nat) (V : Vw) (sz : Nat) (ck : Nat) (hck : ck < sz) : Met l y_Ck_init ws_Ck_init ({ frames := 1, cells := 2, slots := 500, locals := 12 } : Room) (vPre G lo [.ref ck] (vU V [(ck, eO 0 [.null, .null, .int 0])]) sz) (vPost G lo (fun r V' k => r = none ∧ V' = vU V [(sz + 1, eI (gI G) 250 (fun _ => 0)), (sz, eI (gI G) 250 (fun _ => 0)), (ck, eO 0 [.ref sz, .ref (sz + 1), .int 0])] ∧ k = sz + 2)) 2 500 (vL lo) := by
  refine vMet (R := RCk) (by decide) rfl (Nat.le_of_ble_eq_true rfl) ?_
  intro pg ev s mi args below meth cd hx hb hr hml hlk hnm hts hown hK hz hV ls hl
  have hl : lv_has ls 1 [(0, .ref ck)] := hl
  have hV0 := hV
  obtain ⟨H, hH⟩ : ∃ H, H = s.heap := ⟨_, rfl⟩
  obtain ⟨locs, hlocs⟩ : ∃ locs : List Loc, locs = [] := ⟨_, rfl⟩
  rw [← hH, ← hlocs]
  rw [← hH] at hz
  replace hV : vS G.1 cls lo s H locs (vU V [(ck, eO 0 [.null, .null, .int 0])]) := by rw [hH, hlocs]; exact hV
  clear hH hlocs hV0
  have hn : [ck].Nodup := by simp
  refine lv_aload_n hx hb d_Ck_init_0 rfl (lv_at hl 0 rfl) ?_
  refine W.objInit hx hb hown (hts _ w_ml_Ck_3) (hts _ w_im_Ob_init) (hts _ w_co_Ob_init) rfl (by rw [hml]; exact hl.1) rfl d_Ck_init_1 (Nat.le_of_ble_eq_true rfl) (Nat.le_of_ble_eq_true rfl) ?_
  refine W.eq (g2 := F0 mi 4 ls []) rfl ?_
  refine lv_aload_n hx hb d_Ck_init_4 rfl (lv_at hl 0 rfl) ?_
  refine lv_sipush (v := 250) hx hb d_Ck_init_5 (by decide) ?_
  refine u_newa (atype := .int) hx hb hts w_ac_int rfl hK hV 0 rfl (a0 := (250, .inl (fun _ => 0))) (fun _ => rfl) (by decide) (N' := 250) (by decide) (by decide) (Nat.le_of_ble_eq_true rfl) (Nat.le_of_ble_eq_true rfl) d_Ck_init_8 hz (fun H hV hz => ?_)
  have hV : vS G.1 cls lo s H locs (vU V [(sz, eI (gI G) 250 (fun _ => 0)), (ck, eO 0 [.null, .null, .int 0])]) := hV
  have hn : [sz, ck].Nodup := List.nodup_cons.mpr ⟨by simp only [List.mem_cons, List.not_mem_nil, or_false, not_or]; omega, hn⟩
  refine u_putF hx hb hts inCk tyCk tyCk_ok nmCk hown hK hV hn 1 rfl rfl 0 (by decide) w_fl_Ck_11 rfl rfl hnm rfl rfl rfl (Nat.le_of_ble_eq_true rfl) d_Ck_init_10 (fun H locs hV hz9 => ?_)
  have hV : vS G.1 cls lo s H locs (vU V [(sz, eI (gI G) 250 (fun _ => 0)), (ck, eO 0 [.ref sz, .null, .int 0])]) := hV
  replace hz := hz9.trans hz
  refine lv_aload_n hx hb d_Ck_init_13 rfl (lv_at hl 0 rfl) ?_
  refine lv_sipush (v := 250) hx hb d_Ck_init_14 (by decide) ?_
  refine u_newa (atype := .int) hx hb hts w_ac_int rfl hK hV 0 rfl (a0 := (250, .inl (fun _ => 0))) (fun _ => rfl) (by decide) (N' := 250) (by decide) (by decide) (Nat.le_of_ble_eq_true rfl) (Nat.le_of_ble_eq_true rfl) d_Ck_init_17 hz (fun H hV hz => ?_)
  have hV : vS G.1 cls lo s H locs (vU V [(sz + 1, eI (gI G) 250 (fun _ => 0)), (sz, eI (gI G) 250 (fun _ => 0)), (ck, eO 0 [.ref sz, .null, .int 0])]) := hV
  have hn : [sz + 1, sz, ck].Nodup := List.nodup_cons.mpr ⟨by simp only [List.mem_cons, List.not_mem_nil, or_false, not_or]; omega, hn⟩
  refine u_putF hx hb hts inCk tyCk tyCk_ok nmCk hown hK hV hn 2 rfl rfl 1 (by decide) w_fl_Ck_15 rfl rfl hnm rfl rfl rfl (Nat.le_of_ble_eq_true rfl) d_Ck_init_19 (fun H locs hV hz9 => ?_)
  have hV : vS G.1 cls lo s H locs (vU V [(sz + 1, eI (gI G) 250 (fun _ => 0)), (sz, eI (gI G) 250 (fun _ => 0)), (ck, eO 0 [.ref sz, .ref (sz + 1), .int 0])]) := hV
  replace hz := hz9.trans hz
  exact W.vret hx hb hr (v_end hV ⟨rfl, rfl, hz⟩) hV.2.1.2.2 d_Ck_init_22

set_option maxHeartbeats 4000000 in
set_option maxRecDepth 100000 in
/-- Checker.add -/
theorem c_Ck_add (l : Launch) (G : Gx) (lo : Nat) (V : Vw) (sz : Nat) (ck kk kn : Nat) (fk fn : Nat → Int32) (F : List Two) (hn : [ck, kk, kn].Nodup) (hO : ckOk fk fn F) (hF : F.length < 250) (a b : Nat) : Met l y_Ck_add ws_Ck_add ({ frames := 0, cells := 0, slots := 0, locals := 0 } : Room) (vPre G lo [.ref ck, .int (nI a), .int (nI b)] (vU V [(ck, eO 0 [.ref kk, .ref kn, .int (nI F.length)]), (kk, eI (gI G) 250 fk), (kn, eI (gI G) 250 fn)]) sz) (vPost G lo (fun r V' k => r = none ∧ (∃ f1 f2 : Nat → Int32, V' = vU V [(ck, eO 0 [.ref kk, .ref kn, .int (nI ((F ++ [(a, b)]).length))]), (kk, eI (gI G) 250 f1), (kn, eI (gI G) 250 f2)] ∧ ckOk f1 f2 (F ++ [(a, b)])) ∧ k = sz)) 0 0 (vL lo) := by
  refine vMet (R := RCk) (by decide) rfl (Nat.le_of_ble_eq_true rfl) ?_
  intro pg ev s mi args below meth cd hx hb hr hml hlk hnm hts hown hK hz hV ls hl
  have hl : lv_has ls 3 [(0, .ref ck), (1, .int (nI a)), (2, .int (nI b))] := hl
  have hV0 := hV
  obtain ⟨H, hH⟩ : ∃ H, H = s.heap := ⟨_, rfl⟩
  obtain ⟨locs, hlocs⟩ : ∃ locs : List Loc, locs = [] := ⟨_, rfl⟩
  rw [← hH, ← hlocs]
  rw [← hH] at hz
  replace hV : vS G.1 cls lo s H locs (vU V [(ck, eO 0 [.ref kk, .ref kn, .int (nI F.length)]), (kk, eI (gI G) 250 fk), (kn, eI (gI G) 250 fn)]) := by rw [hH, hlocs]; exact hV
  clear hH hlocs hV0
  refine lv_aload_n hx hb d_Ck_add_0 rfl (lv_at hl 0 rfl) ?_
  refine u_get hx hb hts inCk hown hK hV hn 0 rfl rfl 2 (by decide) w_fl_Ck_18 rfl rfl d_Ck_add_1 ?_
  refine lv_sipush (v := 250) hx hb d_Ck_add_4 (by decide) ?_
  refine lv_icmp_ge (tgt := 40) hx hb d_Ck_add_7 (by decide) (fun c_1 => absurd c_1 (nI_ge (a := F.length) (b := 250) hF (by decide))) (fun c_1 => ?_)
  replace c_1 : ¬ 250 ≤ F.length := fun z9 => c_1 ((nI_leI (a := 250) (b := F.length) (by omega) (by omega)).mpr z9)
  refine lv_aload_n hx hb d_Ck_add_10 rfl (lv_at hl 0 rfl) ?_
  refine u_get hx hb hts inCk hown hK hV hn 0 rfl rfl 0 (by decide) w_fl_Ck_11 rfl rfl d_Ck_add_11 ?_
  refine lv_aload_n hx hb d_Ck_add_14 rfl (lv_at hl 0 rfl) ?_
  refine u_get hx hb hts inCk hown hK hV hn 0 rfl rfl 2 (by decide) w_fl_Ck_18 rfl rfl d_Ck_add_15 ?_
  refine lv_iload_n hx hb d_Ck_add_18 rfl (lv_at hl 1 rfl) ?_
  refine u_iastN hx hb hK hV hn 1 rfl (by omega) (by decide) d_Ck_add_19 (fun H locs hV hz9 => ?_)
  have hV : vS G.1 cls lo s H locs (vU V [(ck, eO 0 [.ref kk, .ref kn, .int (nI F.length)]), (kk, eI (gI G) 250 (upd fk F.length (nI a))), (kn, eI (gI G) 250 fn)]) := hV
  replace hz := hz9.trans hz
  refine lv_aload_n hx hb d_Ck_add_20 rfl (lv_at hl 0 rfl) ?_
  refine u_get hx hb hts inCk hown hK hV hn 0 rfl rfl 1 (by decide) w_fl_Ck_15 rfl rfl d_Ck_add_21 ?_
  refine lv_aload_n hx hb d_Ck_add_24 rfl (lv_at hl 0 rfl) ?_
  refine u_get hx hb hts inCk hown hK hV hn 0 rfl rfl 2 (by decide) w_fl_Ck_18 rfl rfl d_Ck_add_25 ?_
  refine lv_iload_n hx hb d_Ck_add_28 rfl (lv_at hl 2 rfl) ?_
  refine u_iastN hx hb hK hV hn 2 rfl (by omega) (by decide) d_Ck_add_29 (fun H locs hV hz9 => ?_)
  have hV : vS G.1 cls lo s H locs (vU V [(ck, eO 0 [.ref kk, .ref kn, .int (nI F.length)]), (kk, eI (gI G) 250 (upd fk F.length (nI a))), (kn, eI (gI G) 250 (upd fn F.length (nI b)))]) := hV
  replace hz := hz9.trans hz
  refine lv_aload_n hx hb d_Ck_add_30 rfl (lv_at hl 0 rfl) ?_
  refine lv_dup hx hb d_Ck_add_31 rfl ?_
  refine u_get hx hb hts inCk hown hK hV hn 0 rfl rfl 2 (by decide) w_fl_Ck_18 rfl rfl d_Ck_add_32 ?_
  refine lv_iconst (v := 1) hx hb d_Ck_add_35 (by decide) ?_
  refine e_iadd (v := nI (F.length + 1)) hx hb d_Ck_add_36 (nI_add F.length 1) ?_
  refine u_put hx hb hts inCk tyCk tyCk_ok nmCk hown hK hV hn 0 rfl rfl 2 (by decide) w_fl_Ck_18 rfl rfl rfl rfl (Nat.le_of_ble_eq_true rfl) d_Ck_add_37 (fun H locs hV hz9 => ?_)
  have hV : vS G.1 cls lo s H locs (vU V [(ck, eO 0 [.ref kk, .ref kn, .int (nI (F.length + 1))]), (kk, eI (gI G) 250 (upd fk F.length (nI a))), (kn, eI (gI G) 250 (upd fn F.length (nI b)))]) := hV
  replace hz := hz9.trans hz
  exact W.vret hx hb hr (v_end hV ⟨rfl, ⟨_, _, by rw [List.length_append]; rfl, ckOk_add hO a b⟩, hz⟩) hV.2.1.2.2 d_Ck_add_40

set_option maxHeartbeats 4000000 in
set_option maxRecDepth 100000 in
/-- Checker.findLostSpots -/
theorem c_Ck_findLostSpots (l : Launch) (G : Gx) (lo : Nat) (V : Vw) (sz : Nat) (ck kk kn : Nat) (fk fn : Nat → Int32) (F : List Two) (tw ps bl sn tu sp po me : Nat) (fp fm : Nat → Int32) (B : Nat → Option (Nat × Nat)) (pf : Nat → Option Nat) (Q : Nat → Option PcR) (dy : Nat) (kd : Nat) (hn : [ck, kk, kn, tw, ps, sp, po, me].Nodup) (hO : ckOk fk fn F) (hF : F.length ≤ 220) (hB : twB G V dy sz pf Q) (hdc : ∀ a ∈ [ck, kk, kn, tw, ps, sp, po, me], a < dy) (hS : spOk fp fm B) : Met l y_Ck_findLostSpots ws_Ck_findLostSpots ({ frames := 1, cells := 0, slots := 0, locals := 23 } : Room) (vPre G lo [.ref ck, .ref tw, .ref sp, .int (nI kd)] (vU V [(ck, eO 0 [.ref kk, .ref kn, .int (nI F.length)]), (kk, eI (gI G) 250 fk), (kn, eI (gI G) 250 fn), (tw, eO 5 [.ref ps, .ref bl, .ref sn, .ref tu]), (ps, eQ (gP G) 61 pf), (sp, eO 4 [.ref po, .ref me]), (po, eI (gI G) 31 fp), (me, eI (gI G) 31 fm)]) sz) (vPost G lo (fun r V' k => r = none ∧ (∃ f1 f2 : Nat → Int32, V' = vU V [(ck, eO 0 [.ref kk, .ref kn, .int (nI ((F ++ flt kd (lostP Q B) 30).length))]), (kk, eI (gI G) 250 f1), (kn, eI (gI G) 250 f2), (tw, eO 5 [.ref ps, .ref bl, .ref sn, .ref tu]), (ps, eQ (gP G) 61 pf), (sp, eO 4 [.ref po, .ref me]), (po, eI (gI G) 31 fp), (me, eI (gI G) 31 fm)] ∧ ckOk f1 f2 (F ++ flt kd (lostP Q B) 30)) ∧ k = sz)) 0 0 (vL lo) := by
  refine vMet (R := RCk) (by decide) rfl (Nat.le_of_ble_eq_true rfl) ?_
  intro pg ev s mi args below meth cd hx hb hr hml hlk hnm hts hown hK hz hV ls hl
  have hl : lv_has ls 6 [(0, .ref ck), (1, .ref tw), (2, .ref sp), (3, .int (nI kd))] := hl
  have hV0 := hV
  obtain ⟨H, hH⟩ : ∃ H, H = s.heap := ⟨_, rfl⟩
  obtain ⟨locs, hlocs⟩ : ∃ locs : List Loc, locs = [] := ⟨_, rfl⟩
  rw [← hH, ← hlocs]
  rw [← hH] at hz
  replace hV : vS G.1 cls lo s H locs (vU V [(ck, eO 0 [.ref kk, .ref kn, .int (nI F.length)]), (kk, eI (gI G) 250 fk), (kn, eI (gI G) 250 fn), (tw, eO 5 [.ref ps, .ref bl, .ref sn, .ref tu]), (ps, eQ (gP G) 61 pf), (sp, eO 4 [.ref po, .ref me]), (po, eI (gI G) 31 fp), (me, eI (gI G) 31 fm)]) := by rw [hH, hlocs]; exact hV
  clear hH hlocs hV0
  refine lv_iconst (v := 1) hx hb d_Ck_findLostSpots_0 (by decide) ?_
  refine lv_istore (lv' := [(4, .int 1), (0, .ref ck), (1, .ref tw), (2, .ref sp), (3, .int (nI kd))]) hx hb d_Ck_findLostSpots_1 hl (by decide) rfl (fun ls hl => ?_)
  have loop : ∀ (k : Nat) (i : Nat) (fk fn : Nat → Int32), 30 - i < k → (i ≤ 30) → (ckOk fk fn (F ++ flt kd (lostP Q B) i)) → ∀ (H : Heap) (locs : List Loc) (ls : Array Slot), H.size = sz → vS G.1 cls lo s H locs (vU V [(ck, eO 0 [.ref kk, .ref kn, .int (nI ((F ++ flt kd (lostP Q B) i).length))]), (kk, eI (gI G) 250 fk), (kn, eI (gI G) 250 fn), (tw, eO 5 [.ref ps, .ref bl, .ref sn, .ref tu]), (ps, eQ (gP G) 61 pf), (sp, eO 4 [.ref po, .ref me]), (po, eI (gI G) 31 fp), (me, eI (gI G) 31 fm)]) → lv_has ls 6 [(0, .ref ck), (1, .ref tw), (2, .ref sp), (3, .int (nI kd)), (4, .int (nI (i + 1)))] → W pg l ev ({ frames := 1, cells := 0, slots := 0, locals := 23 } : Room) s mi args below meth cd H locs 0 0 (MQ below (vPost G lo (fun r V' k => r = none ∧ (∃ f1 f2 : Nat → Int32, V' = vU V [(ck, eO 0 [.ref kk, .ref kn, .int (nI ((F ++ flt kd (lostP Q B) 30).length))]), (kk, eI (gI G) 250 f1), (kn, eI (gI G) 250 f2), (tw, eO 5 [.ref ps, .ref bl, .ref sn, .ref tu]), (ps, eQ (gP G) 61 pf), (sp, eO 4 [.ref po, .ref me]), (po, eI (gI G) 31 fp), (me, eI (gI G) 31 fm)] ∧ ckOk f1 f2 (F ++ flt kd (lostP Q B) 30)) ∧ k = sz)) args s 0 0 (vL lo)) (F0 mi 3 ls []) := by
    intro k
    induction k with
    | zero => intro i fk fn hk; exact absurd hk (by omega)
    | succ k ih =>
      intro i fk fn hk hi hO H locs ls hz hV hl
      refine lv_iload hx hb d_Ck_findLostSpots_3 (lv_at hl 4 rfl) ?_
      refine lv_bipush (v := 30) hx hb d_Ck_findLostSpots_5 (by decide) ?_
      refine lv_icmp_gt (tgt := 65) hx hb d_Ck_findLostSpots_7 (by decide) (fun c_1 => ?_) (fun c_1 => ?_)
      · replace c_1 : 30 < i + 1 := (nI_ltI (a := 30) (b := i + 1) (by omega) (by omega)).mp c_1
        exact W.vret hx hb hr (v_end hV ⟨rfl, ⟨fk, fn, by rw [show i = 30 by omega], by rw [show i = 30 by omega] at hO; exact hO⟩, hz⟩) hV.2.1.2.2 d_Ck_findLostSpots_65
      · replace c_1 : ¬ 30 < i + 1 := fun z9 => c_1 ((nI_ltI (a := 30) (b := i + 1) (by omega) (by omega)).mpr z9)
        refine lv_aload_n hx hb d_Ck_findLostSpots_10 rfl (lv_at hl 2 rfl) ?_
        refine lv_iload hx hb d_Ck_findLostSpots_11 (lv_at hl 4 rfl) ?_
        refine v_call (va_runV (As := [.int (nI (i + 1))]) (rest := []) ⟨hx, hb, hml, hown, hts⟩ (c_Sp_has l G lo _ _ sp po me fp (nI (i + 1)) (nd_sub hn [5, 6] (by decide) rfl)) (kwV 1 hts w_co_Sp_has rfl rfl w_it_Sp w_ml_Ck_56 w_im_Sp_has w_se_Sp__Sp_has (by decide +kernel) ⟨(Nat.le_of_ble_eq_true rfl), (Nat.le_of_ble_eq_true rfl)⟩) (u_preV hK hV hn [5, 6] rfl hz 5 rfl rfl) rfl rfl hl.1 rfl (lv_room (Nat.le_of_ble_eq_true rfl)) d_Ck_findLostSpots_13 ⟨(Nat.le_of_ble_eq_true rfl), (Nat.le_of_ble_eq_true rfl)⟩) hV (fun r9 V9 H locs hp hV hle => ?_)
        obtain ⟨rfl, rfl, hz⟩ := hp
        replace hV := uu_same hV hn [5, 6] rfl
        rcases tf (spHas fp (nI (i + 1))) with d_2 | d_2
        · rw [spHas_in (by omega) (by omega)] at d_2
          obtain ⟨x, y, ex, ey, eB, hx1, hx2, hy⟩ : ∃ x y : Nat, fp (i + 1) = nI x ∧ fm (i + 1) = nI y ∧ B (i + 1) = some (x, y) ∧ 1 ≤ x ∧ x ≤ 60 ∧ y ≤ 9999 := by
            rcases hS (i + 1) (by omega) (by omega) with ⟨e0, -⟩ | q
            · rw [e0] at d_2; simp at d_2
            · exact q
          have hV : vS G.1 cls lo s H locs (vU V [(ck, eO 0 [.ref kk, .ref kn, .int (nI ((F ++ flt kd (lostP Q B) i).length))]), (kk, eI (gI G) 250 fk), (kn, eI (gI G) 250 fn), (tw, eO 5 [.ref ps, .ref bl, .ref sn, .ref tu]), (ps, eQ (gP G) 61 pf), (sp, eO 4 [.ref po, .ref me]), (po, eI (gI G) 31 fp), (me, eI (gI G) 31 fm)]) := hV
          refine W.eq (g2 := F0 mi 16 ls [.int 1]) (by rw [spHas_in (by omega) (by omega), d_2]; rfl) ?_
          refine lv_if_eq (tgt := 59) hx hb d_Ck_findLostSpots_16 (by decide) (fun c_3 => absurd c_3 (by decide)) (fun _ => ?_)
          refine lv_aload_n hx hb d_Ck_findLostSpots_19 rfl (lv_at hl 1 rfl) ?_
          refine lv_aload_n hx hb d_Ck_findLostSpots_20 rfl (lv_at hl 2 rfl) ?_
          refine u_get hx hb hts inSp hown hK hV hn 5 rfl rfl 0 (by decide) w_fl_Ck_62 rfl rfl d_Ck_findLostSpots_21 ?_
          refine lv_iload hx hb d_Ck_findLostSpots_24 (lv_at hl 4 rfl) ?_
          refine u_ialdN hx hb hK hV hn 6 rfl (by omega) (by decide) d_Ck_findLostSpots_26 ?_
          rw [ex]
          refine v_call (va_runV (As := [.int (nI x)]) (rest := []) ⟨hx, hb, hml, hown, hts⟩ (c_Tw_find l G lo _ _ tw ps bl sn tu pf (nd_sub hn [3, 4] (by decide) rfl) (nI x)) (kwV 1 hts w_co_Tw_find rfl rfl w_it_Tw w_ml_Ck_65 w_im_Tw_find w_se_Tw__Tw_find (by decide +kernel) ⟨(Nat.le_of_ble_eq_true rfl), (Nat.le_of_ble_eq_true rfl)⟩) (u_preV hK hV hn [3, 4] rfl hz 3 rfl rfl) rfl rfl hl.1 rfl (lv_room (Nat.le_of_ble_eq_true rfl)) d_Ck_findLostSpots_27 ⟨(Nat.le_of_ble_eq_true rfl), (Nat.le_of_ble_eq_true rfl)⟩) hV (fun r9 V9 H locs hp hV hle => ?_)
          obtain ⟨rfl, rfl, hz⟩ := hp
          replace hV := uu_same hV hn [3, 4] rfl
          have hV : vS G.1 cls lo s H locs (vU V [(ck, eO 0 [.ref kk, .ref kn, .int (nI ((F ++ flt kd (lostP Q B) i).length))]), (kk, eI (gI G) 250 fk), (kn, eI (gI G) 250 fn), (tw, eO 5 [.ref ps, .ref bl, .ref sn, .ref tu]), (ps, eQ (gP G) 61 pf), (sp, eO 4 [.ref po, .ref me]), (po, eI (gI G) 31 fp), (me, eI (gI G) 31 fm)]) := hV
          refine W.eq (g2 := F0 mi 30 ls [va_rf (twFind pf (nI x))]) rfl ?_
          rw [twFind_in (pf := pf) (j := x) (by omega) (by omega)]
          rcases o_4 : pf x with _ | a_4
          · refine W.eq (g2 := F0 mi 30 ls [.null]) rfl ?_
            have hQ_R := hB.no (j := x) (by omega) (by omega) o_4
            have hE : lostP Q B (i + 1) = true := lostP_n eB hQ_R
            refine lv_astoreN (lv' := [(5, .null), (0, .ref ck), (1, .ref tw), (2, .ref sp), (3, .int (nI kd)), (4, .int (nI (i + 1)))]) hx hb d_Ck_findLostSpots_30 hl (by decide) rfl (fun ls hl => ?_)
            refine lv_aloadN hx hb d_Ck_findLostSpots_32 (lv_at hl 0 rfl) ?_
            refine lv_ifnullN (tgt := 52) hx hb d_Ck_findLostSpots_34 (by decide) ?_
            refine lv_aload_n hx hb d_Ck_findLostSpots_52 rfl (lv_at hl 1 rfl) ?_
            refine lv_iload_n hx hb d_Ck_findLostSpots_53 rfl (lv_at hl 4 rfl) ?_
            refine lv_iload hx hb d_Ck_findLostSpots_54 (lv_at hl 5 rfl) ?_
            refine v_call (va_runV (As := [.int (nI kd), .int (nI (i + 1))]) (rest := []) ⟨hx, hb, hml, hown, hts⟩ (c_Ck_add l G lo _ _ ck kk kn fk fn (F ++ flt kd (lostP Q B) i) (nd_sub hn [0, 1, 2] (by decide) rfl) hO (by rw [List.length_append]; have := flt_le kd (lostP Q B) i; omega) kd (i + 1)) (kwV 2 hts w_co_Ck_add rfl rfl w_it_Ck w_ml_Ck_77 w_im_Ck_add w_se_Ck__Ck_add (by decide +kernel) ⟨(Nat.le_of_ble_eq_true rfl), (Nat.le_of_ble_eq_true rfl)⟩) (u_preV hK hV hn [0, 1, 2] rfl hz 0 rfl rfl) rfl rfl hl.1 rfl (lv_room (Nat.le_of_ble_eq_true rfl)) d_Ck_findLostSpots_56 ⟨(Nat.le_of_ble_eq_true rfl), (Nat.le_of_ble_eq_true rfl)⟩) hV (fun r9 V9 H locs hp hV hle => ?_)
            obtain ⟨rfl, ⟨g_5k, g_5n, rfl, hO_g_5⟩, hz⟩ := hp
            replace hV := u_back hV hn [0, 1, 2] rfl
            have hV : vS G.1 cls lo s H locs (vU V [(ck, eO 0 [.ref kk, .ref kn, .int (nI ((F ++ flt kd (lostP Q B) i ++ [(kd, i + 1)]).length))]), (kk, eI (gI G) 250 g_5k), (kn, eI (gI G) 250 g_5n), (tw, eO 5 [.ref ps, .ref bl, .ref sn, .ref tu]), (ps, eQ (gP G) 61 pf), (sp, eO 4 [.ref po, .ref me]), (po, eI (gI G) 31 fp), (me, eI (gI G) 31 fm)]) := hV
            rw [app_y hE] at hV hO_g_5
            refine lv_iinc (v := nI (i + 2)) (lv' := [(4, .int (nI (i + 2))), (5, .null), (0, .ref ck), (1, .ref tw), (2, .ref sp), (3, .int (nI kd))]) hx hb d_Ck_findLostSpots_59 hl (k := 5) rfl (nI_add (i + 1) 1) (by decide) rfl (fun ls hl => ?_)
            refine lv_goto (tgt := 3) hx hb d_Ck_findLostSpots_62 (by decide) ?_
            exact ih (i + 1) g_5k g_5n (by omega) (by omega) hO_g_5 H locs ls hz hV (lv_sub hl [2, 3, 4, 5, 0] rfl)
          · refine W.eq (g2 := F0 mi 30 ls [.ref a_4]) rfl ?_
            obtain ⟨R, hQ_R, hp, hdhp⟩ := hB.yes (j := x) (by omega) (by omega) o_4
            have hle := hp.2.2.2.1.2.1
            refine lv_astore (lv' := [(5, .ref a_4), (0, .ref ck), (1, .ref tw), (2, .ref sp), (3, .int (nI kd)), (4, .int (nI (i + 1)))]) hx hb d_Ck_findLostSpots_30 hl (by decide) rfl (fun ls hl => ?_)
            refine lv_aload hx hb d_Ck_findLostSpots_32 (lv_at hl 0 rfl) ?_
            refine lv_ifnull hx hb d_Ck_findLostSpots_34 ?_
            refine lv_aload_n hx hb d_Ck_findLostSpots_37 rfl (lv_at hl 3 rfl) ?_
            refine u_get hx hb hts inSp hown hK hV hn 5 rfl rfl 1 (by decide) w_fl_Ck_69 rfl rfl d_Ck_findLostSpots_38 ?_
            refine lv_iload hx hb d_Ck_findLostSpots_41 (lv_at hl 5 rfl) ?_
            refine u_ialdN hx hb hK hV hn 7 rfl (by omega) (by decide) d_Ck_findLostSpots_43 ?_
            rw [ey]
            refine lv_aload hx hb d_Ck_findLostSpots_44 (lv_at hl 0 rfl) ?_
            refine v_get hx hb hts inPc hown hK.1 hV (pcAt_vU (cs := [(ck, eO 0 [.ref kk, .ref kn, .int (nI ((F ++ flt kd (lostP Q B) i).length))]), (kk, eI (gI G) 250 fk), (kn, eI (gI G) 250 fn), (tw, eO 5 [.ref ps, .ref bl, .ref sn, .ref tu]), (ps, eQ (gP G) 61 pf), (sp, eO 4 [.ref po, .ref me]), (po, eI (gI G) 31 fp), (me, eI (gI G) 31 fm)]) hp hdc hdhp).1 rfl 3 (by decide) (hts _ w_fl_Ck_72) (fun _ h9 => h9) rfl d_Ck_findLostSpots_46 ?_
            refine lv_icmp_le (tgt := 59) hx hb d_Ck_findLostSpots_49 (by decide) (fun c_6 => ?_) (fun c_6 => ?_)
            · replace c_6 : y ≤ R.2.1.1 := (nI_leI (a := y) (b := R.2.1.1) (by omega) (by omega)).mp c_6
              have hE : lostP Q B (i + 1) = false := by rw [lostP_s eB hQ_R]; exact decide_eq_false (by omega)
              rw [app_n hE] at hV hO
              refine lv_iinc (v := nI (i + 2)) (lv' := [(4, .int (nI (i + 2))), (5, .ref a_4), (0, .ref ck), (1, .ref tw), (2, .ref sp), (3, .int (nI kd))]) hx hb d_Ck_findLostSpots_59 hl (k := 5) rfl (nI_add (i + 1) 1) (by decide) rfl (fun ls hl => ?_)
              refine lv_goto (tgt := 3) hx hb d_Ck_findLostSpots_62 (by decide) ?_
              exact ih (i + 1) fk fn (by omega) (by omega) hO H locs ls hz hV (lv_sub hl [2, 3, 4, 5, 0] rfl)
            · replace c_6 : ¬ y ≤ R.2.1.1 := fun z9 => c_6 ((nI_leI (a := y) (b := R.2.1.1) (by omega) (by omega)).mpr z9)
              have hE : lostP Q B (i + 1) = true := by rw [lostP_s eB hQ_R]; exact decide_eq_true (by omega)
              refine lv_aload_n hx hb d_Ck_findLostSpots_52 rfl (lv_at hl 1 rfl) ?_
              refine lv_iload_n hx hb d_Ck_findLostSpots_53 rfl (lv_at hl 4 rfl) ?_
              refine lv_iload hx hb d_Ck_findLostSpots_54 (lv_at hl 5 rfl) ?_
              refine v_call (va_runV (As := [.int (nI kd), .int (nI (i + 1))]) (rest := []) ⟨hx, hb, hml, hown, hts⟩ (c_Ck_add l G lo _ _ ck kk kn fk fn (F ++ flt kd (lostP Q B) i) (nd_sub hn [0, 1, 2] (by decide) rfl) hO (by rw [List.length_append]; have := flt_le kd (lostP Q B) i; omega) kd (i + 1)) (kwV 2 hts w_co_Ck_add rfl rfl w_it_Ck w_ml_Ck_77 w_im_Ck_add w_se_Ck__Ck_add (by decide +kernel) ⟨(Nat.le_of_ble_eq_true rfl), (Nat.le_of_ble_eq_true rfl)⟩) (u_preV hK hV hn [0, 1, 2] rfl hz 0 rfl rfl) rfl rfl hl.1 rfl (lv_room (Nat.le_of_ble_eq_true rfl)) d_Ck_findLostSpots_56 ⟨(Nat.le_of_ble_eq_true rfl), (Nat.le_of_ble_eq_true rfl)⟩) hV (fun r9 V9 H locs hp hV hle => ?_)
              obtain ⟨rfl, ⟨g_7k, g_7n, rfl, hO_g_7⟩, hz⟩ := hp
              replace hV := u_back hV hn [0, 1, 2] rfl
              have hV : vS G.1 cls lo s H locs (vU V [(ck, eO 0 [.ref kk, .ref kn, .int (nI ((F ++ flt kd (lostP Q B) i ++ [(kd, i + 1)]).length))]), (kk, eI (gI G) 250 g_7k), (kn, eI (gI G) 250 g_7n), (tw, eO 5 [.ref ps, .ref bl, .ref sn, .ref tu]), (ps, eQ (gP G) 61 pf), (sp, eO 4 [.ref po, .ref me]), (po, eI (gI G) 31 fp), (me, eI (gI G) 31 fm)]) := hV
              rw [app_y hE] at hV hO_g_7
              refine lv_iinc (v := nI (i + 2)) (lv' := [(4, .int (nI (i + 2))), (5, .ref a_4), (0, .ref ck), (1, .ref tw), (2, .ref sp), (3, .int (nI kd))]) hx hb d_Ck_findLostSpots_59 hl (k := 5) rfl (nI_add (i + 1) 1) (by decide) rfl (fun ls hl => ?_)
              refine lv_goto (tgt := 3) hx hb d_Ck_findLostSpots_62 (by decide) ?_
              exact ih (i + 1) g_7k g_7n (by omega) (by omega) hO_g_7 H locs ls hz hV (lv_sub hl [2, 3, 4, 5, 0] rfl)
        · rw [spHas_in (by omega) (by omega)] at d_2
          have hE : lostP Q B (i + 1) = false := by
            rcases hS (i + 1) (by omega) (by omega) with ⟨-, e0⟩ | ⟨x, y, ex, -, -, hx1, hx2, -⟩
            · exact lostP_0 e0
            · rw [ex] at d_2; simp at d_2; exact absurd ((nI_eq (a := x) (b := 0) (by omega) (by decide)).mp d_2) (by omega)
          have hV : vS G.1 cls lo s H locs (vU V [(ck, eO 0 [.ref kk, .ref kn, .int (nI ((F ++ flt kd (lostP Q B) i).length))]), (kk, eI (gI G) 250 fk), (kn, eI (gI G) 250 fn), (tw, eO 5 [.ref ps, .ref bl, .ref sn, .ref tu]), (ps, eQ (gP G) 61 pf), (sp, eO 4 [.ref po, .ref me]), (po, eI (gI G) 31 fp), (me, eI (gI G) 31 fm)]) := hV
          refine W.eq (g2 := F0 mi 16 ls [.int 0]) (by rw [spHas_in (by omega) (by omega), d_2]; rfl) ?_
          refine lv_if_eq (tgt := 59) hx hb d_Ck_findLostSpots_16 (by decide) (fun _ => ?_) (fun c_8 => absurd c_8 (by decide))
          rw [app_n hE] at hV hO
          refine lv_iinc (v := nI (i + 2)) (lv' := [(4, .int (nI (i + 2))), (0, .ref ck), (1, .ref tw), (2, .ref sp), (3, .int (nI kd))]) hx hb d_Ck_findLostSpots_59 hl (k := 4) rfl (nI_add (i + 1) 1) (by decide) rfl (fun ls hl => ?_)
          refine lv_goto (tgt := 3) hx hb d_Ck_findLostSpots_62 (by decide) ?_
          exact ih (i + 1) fk fn (by omega) (by omega) hO H locs ls hz hV (lv_sub hl [1, 2, 3, 4, 0] rfl)
  have eF : F ++ flt kd (lostP Q B) 0 = F := List.append_nil F
  rw [← eF] at hV hO
  exact loop 31 0 fk fn (by omega) (by omega) hO H locs ls hz hV (lv_sub hl [1, 2, 3, 4, 0] rfl)

set_option maxHeartbeats 4000000 in
set_option maxRecDepth 100000 in
/-- Checker.hasNameOfLower -/
theorem c_Ck_hasNameOfLower (l : Launch) (G : Gx) (lo : Nat) (V : Vw) (sz : Nat) (ck tw ps bl sn tu : Nat) (vs : List Value) (pf : Nat → Option Nat) (Q : Nat → Option PcR) (dy : Nat) (hn : [ck, tw, ps].Nodup) (hB : twB G V dy sz pf Q) (hdc : ∀ a ∈ [ck, tw, ps], a < dy) (j : Nat) (hj1 : 1 ≤ j) (hj2 : j ≤ 60) : Met l y_Ck_hasNameOfLower ws_Ck_hasNameOfLower ({ frames := 1, cells := 0, slots := 0, locals := 23 } : Room) (vPre G lo [.ref ck, .ref tw, .int (nI j)] (vU V [(ck, eO 0 vs), (tw, eO 5 [.ref ps, .ref bl, .ref sn, .ref tu]), (ps, eQ (gP G) 61 pf)]) sz) (vPost G lo (fun r V' k => r = some (.int (b2i (twinP Q j))) ∧ V' = vU V [(ck, eO 0 vs), (tw, eO 5 [.ref ps, .ref bl, .ref sn, .ref tu]), (ps, eQ (gP G) 61 pf)] ∧ k = sz)) 0 0 (vL lo) := by
  refine vMet (R := RCk) (by decide) rfl (Nat.le_of_ble_eq_true rfl) ?_
  intro pg ev s mi args below meth cd hx hb hr hml hlk hnm hts hown hK hz hV ls hl
  have hl : lv_has ls 6 [(0, .ref ck), (1, .ref tw), (2, .int (nI j))] := hl
  have hV0 := hV
  obtain ⟨H, hH⟩ : ∃ H, H = s.heap := ⟨_, rfl⟩
  obtain ⟨locs, hlocs⟩ : ∃ locs : List Loc, locs = [] := ⟨_, rfl⟩
  rw [← hH, ← hlocs]
  rw [← hH] at hz
  replace hV : vS G.1 cls lo s H locs (vU V [(ck, eO 0 vs), (tw, eO 5 [.ref ps, .ref bl, .ref sn, .ref tu]), (ps, eQ (gP G) 61 pf)]) := by rw [hH, hlocs]; exact hV
  clear hH hlocs hV0
  refine lv_aload_n hx hb d_Ck_hasNameOfLower_0 rfl (lv_at hl 1 rfl) ?_
  refine lv_iload_n hx hb d_Ck_hasNameOfLower_1 rfl (lv_at hl 2 rfl) ?_
  refine v_call (va_runV (As := [.int (nI j)]) (rest := []) ⟨hx, hb, hml, hown, hts⟩ (c_Tw_find l G lo _ _ tw ps bl sn tu pf (nd_sub hn [1, 2] (by decide) rfl) (nI j)) (kwV 1 hts w_co_Tw_find rfl rfl w_it_Tw w_ml_Ck_65 w_im_Tw_find w_se_Tw__Tw_find (by decide +kernel) ⟨(Nat.le_of_ble_eq_true rfl), (Nat.le_of_ble_eq_true rfl)⟩) (u_preV hK hV hn [1, 2] rfl hz 1 rfl rfl) rfl rfl hl.1 rfl (lv_room (Nat.le_of_ble_eq_true rfl)) d_Ck_hasNameOfLower_2 ⟨(Nat.le_of_ble_eq_true rfl), (Nat.le_of_ble_eq_true rfl)⟩) hV (fun r9 V9 H locs hp hV hle => ?_)
  obtain ⟨rfl, rfl, hz⟩ := hp
  replace hV := uu_same hV hn [1, 2] rfl
  have hV : vS G.1 cls lo s H locs (vU V [(ck, eO 0 vs), (tw, eO 5 [.ref ps, .ref bl, .ref sn, .ref tu]), (ps, eQ (gP G) 61 pf)]) := hV
  refine W.eq (g2 := F0 mi 5 ls [va_rf (twFind pf (nI j))]) rfl ?_
  rw [twFind_in (pf := pf) (j := j) (by omega) (by omega)]
  rcases o_1 : pf j with _ | a_1
  · refine W.eq (g2 := F0 mi 5 ls [.null]) rfl ?_
    have hQ_R := hB.no (j := j) (by omega) (by omega) o_1
    refine lv_astore_nN (lv' := [(3, .null), (0, .ref ck), (1, .ref tw), (2, .int (nI j))]) hx hb d_Ck_hasNameOfLower_5 rfl hl (by decide) rfl (fun ls hl => ?_)
    refine lv_aload_nN hx hb d_Ck_hasNameOfLower_6 rfl (lv_at hl 0 rfl) ?_
    refine lv_ifnonnullN hx hb d_Ck_hasNameOfLower_7 ?_
    refine lv_iconst (v := 0) hx hb d_Ck_hasNameOfLower_10 (by decide) ?_
    exact W.zret (v := 0) hx hb hr (by decide) (v_end hV ⟨by rw [twinP_n hQ_R]; rfl, rfl, hz⟩) hV.2.1.2.2 d_Ck_hasNameOfLower_11
  · refine W.eq (g2 := F0 mi 5 ls [.ref a_1]) rfl ?_
    obtain ⟨R, hQ_R, hp, hdhp⟩ := hB.yes (j := j) (by omega) (by omega) o_1
    refine lv_astore_n (lv' := [(3, .ref a_1), (0, .ref ck), (1, .ref tw), (2, .int (nI j))]) hx hb d_Ck_hasNameOfLower_5 rfl hl (by decide) rfl (fun ls hl => ?_)
    refine lv_aload_n hx hb d_Ck_hasNameOfLower_6 rfl (lv_at hl 0 rfl) ?_
    refine lv_ifnonnull (tgt := 12) hx hb d_Ck_hasNameOfLower_7 (by decide) ?_
    refine lv_iconst (v := 1) hx hb d_Ck_hasNameOfLower_12 (by decide) ?_
    refine lv_istore (lv' := [(4, .int 1), (3, .ref a_1), (0, .ref ck), (1, .ref tw), (2, .int (nI j))]) hx hb d_Ck_hasNameOfLower_13 hl (by decide) rfl (fun ls hl => ?_)
    have loop : ∀ (k : Nat) (i : Nat), j - i < k → (i + 1 ≤ j) → (sameQ Q R i = false) → ∀ (H : Heap) (locs : List Loc) (ls : Array Slot), H.size = sz → vS G.1 cls lo s H locs (vU V [(ck, eO 0 vs), (tw, eO 5 [.ref ps, .ref bl, .ref sn, .ref tu]), (ps, eQ (gP G) 61 pf)]) → lv_has ls 6 [(0, .ref ck), (1, .ref tw), (2, .int (nI j)), (3, .ref a_1), (4, .int (nI (i + 1)))] → W pg l ev ({ frames := 1, cells := 0, slots := 0, locals := 23 } : Room) s mi args below meth cd H locs 0 0 (MQ below (vPost G lo (fun r V' k => r = some (.int (b2i (twinP Q j))) ∧ V' = vU V [(ck, eO 0 vs), (tw, eO 5 [.ref ps, .ref bl, .ref sn, .ref tu]), (ps, eQ (gP G) 61 pf)] ∧ k = sz)) args s 0 0 (vL lo)) (F0 mi 15 ls []) := by
      intro k
      induction k with
      | zero => intro i hk; exact absurd hk (by omega)
      | succ k ih =>
        intro i hk hi hno H locs ls hz hV hl
        refine lv_iload hx hb d_Ck_hasNameOfLower_15 (lv_at hl 4 rfl) ?_
        refine lv_iload_n hx hb d_Ck_hasNameOfLower_17 rfl (lv_at hl 2 rfl) ?_
        refine lv_icmp_ge (tgt := 51) hx hb d_Ck_hasNameOfLower_18 (by decide) (fun c_2 => ?_) (fun c_2 => ?_)
        · replace c_2 : j ≤ i + 1 := (nI_leI (a := j) (b := i + 1) (by omega) (by omega)).mp c_2
          refine lv_iconst (v := 0) hx hb d_Ck_hasNameOfLower_51 (by decide) ?_
          exact W.zret (v := 0) hx hb hr (by decide) (v_end hV ⟨by rw [twinP_s hQ_R, show j - 1 = i by omega, hno]; rfl, rfl, hz⟩) hV.2.1.2.2 d_Ck_hasNameOfLower_52
        · replace c_2 : ¬ j ≤ i + 1 := fun z9 => c_2 ((nI_leI (a := j) (b := i + 1) (by omega) (by omega)).mpr z9)
          refine lv_aload_n hx hb d_Ck_hasNameOfLower_21 rfl (lv_at hl 1 rfl) ?_
          refine lv_iload hx hb d_Ck_hasNameOfLower_22 (lv_at hl 4 rfl) ?_
          refine v_call (va_runV (As := [.int (nI (i + 1))]) (rest := []) ⟨hx, hb, hml, hown, hts⟩ (c_Tw_find l G lo _ _ tw ps bl sn tu pf (nd_sub hn [1, 2] (by decide) rfl) (nI (i + 1))) (kwV 1 hts w_co_Tw_find rfl rfl w_it_Tw w_ml_Ck_65 w_im_Tw_find w_se_Tw__Tw_find (by decide +kernel) ⟨(Nat.le_of_ble_eq_true rfl), (Nat.le_of_ble_eq_true rfl)⟩) (u_preV hK hV hn [1, 2] rfl hz 1 rfl rfl) rfl rfl hl.1 rfl (lv_room (Nat.le_of_ble_eq_true rfl)) d_Ck_hasNameOfLower_24 ⟨(Nat.le_of_ble_eq_true rfl), (Nat.le_of_ble_eq_true rfl)⟩) hV (fun r9 V9 H locs hp hV hle => ?_)
          obtain ⟨rfl, rfl, hz⟩ := hp
          replace hV := uu_same hV hn [1, 2] rfl
          have hV : vS G.1 cls lo s H locs (vU V [(ck, eO 0 vs), (tw, eO 5 [.ref ps, .ref bl, .ref sn, .ref tu]), (ps, eQ (gP G) 61 pf)]) := hV
          refine W.eq (g2 := F0 mi 27 ls [va_rf (twFind pf (nI (i + 1)))]) rfl ?_
          rw [twFind_in (pf := pf) (j := i + 1) (by omega) (by omega)]
          rcases o_3 : pf (i + 1) with _ | a_3
          · refine W.eq (g2 := F0 mi 27 ls [.null]) rfl ?_
            have hQ_T := hB.no (j := i + 1) (by omega) (by omega) o_3
            have hno2 : sameQ Q R (i + 1) = false := by rw [sameQ_n hQ_T]; exact hno
            refine lv_astoreN (lv' := [(5, .null), (0, .ref ck), (1, .ref tw), (2, .int (nI j)), (3, .ref a_1), (4, .int (nI (i + 1)))]) hx hb d_Ck_hasNameOfLower_27 hl (by decide) rfl (fun ls hl => ?_)
            refine lv_aloadN hx hb d_Ck_hasNameOfLower_29 (lv_at hl 0 rfl) ?_
            refine lv_ifnullN (tgt := 45) hx hb d_Ck_hasNameOfLower_31 (by decide) ?_
            refine lv_iinc (v := nI (i + 2)) (lv' := [(4, .int (nI (i + 2))), (5, .null), (0, .ref ck), (1, .ref tw), (2, .int (nI j)), (3, .ref a_1)]) hx hb d_Ck_hasNameOfLower_45 hl (k := 5) rfl (nI_add (i + 1) 1) (by decide) rfl (fun ls hl => ?_)
            refine lv_goto (tgt := 15) hx hb d_Ck_hasNameOfLower_48 (by decide) ?_
            exact ih (i + 1) (by omega) (by omega) hno2 H locs ls hz hV (lv_sub hl [2, 3, 4, 5, 0] rfl)
          · refine W.eq (g2 := F0 mi 27 ls [.ref a_3]) rfl ?_
            obtain ⟨T, hQ_T, hq, hdhq⟩ := hB.yes (j := i + 1) (by omega) (by omega) o_3
            refine lv_astore (lv' := [(5, .ref a_3), (0, .ref ck), (1, .ref tw), (2, .int (nI j)), (3, .ref a_1), (4, .int (nI (i + 1)))]) hx hb d_Ck_hasNameOfLower_27 hl (by decide) rfl (fun ls hl => ?_)
            refine lv_aload hx hb d_Ck_hasNameOfLower_29 (lv_at hl 0 rfl) ?_
            refine lv_ifnull hx hb d_Ck_hasNameOfLower_31 ?_
            refine lv_aload_n hx hb d_Ck_hasNameOfLower_34 rfl (lv_at hl 4 rfl) ?_
            refine lv_aload hx hb d_Ck_hasNameOfLower_35 (lv_at hl 0 rfl) ?_
            refine v_call (va_runV (As := [.ref a_3]) (rest := []) ⟨hx, hb, hml, hown, hts⟩ (c_Pc_isNamedLike l G lo _ _ a_1 a_3 _ _ _ _ _ _ R T hp.2.2 hq.2.2 (pcAt_vU (cs := [(ck, eO 0 vs), (tw, eO 5 [.ref ps, .ref bl, .ref sn, .ref tu]), (ps, eQ (gP G) 61 pf)]) hp hdc hdhp).1 (pcAt_vU (cs := [(ck, eO 0 vs), (tw, eO 5 [.ref ps, .ref bl, .ref sn, .ref tu]), (ps, eQ (gP G) 61 pf)]) hq hdc hdhq).1) (kwV 1 hts w_co_Pc_isNamedLike rfl rfl w_it_Pc w_ml_Ck_85 w_im_Pc_isNamedLike w_se_Pc__Pc_isNamedLike (by decide +kernel) ⟨(Nat.le_of_ble_eq_true rfl), (Nat.le_of_ble_eq_true rfl)⟩) (v_preV hK hV (vU_all (fun _ h9 => absurd h9 List.not_mem_nil)) hz (pcAt_vU (cs := [(ck, eO 0 vs), (tw, eO 5 [.ref ps, .ref bl, .ref sn, .ref tu]), (ps, eQ (gP G) 61 pf)]) hp hdc hdhp).1 rfl) rfl rfl hl.1 rfl (lv_room (Nat.le_of_ble_eq_true rfl)) d_Ck_hasNameOfLower_37 ⟨(Nat.le_of_ble_eq_true rfl), (Nat.le_of_ble_eq_true rfl)⟩) hV (fun r9 V9 H locs hp hV hle => ?_)
            obtain ⟨rfl, rfl, hz⟩ := hp
            replace hV := vS_all (fun _ h9 => absurd h9 List.not_mem_nil) hV
            rcases tf (sameN R T) with d_4 | d_4
            · have hV : vS G.1 cls lo s H locs (vU V [(ck, eO 0 vs), (tw, eO 5 [.ref ps, .ref bl, .ref sn, .ref tu]), (ps, eQ (gP G) 61 pf)]) := hV
              refine W.eq (g2 := F0 mi 40 ls [.int 1]) (by rw [d_4]; rfl) ?_
              refine lv_if_eq (tgt := 45) hx hb d_Ck_hasNameOfLower_40 (by decide) (fun c_5 => absurd c_5 (by decide)) (fun _ => ?_)
              refine lv_iconst (v := 1) hx hb d_Ck_hasNameOfLower_43 (by decide) ?_
              exact W.zret (v := 1) hx hb hr (by decide) (v_end hV ⟨by rw [twinP_s hQ_R, sameQ_mono (i := i + 1) (by rw [sameQ_s hQ_T, d_4]; simp) (j - 1) (by omega)]; rfl, rfl, hz⟩) hV.2.1.2.2 d_Ck_hasNameOfLower_44
            · have hno2 : sameQ Q R (i + 1) = false := by rw [sameQ_s hQ_T, hno, d_4]; rfl
              have hV : vS G.1 cls lo s H locs (vU V [(ck, eO 0 vs), (tw, eO 5 [.ref ps, .ref bl, .ref sn, .ref tu]), (ps, eQ (gP G) 61 pf)]) := hV
              refine W.eq (g2 := F0 mi 40 ls [.int 0]) (by rw [d_4]; rfl) ?_
              refine lv_if_eq (tgt := 45) hx hb d_Ck_hasNameOfLower_40 (by decide) (fun _ => ?_) (fun c_6 => absurd c_6 (by decide))
              refine lv_iinc (v := nI (i + 2)) (lv' := [(4, .int (nI (i + 2))), (5, .ref a_3), (0, .ref ck), (1, .ref tw), (2, .int (nI j)), (3, .ref a_1)]) hx hb d_Ck_hasNameOfLower_45 hl (k := 5) rfl (nI_add (i + 1) 1) (by decide) rfl (fun ls hl => ?_)
              refine lv_goto (tgt := 15) hx hb d_Ck_hasNameOfLower_48 (by decide) ?_
              exact ih (i + 1) (by omega) (by omega) hno2 H locs ls hz hV (lv_sub hl [2, 3, 4, 5, 0] rfl)
    exact loop (j + 1) 0 (by omega) (by omega) rfl H locs ls hz hV (lv_sub hl [2, 3, 4, 1, 0] rfl)

set_option maxHeartbeats 4000000 in
set_option maxRecDepth 100000 in
/-- Checker.findSameNames -/
theorem c_Ck_findSameNames (l : Launch) (G : Gx) (lo : Nat) (V : Vw) (sz : Nat) (ck kk kn : Nat) (fk fn : Nat → Int32) (F : List Two) (tw ps bl sn tu : Nat) (pf : Nat → Option Nat) (Q : Nat → Option PcR) (dy : Nat) (hn : [ck, kk, kn, tw, ps].Nodup) (hO : ckOk fk fn F) (hF : F.length ≤ 190) (hB : twB G V dy sz pf Q) (hdc : ∀ a ∈ [ck, kk, kn, tw, ps], a < dy) : Met l y_Ck_findSameNames ws_Ck_findSameNames ({ frames := 2, cells := 0, slots := 0, locals := 48 } : Room) (vPre G lo [.ref ck, .ref tw] (vU V [(ck, eO 0 [.ref kk, .ref kn, .int (nI F.length)]), (kk, eI (gI G) 250 fk), (kn, eI (gI G) 250 fn), (tw, eO 5 [.ref ps, .ref bl, .ref sn, .ref tu]), (ps, eQ (gP G) 61 pf)]) sz) (vPost G lo (fun r V' k => r = none ∧ (∃ f1 f2 : Nat → Int32, V' = vU V [(ck, eO 0 [.ref kk, .ref kn, .int (nI ((F ++ flt 3 (twinP Q) 60).length))]), (kk, eI (gI G) 250 f1), (kn, eI (gI G) 250 f2), (tw, eO 5 [.ref ps, .ref bl, .ref sn, .ref tu]), (ps, eQ (gP G) 61 pf)] ∧ ckOk f1 f2 (F ++ flt 3 (twinP Q) 60)) ∧ k = sz)) 0 0 (vL lo) := by
  refine vMet (R := RCk) (by decide) rfl (Nat.le_of_ble_eq_true rfl) ?_
  intro pg ev s mi args below meth cd hx hb hr hml hlk hnm hts hown hK hz hV ls hl
  have hl : lv_has ls 3 [(0, .ref ck), (1, .ref tw)] := hl
  have hV0 := hV
  obtain ⟨H, hH⟩ : ∃ H, H = s.heap := ⟨_, rfl⟩
  obtain ⟨locs, hlocs⟩ : ∃ locs : List Loc, locs = [] := ⟨_, rfl⟩
  rw [← hH, ← hlocs]
  rw [← hH] at hz
  replace hV : vS G.1 cls lo s H locs (vU V [(ck, eO 0 [.ref kk, .ref kn, .int (nI F.length)]), (kk, eI (gI G) 250 fk), (kn, eI (gI G) 250 fn), (tw, eO 5 [.ref ps, .ref bl, .ref sn, .ref tu]), (ps, eQ (gP G) 61 pf)]) := by rw [hH, hlocs]; exact hV
  clear hH hlocs hV0
  refine lv_iconst (v := 2) hx hb d_Ck_findSameNames_0 (by decide) ?_
  refine lv_istore_n (lv' := [(2, .int 2), (0, .ref ck), (1, .ref tw)]) hx hb d_Ck_findSameNames_1 rfl hl (by decide) rfl (fun ls hl => ?_)
  have loop : ∀ (k : Nat) (i : Nat) (fk fn : Nat → Int32), 60 - i < k → (i ≤ 60) → (ckOk fk fn (F ++ flt 3 (twinP Q) i)) → ∀ (H : Heap) (locs : List Loc) (ls : Array Slot), H.size = sz → vS G.1 cls lo s H locs (vU V [(ck, eO 0 [.ref kk, .ref kn, .int (nI ((F ++ flt 3 (twinP Q) i).length))]), (kk, eI (gI G) 250 fk), (kn, eI (gI G) 250 fn), (tw, eO 5 [.ref ps, .ref bl, .ref sn, .ref tu]), (ps, eQ (gP G) 61 pf)]) → lv_has ls 3 [(0, .ref ck), (1, .ref tw), (2, .int (nI (i + 1)))] → W pg l ev ({ frames := 2, cells := 0, slots := 0, locals := 48 } : Room) s mi args below meth cd H locs 0 0 (MQ below (vPost G lo (fun r V' k => r = none ∧ (∃ f1 f2 : Nat → Int32, V' = vU V [(ck, eO 0 [.ref kk, .ref kn, .int (nI ((F ++ flt 3 (twinP Q) 60).length))]), (kk, eI (gI G) 250 f1), (kn, eI (gI G) 250 f2), (tw, eO 5 [.ref ps, .ref bl, .ref sn, .ref tu]), (ps, eQ (gP G) 61 pf)] ∧ ckOk f1 f2 (F ++ flt 3 (twinP Q) 60)) ∧ k = sz)) args s 0 0 (vL lo)) (F0 mi 2 ls []) := by
    intro k
    induction k with
    | zero => intro i fk fn hk; exact absurd hk (by omega)
    | succ k ih =>
      intro i fk fn hk hi hO H locs ls hz hV hl
      refine lv_iload_n hx hb d_Ck_findSameNames_2 rfl (lv_at hl 2 rfl) ?_
      refine lv_bipush (v := 60) hx hb d_Ck_findSameNames_3 (by decide) ?_
      refine lv_icmp_gt (tgt := 29) hx hb d_Ck_findSameNames_5 (by decide) (fun c_1 => ?_) (fun c_1 => ?_)
      · replace c_1 : 60 < i + 1 := (nI_ltI (a := 60) (b := i + 1) (by omega) (by omega)).mp c_1
        exact W.vret hx hb hr (v_end hV ⟨rfl, ⟨fk, fn, by rw [show i = 60 by omega], by rw [show i = 60 by omega] at hO; exact hO⟩, hz⟩) hV.2.1.2.2 d_Ck_findSameNames_29
      · replace c_1 : ¬ 60 < i + 1 := fun z9 => c_1 ((nI_ltI (a := 60) (b := i + 1) (by omega) (by omega)).mpr z9)
        refine lv_aload_n hx hb d_Ck_findSameNames_8 rfl (lv_at hl 0 rfl) ?_
        refine lv_aload_n hx hb d_Ck_findSameNames_9 rfl (lv_at hl 1 rfl) ?_
        refine lv_iload_n hx hb d_Ck_findSameNames_10 rfl (lv_at hl 2 rfl) ?_
        refine v_call (va_runV (As := [.ref tw, .int (nI (i + 1))]) (rest := []) ⟨hx, hb, hml, hown, hts⟩ (c_Ck_hasNameOfLower l G lo _ _ ck tw ps bl sn tu [.ref kk, .ref kn, .int (nI ((F ++ flt 3 (twinP Q) i).length))] pf Q dy (nd_sub hn [0, 3, 4] (by decide) rfl) (twB_mono hB (fun q h1 _ => vU_hi (cs := [(ck, eO 0 [.ref kk, .ref kn, .int (nI ((F ++ flt 3 (twinP Q) i).length))]), (kk, eI (gI G) 250 fk), (kn, eI (gI G) 250 fn), (tw, eO 5 [.ref ps, .ref bl, .ref sn, .ref tu]), (ps, eQ (gP G) 61 pf)]) hdc h1) (Nat.le_refl _)) (cn_sub hdc [0, 3, 4] rfl) (i + 1) (by omega) (by omega)) (kwV 2 hts w_co_Ck_hasNameOfLower rfl rfl w_it_Ck w_ml_Ck_81 w_im_Ck_hasNameOfLower w_se_Ck__Ck_hasNameOfLower (by decide +kernel) ⟨(Nat.le_of_ble_eq_true rfl), (Nat.le_of_ble_eq_true rfl)⟩) (u_preV hK hV hn [0, 3, 4] rfl hz 0 rfl rfl) rfl rfl hl.1 rfl (lv_room (Nat.le_of_ble_eq_true rfl)) d_Ck_findSameNames_11 ⟨(Nat.le_of_ble_eq_true rfl), (Nat.le_of_ble_eq_true rfl)⟩) hV (fun r9 V9 H locs hp hV hle => ?_)
        obtain ⟨rfl, rfl, hz⟩ := hp
        replace hV := uu_same hV hn [0, 3, 4] rfl
        rcases tf (twinP Q (i + 1)) with d_2 | d_2
        · have hE := d_2
          have hV : vS G.1 cls lo s H locs (vU V [(ck, eO 0 [.ref kk, .ref kn, .int (nI ((F ++ flt 3 (twinP Q) i).length))]), (kk, eI (gI G) 250 fk), (kn, eI (gI G) 250 fn), (tw, eO 5 [.ref ps, .ref bl, .ref sn, .ref tu]), (ps, eQ (gP G) 61 pf)]) := hV
          refine W.eq (g2 := F0 mi 14 ls [.int 1]) (by rw [d_2]; rfl) ?_
          refine lv_if_eq (tgt := 23) hx hb d_Ck_findSameNames_14 (by decide) (fun c_3 => absurd c_3 (by decide)) (fun _ => ?_)
          refine lv_aload_n hx hb d_Ck_findSameNames_17 rfl (lv_at hl 0 rfl) ?_
          refine lv_iconst (v := 3) hx hb d_Ck_findSameNames_18 (by decide) ?_
          refine lv_iload_n hx hb d_Ck_findSameNames_19 rfl (lv_at hl 2 rfl) ?_
          refine v_call (va_runV (As := [.int 3, .int (nI (i + 1))]) (rest := []) ⟨hx, hb, hml, hown, hts⟩ (c_Ck_add l G lo _ _ ck kk kn fk fn (F ++ flt 3 (twinP Q) i) (nd_sub hn [0, 1, 2] (by decide) rfl) hO (by rw [List.length_append]; have := flt_le 3 (twinP Q) i; omega) 3 (i + 1)) (kwV 2 hts w_co_Ck_add rfl rfl w_it_Ck w_ml_Ck_77 w_im_Ck_add w_se_Ck__Ck_add (by decide +kernel) ⟨(Nat.le_of_ble_eq_true rfl), (Nat.le_of_ble_eq_true rfl)⟩) (u_preV hK hV hn [0, 1, 2] rfl hz 0 rfl rfl) rfl rfl hl.1 rfl (lv_room (Nat.le_of_ble_eq_true rfl)) d_Ck_findSameNames_20 ⟨(Nat.le_of_ble_eq_true rfl), (Nat.le_of_ble_eq_true rfl)⟩) hV (fun r9 V9 H locs hp hV hle => ?_)
          obtain ⟨rfl, ⟨g_4k, g_4n, rfl, hO_g_4⟩, hz⟩ := hp
          replace hV := u_back hV hn [0, 1, 2] rfl
          have hV : vS G.1 cls lo s H locs (vU V [(ck, eO 0 [.ref kk, .ref kn, .int (nI ((F ++ flt 3 (twinP Q) i ++ [(3, i + 1)]).length))]), (kk, eI (gI G) 250 g_4k), (kn, eI (gI G) 250 g_4n), (tw, eO 5 [.ref ps, .ref bl, .ref sn, .ref tu]), (ps, eQ (gP G) 61 pf)]) := hV
          rw [app_y hE] at hV hO_g_4
          refine lv_iinc (v := nI (i + 2)) (lv' := [(2, .int (nI (i + 2))), (0, .ref ck), (1, .ref tw)]) hx hb d_Ck_findSameNames_23 hl (k := 2) rfl (nI_add (i + 1) 1) (by decide) rfl (fun ls hl => ?_)
          refine lv_goto (tgt := 2) hx hb d_Ck_findSameNames_26 (by decide) ?_
          exact ih (i + 1) g_4k g_4n (by omega) (by omega) hO_g_4 H locs ls hz hV (lv_sub hl [1, 2, 0] rfl)
        · have hE := d_2
          have hV : vS G.1 cls lo s H locs (vU V [(ck, eO 0 [.ref kk, .ref kn, .int (nI ((F ++ flt 3 (twinP Q) i).length))]), (kk, eI (gI G) 250 fk), (kn, eI (gI G) 250 fn), (tw, eO 5 [.ref ps, .ref bl, .ref sn, .ref tu]), (ps, eQ (gP G) 61 pf)]) := hV
          refine W.eq (g2 := F0 mi 14 ls [.int 0]) (by rw [d_2]; rfl) ?_
          refine lv_if_eq (tgt := 23) hx hb d_Ck_findSameNames_14 (by decide) (fun _ => ?_) (fun c_5 => absurd c_5 (by decide))
          rw [app_n hE] at hV hO
          refine lv_iinc (v := nI (i + 2)) (lv' := [(2, .int (nI (i + 2))), (0, .ref ck), (1, .ref tw)]) hx hb d_Ck_findSameNames_23 hl (k := 2) rfl (nI_add (i + 1) 1) (by decide) rfl (fun ls hl => ?_)
          refine lv_goto (tgt := 2) hx hb d_Ck_findSameNames_26 (by decide) ?_
          exact ih (i + 1) fk fn (by omega) (by omega) hO H locs ls hz hV (lv_sub hl [1, 2, 0] rfl)
  have eF : F ++ flt 3 (twinP Q) 1 = F := by rw [flt_n (k := 0) (twinP_1 Q)]; exact List.append_nil F
  rw [← eF] at hV hO
  exact loop 61 1 fk fn (by omega) (by omega) hO H locs ls hz hV (lv_sub hl [1, 2, 0] rfl)

set_option maxHeartbeats 4000000 in
set_option maxRecDepth 100000 in
/-- Checker.isWall -/
theorem c_Ck_isWall (l : Launch) (G : Gx) (lo : Nat) (V : Vw) (sz : Nat) (ck tu af ao a3 : Nat) (vs : List Value) (fr ov tt : Nat → Int32) (L : List Tri) (of : Bool) (hn : [ck, tu, af, ao, a3].Nodup) (hO : tnOk fr ov tt L) (hL : L.length ≤ 20) (j : Nat) (hj2 : j ≤ 40) : Met l y_Ck_isWall ws_Ck_isWall ({ frames := 1, cells := 0, slots := 0, locals := 24 } : Room) (vPre G lo [.ref ck, .ref tu, .int (nI j)] (vU V [(ck, eO 0 vs), (tu, eO 6 [.ref af, .ref ao, .ref a3, .int (nI L.length), .int (b2i of)]), (af, eI (gI G) 20 fr), (ao, eI (gI G) 20 ov), (a3, eI (gI G) 20 tt)]) sz) (vPost G lo (fun r V' k => r = some (.int (b2i (wallI L j L.length))) ∧ V' = vU V [(ck, eO 0 vs), (tu, eO 6 [.ref af, .ref ao, .ref a3, .int (nI L.length), .int (b2i of)]), (af, eI (gI G) 20 fr), (ao, eI (gI G) 20 ov), (a3, eI (gI G) 20 tt)] ∧ k = sz)) 0 0 (vL lo) := by
  refine vMet (R := RCk) (by decide) rfl (Nat.le_of_ble_eq_true rfl) ?_
  intro pg ev s mi args below meth cd hx hb hr hml hlk hnm hts hown hK hz hV ls hl
  have hl : lv_has ls 4 [(0, .ref ck), (1, .ref tu), (2, .int (nI j))] := hl
  have hV0 := hV
  obtain ⟨H, hH⟩ : ∃ H, H = s.heap := ⟨_, rfl⟩
  obtain ⟨locs, hlocs⟩ : ∃ locs : List Loc, locs = [] := ⟨_, rfl⟩
  rw [← hH, ← hlocs]
  rw [← hH] at hz
  replace hV : vS G.1 cls lo s H locs (vU V [(ck, eO 0 vs), (tu, eO 6 [.ref af, .ref ao, .ref a3, .int (nI L.length), .int (b2i of)]), (af, eI (gI G) 20 fr), (ao, eI (gI G) 20 ov), (a3, eI (gI G) 20 tt)]) := by rw [hH, hlocs]; exact hV
  clear hH hlocs hV0
  refine lv_iconst (v := 0) hx hb d_Ck_isWall_0 (by decide) ?_
  refine lv_istore_n (lv' := [(3, .int 0), (0, .ref ck), (1, .ref tu), (2, .int (nI j))]) hx hb d_Ck_isWall_1 rfl hl (by decide) rfl (fun ls hl => ?_)
  have loop : ∀ (k : Nat) (i : Nat), L.length - i < k → (i ≤ L.length) → (wallI L j i = false) → ∀ (H : Heap) (locs : List Loc) (ls : Array Slot), H.size = sz → vS G.1 cls lo s H locs (vU V [(ck, eO 0 vs), (tu, eO 6 [.ref af, .ref ao, .ref a3, .int (nI L.length), .int (b2i of)]), (af, eI (gI G) 20 fr), (ao, eI (gI G) 20 ov), (a3, eI (gI G) 20 tt)]) → lv_has ls 4 [(0, .ref ck), (1, .ref tu), (2, .int (nI j)), (3, .int (nI i))] → W pg l ev ({ frames := 1, cells := 0, slots := 0, locals := 24 } : Room) s mi args below meth cd H locs 0 0 (MQ below (vPost G lo (fun r V' k => r = some (.int (b2i (wallI L j L.length))) ∧ V' = vU V [(ck, eO 0 vs), (tu, eO 6 [.ref af, .ref ao, .ref a3, .int (nI L.length), .int (b2i of)]), (af, eI (gI G) 20 fr), (ao, eI (gI G) 20 ov), (a3, eI (gI G) 20 tt)] ∧ k = sz)) args s 0 0 (vL lo)) (F0 mi 2 ls []) := by
    intro k
    induction k with
    | zero => intro i hk; exact absurd hk (by omega)
    | succ k ih =>
      intro i hk hi hno H locs ls hz hV hl
      refine lv_iload_n hx hb d_Ck_isWall_2 rfl (lv_at hl 3 rfl) ?_
      refine lv_aload_n hx hb d_Ck_isWall_3 rfl (lv_at hl 1 rfl) ?_
      refine u_get hx hb hts inTn hown hK hV hn 1 rfl rfl 3 (by decide) w_fl_Ck_89 rfl rfl d_Ck_isWall_4 ?_
      refine lv_icmp_ge (tgt := 63) hx hb d_Ck_isWall_7 (by decide) (fun c_1 => ?_) (fun c_1 => ?_)
      · replace c_1 : L.length ≤ i := (nI_leI (a := L.length) (b := i) (by omega) (by omega)).mp c_1
        refine lv_iconst (v := 0) hx hb d_Ck_isWall_63 (by decide) ?_
        exact W.zret (v := 0) hx hb hr (by decide) (v_end hV ⟨by rw [show L.length = i by omega, hno]; rfl, rfl, hz⟩) hV.2.1.2.2 d_Ck_isWall_64
      · replace c_1 : ¬ L.length ≤ i := fun z9 => c_1 ((nI_leI (a := L.length) (b := i) (by omega) (by omega)).mpr z9)
        obtain ⟨o1, o2, o3, o4, o5, o6⟩ := hO i (by omega)
        refine lv_aload_n hx hb d_Ck_isWall_10 rfl (lv_at hl 1 rfl) ?_
        refine u_get hx hb hts inTn hown hK hV hn 1 rfl rfl 1 (by decide) w_fl_Ck_92 rfl rfl d_Ck_isWall_11 ?_
        refine lv_iload_n hx hb d_Ck_isWall_14 rfl (lv_at hl 3 rfl) ?_
        refine u_ialdN hx hb hK hV hn 3 rfl (by omega) (by decide) d_Ck_isWall_15 ?_
        rw [o2]
        refine lv_iload_n hx hb d_Ck_isWall_16 rfl (lv_at hl 2 rfl) ?_
        refine lv_icmp_ne (tgt := 57) hx hb d_Ck_isWall_17 (by decide) (fun c_2 => ?_) (fun c_2 => ?_)
        · replace c_2 : ¬ (L.getD i z3).2.1 = j := fun z9 => c_2 ((nI_eq (a := (L.getD i z3).2.1) (b := j) (by omega) (by omega)).mpr z9)
          have hno2 : wallI L j (i + 1) = false := by simp only [wallI, hno, decide_eq_false c_2, Bool.false_and, Bool.or_false]
          refine lv_iinc (v := nI (i + 1)) (lv' := [(3, .int (nI (i + 1))), (0, .ref ck), (1, .ref tu), (2, .int (nI j))]) hx hb d_Ck_isWall_57 hl (k := 3) rfl (nI_add i 1) (by decide) rfl (fun ls hl => ?_)
          refine lv_goto (tgt := 2) hx hb d_Ck_isWall_60 (by decide) ?_
          exact ih (i + 1) (by omega) (by omega) hno2 H locs ls hz hV (lv_sub hl [1, 2, 3, 0] rfl)
        · replace c_2 : (L.getD i z3).2.1 = j := (nI_eq (a := (L.getD i z3).2.1) (b := j) (by omega) (by omega)).mp c_2
          refine lv_aload_n hx hb d_Ck_isWall_20 rfl (lv_at hl 1 rfl) ?_
          refine u_get hx hb hts inTn hown hK hV hn 1 rfl rfl 0 (by decide) w_fl_Ck_95 rfl rfl d_Ck_isWall_21 ?_
          refine lv_iload_n hx hb d_Ck_isWall_24 rfl (lv_at hl 3 rfl) ?_
          refine u_ialdN hx hb hK hV hn 2 rfl (by omega) (by decide) d_Ck_isWall_25 ?_
          rw [o1]
          refine lv_aload_n hx hb d_Ck_isWall_26 rfl (lv_at hl 1 rfl) ?_
          refine u_get hx hb hts inTn hown hK hV hn 1 rfl rfl 2 (by decide) w_fl_Ck_102 rfl rfl d_Ck_isWall_27 ?_
          refine lv_iload_n hx hb d_Ck_isWall_30 rfl (lv_at hl 3 rfl) ?_
          refine u_ialdN hx hb hK hV hn 4 rfl (by omega) (by decide) d_Ck_isWall_31 ?_
          rw [o3]
          refine lv_icmp_eq (tgt := 57) hx hb d_Ck_isWall_32 (by decide) (fun c_3 => ?_) (fun c_3 => ?_)
          · replace c_3 : (L.getD i z3).1 = (L.getD i z3).2.2 := (nI_eq (a := (L.getD i z3).1) (b := (L.getD i z3).2.2) (by omega) (by omega)).mp c_3
            have hno2 : wallI L j (i + 1) = false := by simp only [wallI, hno, decide_eq_true c_3, Bool.not_true, Bool.and_false, Bool.false_and, Bool.or_false]
            refine lv_iinc (v := nI (i + 1)) (lv' := [(3, .int (nI (i + 1))), (0, .ref ck), (1, .ref tu), (2, .int (nI j))]) hx hb d_Ck_isWall_57 hl (k := 3) rfl (nI_add i 1) (by decide) rfl (fun ls hl => ?_)
            refine lv_goto (tgt := 2) hx hb d_Ck_isWall_60 (by decide) ?_
            exact ih (i + 1) (by omega) (by omega) hno2 H locs ls hz hV (lv_sub hl [1, 2, 3, 0] rfl)
          · replace c_3 : ¬ (L.getD i z3).1 = (L.getD i z3).2.2 := fun z9 => c_3 ((nI_eq (a := (L.getD i z3).1) (b := (L.getD i z3).2.2) (by omega) (by omega)).mpr z9)
            refine lv_aload_n hx hb d_Ck_isWall_35 rfl (lv_at hl 1 rfl) ?_
            refine lv_aload_n hx hb d_Ck_isWall_36 rfl (lv_at hl 1 rfl) ?_
            refine u_get hx hb hts inTn hown hK hV hn 1 rfl rfl 2 (by decide) w_fl_Ck_102 rfl rfl d_Ck_isWall_37 ?_
            refine lv_iload_n hx hb d_Ck_isWall_40 rfl (lv_at hl 3 rfl) ?_
            refine u_ialdN hx hb hK hV hn 4 rfl (by omega) (by decide) d_Ck_isWall_41 ?_
            rw [o3]
            refine lv_iload_n hx hb d_Ck_isWall_42 rfl (lv_at hl 2 rfl) ?_
            refine lv_aload_n hx hb d_Ck_isWall_43 rfl (lv_at hl 1 rfl) ?_
            refine u_get hx hb hts inTn hown hK hV hn 1 rfl rfl 0 (by decide) w_fl_Ck_95 rfl rfl d_Ck_isWall_44 ?_
            refine lv_iload_n hx hb d_Ck_isWall_47 rfl (lv_at hl 3 rfl) ?_
            refine u_ialdN hx hb hK hV hn 2 rfl (by omega) (by decide) d_Ck_isWall_48 ?_
            rw [o1]
            refine v_call (va_runV (As := [.int (nI ((L.getD i z3).2.2)), .int (nI j), .int (nI ((L.getD i z3).1))]) (rest := []) ⟨hx, hb, hml, hown, hts⟩ (c_Tn_has l G lo _ _ tu af ao a3 fr ov tt L of (nd_sub hn [1, 2, 3, 4] (by decide) rfl) hO hL ((L.getD i z3).2.2) j ((L.getD i z3).1) (by omega) (by omega) (by omega)) (kwV 3 hts w_co_Tn_has rfl rfl w_it_Tn w_ml_Ck_109 w_im_Tn_has w_se_Tn__Tn_has (by decide +kernel) ⟨(Nat.le_of_ble_eq_true rfl), (Nat.le_of_ble_eq_true rfl)⟩) (u_preV hK hV hn [1, 2, 3, 4] rfl hz 1 rfl rfl) rfl rfl hl.1 rfl (lv_room (Nat.le_of_ble_eq_true rfl)) d_Ck_isWall_49 ⟨(Nat.le_of_ble_eq_true rfl), (Nat.le_of_ble_eq_true rfl)⟩) hV (fun r9 V9 H locs hp hV hle => ?_)
            obtain ⟨rfl, rfl, hz⟩ := hp
            replace hV := uu_same hV hn [1, 2, 3, 4] rfl
            rcases Classical.em (((L.getD i z3).2.2, j, (L.getD i z3).1) ∈ L) with m_4 | m_4
            · have hV : vS G.1 cls lo s H locs (vU V [(ck, eO 0 vs), (tu, eO 6 [.ref af, .ref ao, .ref a3, .int (nI L.length), .int (b2i of)]), (af, eI (gI G) 20 fr), (ao, eI (gI G) 20 ov), (a3, eI (gI G) 20 tt)]) := hV
              refine W.eq (g2 := F0 mi 52 ls [.int 1]) (by rw [decide_eq_true m_4]; rfl) ?_
              refine lv_if_eq (tgt := 57) hx hb d_Ck_isWall_52 (by decide) (fun c_5 => absurd c_5 (by decide)) (fun _ => ?_)
              have hy : wallI L j (i + 1) = true := by simp only [wallI, decide_eq_true m_4, decide_eq_true c_2, decide_eq_false c_3, Bool.not_false, Bool.and_true, Bool.or_true]
              refine lv_iconst (v := 1) hx hb d_Ck_isWall_55 (by decide) ?_
              exact W.zret (v := 1) hx hb hr (by decide) (v_end hV ⟨by rw [wallI_mono hy L.length (by omega)]; rfl, rfl, hz⟩) hV.2.1.2.2 d_Ck_isWall_56
            · have hno2 : wallI L j (i + 1) = false := by simp only [wallI, hno, decide_eq_false m_4, Bool.and_false, Bool.or_false]
              have hV : vS G.1 cls lo s H locs (vU V [(ck, eO 0 vs), (tu, eO 6 [.ref af, .ref ao, .ref a3, .int (nI L.length), .int (b2i of)]), (af, eI (gI G) 20 fr), (ao, eI (gI G) 20 ov), (a3, eI (gI G) 20 tt)]) := hV
              refine W.eq (g2 := F0 mi 52 ls [.int 0]) (by rw [decide_eq_false m_4]; rfl) ?_
              refine lv_if_eq (tgt := 57) hx hb d_Ck_isWall_52 (by decide) (fun _ => ?_) (fun c_6 => absurd c_6 (by decide))
              refine lv_iinc (v := nI (i + 1)) (lv' := [(3, .int (nI (i + 1))), (0, .ref ck), (1, .ref tu), (2, .int (nI j))]) hx hb d_Ck_isWall_57 hl (k := 3) rfl (nI_add i 1) (by decide) rfl (fun ls hl => ?_)
              refine lv_goto (tgt := 2) hx hb d_Ck_isWall_60 (by decide) ?_
              exact ih (i + 1) (by omega) (by omega) hno2 H locs ls hz hV (lv_sub hl [1, 2, 3, 0] rfl)
  exact loop (L.length + 1) 0 (by omega) (by omega) rfl H locs ls hz hV (lv_sub hl [1, 2, 3, 0] rfl)

set_option maxHeartbeats 4000000 in
set_option maxRecDepth 100000 in
/-- Checker.findWalls -/
theorem c_Ck_findWalls (l : Launch) (G : Gx) (lo : Nat) (V : Vw) (sz : Nat) (ck kk kn : Nat) (fk fn : Nat → Int32) (F : List Two) (tu af ao a3 : Nat) (fr ov tt : Nat → Int32) (L : List Tri) (of : Bool) (hn : [ck, kk, kn, tu, af, ao, a3].Nodup) (hO : ckOk fk fn F) (hF : F.length ≤ 210) (hT : tnOk fr ov tt L) (hL : L.length ≤ 20) : Met l y_Ck_findWalls ws_Ck_findWalls ({ frames := 2, cells := 0, slots := 0, locals := 48 } : Room) (vPre G lo [.ref ck, .ref tu] (vU V [(ck, eO 0 [.ref kk, .ref kn, .int (nI F.length)]), (kk, eI (gI G) 250 fk), (kn, eI (gI G) 250 fn), (tu, eO 6 [.ref af, .ref ao, .ref a3, .int (nI L.length), .int (b2i of)]), (af, eI (gI G) 20 fr), (ao, eI (gI G) 20 ov), (a3, eI (gI G) 20 tt)]) sz) (vPost G lo (fun r V' k => r = none ∧ (∃ f1 f2 : Nat → Int32, V' = vU V [(ck, eO 0 [.ref kk, .ref kn, .int (nI ((F ++ flt 5 (fun j => wallI L j L.length) 40).length))]), (kk, eI (gI G) 250 f1), (kn, eI (gI G) 250 f2), (tu, eO 6 [.ref af, .ref ao, .ref a3, .int (nI L.length), .int (b2i of)]), (af, eI (gI G) 20 fr), (ao, eI (gI G) 20 ov), (a3, eI (gI G) 20 tt)] ∧ ckOk f1 f2 (F ++ flt 5 (fun j => wallI L j L.length) 40)) ∧ k = sz)) 0 0 (vL lo) := by
  refine vMet (R := RCk) (by decide) rfl (Nat.le_of_ble_eq_true rfl) ?_
  intro pg ev s mi args below meth cd hx hb hr hml hlk hnm hts hown hK hz hV ls hl
  have hl : lv_has ls 3 [(0, .ref ck), (1, .ref tu)] := hl
  have hV0 := hV
  obtain ⟨H, hH⟩ : ∃ H, H = s.heap := ⟨_, rfl⟩
  obtain ⟨locs, hlocs⟩ : ∃ locs : List Loc, locs = [] := ⟨_, rfl⟩
  rw [← hH, ← hlocs]
  rw [← hH] at hz
  replace hV : vS G.1 cls lo s H locs (vU V [(ck, eO 0 [.ref kk, .ref kn, .int (nI F.length)]), (kk, eI (gI G) 250 fk), (kn, eI (gI G) 250 fn), (tu, eO 6 [.ref af, .ref ao, .ref a3, .int (nI L.length), .int (b2i of)]), (af, eI (gI G) 20 fr), (ao, eI (gI G) 20 ov), (a3, eI (gI G) 20 tt)]) := by rw [hH, hlocs]; exact hV
  clear hH hlocs hV0
  refine lv_iconst (v := 1) hx hb d_Ck_findWalls_0 (by decide) ?_
  refine lv_istore_n (lv' := [(2, .int 1), (0, .ref ck), (1, .ref tu)]) hx hb d_Ck_findWalls_1 rfl hl (by decide) rfl (fun ls hl => ?_)
  have loop : ∀ (k : Nat) (i : Nat) (fk fn : Nat → Int32), 40 - i < k → (i ≤ 40) → (ckOk fk fn (F ++ flt 5 (fun j => wallI L j L.length) i)) → ∀ (H : Heap) (locs : List Loc) (ls : Array Slot), H.size = sz → vS G.1 cls lo s H locs (vU V [(ck, eO 0 [.ref kk, .ref kn, .int (nI ((F ++ flt 5 (fun j => wallI L j L.length) i).length))]), (kk, eI (gI G) 250 fk), (kn, eI (gI G) 250 fn), (tu, eO 6 [.ref af, .ref ao, .ref a3, .int (nI L.length), .int (b2i of)]), (af, eI (gI G) 20 fr), (ao, eI (gI G) 20 ov), (a3, eI (gI G) 20 tt)]) → lv_has ls 3 [(0, .ref ck), (1, .ref tu), (2, .int (nI (i + 1)))] → W pg l ev ({ frames := 2, cells := 0, slots := 0, locals := 48 } : Room) s mi args below meth cd H locs 0 0 (MQ below (vPost G lo (fun r V' k => r = none ∧ (∃ f1 f2 : Nat → Int32, V' = vU V [(ck, eO 0 [.ref kk, .ref kn, .int (nI ((F ++ flt 5 (fun j => wallI L j L.length) 40).length))]), (kk, eI (gI G) 250 f1), (kn, eI (gI G) 250 f2), (tu, eO 6 [.ref af, .ref ao, .ref a3, .int (nI L.length), .int (b2i of)]), (af, eI (gI G) 20 fr), (ao, eI (gI G) 20 ov), (a3, eI (gI G) 20 tt)] ∧ ckOk f1 f2 (F ++ flt 5 (fun j => wallI L j L.length) 40)) ∧ k = sz)) args s 0 0 (vL lo)) (F0 mi 2 ls []) := by
    intro k
    induction k with
    | zero => intro i fk fn hk; exact absurd hk (by omega)
    | succ k ih =>
      intro i fk fn hk hi hO H locs ls hz hV hl
      refine lv_iload_n hx hb d_Ck_findWalls_2 rfl (lv_at hl 2 rfl) ?_
      refine lv_bipush (v := 40) hx hb d_Ck_findWalls_3 (by decide) ?_
      refine lv_icmp_gt (tgt := 29) hx hb d_Ck_findWalls_5 (by decide) (fun c_1 => ?_) (fun c_1 => ?_)
      · replace c_1 : 40 < i + 1 := (nI_ltI (a := 40) (b := i + 1) (by omega) (by omega)).mp c_1
        exact W.vret hx hb hr (v_end hV ⟨rfl, ⟨fk, fn, by rw [show i = 40 by omega], by rw [show i = 40 by omega] at hO; exact hO⟩, hz⟩) hV.2.1.2.2 d_Ck_findWalls_29
      · replace c_1 : ¬ 40 < i + 1 := fun z9 => c_1 ((nI_ltI (a := 40) (b := i + 1) (by omega) (by omega)).mpr z9)
        refine lv_aload_n hx hb d_Ck_findWalls_8 rfl (lv_at hl 0 rfl) ?_
        refine lv_aload_n hx hb d_Ck_findWalls_9 rfl (lv_at hl 1 rfl) ?_
        refine lv_iload_n hx hb d_Ck_findWalls_10 rfl (lv_at hl 2 rfl) ?_
        refine v_call (va_runV (As := [.ref tu, .int (nI (i + 1))]) (rest := []) ⟨hx, hb, hml, hown, hts⟩ (c_Ck_isWall l G lo _ _ ck tu af ao a3 [.ref kk, .ref kn, .int (nI ((F ++ flt 5 (fun j => wallI L j L.length) i).length))] fr ov tt L of (nd_sub hn [0, 3, 4, 5, 6] (by decide) rfl) hT hL (i + 1) (by omega)) (kwV 2 hts w_co_Ck_isWall rfl rfl w_it_Ck w_ml_Ck_105 w_im_Ck_isWall w_se_Ck__Ck_isWall (by decide +kernel) ⟨(Nat.le_of_ble_eq_true rfl), (Nat.le_of_ble_eq_true rfl)⟩) (u_preV hK hV hn [0, 3, 4, 5, 6] rfl hz 0 rfl rfl) rfl rfl hl.1 rfl (lv_room (Nat.le_of_ble_eq_true rfl)) d_Ck_findWalls_11 ⟨(Nat.le_of_ble_eq_true rfl), (Nat.le_of_ble_eq_true rfl)⟩) hV (fun r9 V9 H locs hp hV hle => ?_)
        obtain ⟨rfl, rfl, hz⟩ := hp
        replace hV := uu_same hV hn [0, 3, 4, 5, 6] rfl
        rcases tf (wallI L (i + 1) L.length) with d_2 | d_2
        · have hE : (fun j => wallI L j L.length) (i + 1) = true := d_2
          have hV : vS G.1 cls lo s H locs (vU V [(ck, eO 0 [.ref kk, .ref kn, .int (nI ((F ++ flt 5 (fun j => wallI L j L.length) i).length))]), (kk, eI (gI G) 250 fk), (kn, eI (gI G) 250 fn), (tu, eO 6 [.ref af, .ref ao, .ref a3, .int (nI L.length), .int (b2i of)]), (af, eI (gI G) 20 fr), (ao, eI (gI G) 20 ov), (a3, eI (gI G) 20 tt)]) := hV
          refine W.eq (g2 := F0 mi 14 ls [.int 1]) (by rw [d_2]; rfl) ?_
          refine lv_if_eq (tgt := 23) hx hb d_Ck_findWalls_14 (by decide) (fun c_3 => absurd c_3 (by decide)) (fun _ => ?_)
          refine lv_aload_n hx hb d_Ck_findWalls_17 rfl (lv_at hl 0 rfl) ?_
          refine lv_iconst (v := 5) hx hb d_Ck_findWalls_18 (by decide) ?_
          refine lv_iload_n hx hb d_Ck_findWalls_19 rfl (lv_at hl 2 rfl) ?_
          refine v_call (va_runV (As := [.int 5, .int (nI (i + 1))]) (rest := []) ⟨hx, hb, hml, hown, hts⟩ (c_Ck_add l G lo _ _ ck kk kn fk fn (F ++ flt 5 (fun j => wallI L j L.length) i) (nd_sub hn [0, 1, 2] (by decide) rfl) hO (by rw [List.length_append]; have := flt_le 5 (fun j => wallI L j L.length) i; omega) 5 (i + 1)) (kwV 2 hts w_co_Ck_add rfl rfl w_it_Ck w_ml_Ck_77 w_im_Ck_add w_se_Ck__Ck_add (by decide +kernel) ⟨(Nat.le_of_ble_eq_true rfl), (Nat.le_of_ble_eq_true rfl)⟩) (u_preV hK hV hn [0, 1, 2] rfl hz 0 rfl rfl) rfl rfl hl.1 rfl (lv_room (Nat.le_of_ble_eq_true rfl)) d_Ck_findWalls_20 ⟨(Nat.le_of_ble_eq_true rfl), (Nat.le_of_ble_eq_true rfl)⟩) hV (fun r9 V9 H locs hp hV hle => ?_)
          obtain ⟨rfl, ⟨g_4k, g_4n, rfl, hO_g_4⟩, hz⟩ := hp
          replace hV := u_back hV hn [0, 1, 2] rfl
          have hV : vS G.1 cls lo s H locs (vU V [(ck, eO 0 [.ref kk, .ref kn, .int (nI ((F ++ flt 5 (fun j => wallI L j L.length) i ++ [(5, i + 1)]).length))]), (kk, eI (gI G) 250 g_4k), (kn, eI (gI G) 250 g_4n), (tu, eO 6 [.ref af, .ref ao, .ref a3, .int (nI L.length), .int (b2i of)]), (af, eI (gI G) 20 fr), (ao, eI (gI G) 20 ov), (a3, eI (gI G) 20 tt)]) := hV
          rw [app_y hE] at hV hO_g_4
          refine lv_iinc (v := nI (i + 2)) (lv' := [(2, .int (nI (i + 2))), (0, .ref ck), (1, .ref tu)]) hx hb d_Ck_findWalls_23 hl (k := 2) rfl (nI_add (i + 1) 1) (by decide) rfl (fun ls hl => ?_)
          refine lv_goto (tgt := 2) hx hb d_Ck_findWalls_26 (by decide) ?_
          exact ih (i + 1) g_4k g_4n (by omega) (by omega) hO_g_4 H locs ls hz hV (lv_sub hl [1, 2, 0] rfl)
        · have hE : (fun j => wallI L j L.length) (i + 1) = false := d_2
          have hV : vS G.1 cls lo s H locs (vU V [(ck, eO 0 [.ref kk, .ref kn, .int (nI ((F ++ flt 5 (fun j => wallI L j L.length) i).length))]), (kk, eI (gI G) 250 fk), (kn, eI (gI G) 250 fn), (tu, eO 6 [.ref af, .ref ao, .ref a3, .int (nI L.length), .int (b2i of)]), (af, eI (gI G) 20 fr), (ao, eI (gI G) 20 ov), (a3, eI (gI G) 20 tt)]) := hV
          refine W.eq (g2 := F0 mi 14 ls [.int 0]) (by rw [d_2]; rfl) ?_
          refine lv_if_eq (tgt := 23) hx hb d_Ck_findWalls_14 (by decide) (fun _ => ?_) (fun c_5 => absurd c_5 (by decide))
          rw [app_n hE] at hV hO
          refine lv_iinc (v := nI (i + 2)) (lv' := [(2, .int (nI (i + 2))), (0, .ref ck), (1, .ref tu)]) hx hb d_Ck_findWalls_23 hl (k := 2) rfl (nI_add (i + 1) 1) (by decide) rfl (fun ls hl => ?_)
          refine lv_goto (tgt := 2) hx hb d_Ck_findWalls_26 (by decide) ?_
          exact ih (i + 1) fk fn (by omega) (by omega) hO H locs ls hz hV (lv_sub hl [1, 2, 0] rfl)
  have eF : F ++ flt 5 (fun j => wallI L j L.length) 0 = F := List.append_nil F
  rw [← eF] at hV hO
  exact loop 41 0 fk fn (by omega) (by omega) hO H locs ls hz hV (lv_sub hl [1, 2, 0] rfl)
