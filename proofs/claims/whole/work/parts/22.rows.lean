theorem d_Rd_readTurn_0 : decode b_Rd_readTurn 0 = .ok (.aload_n 0, 1) := by decide +kernel
theorem d_Rd_readTurn_1 : decode b_Rd_readTurn 1 = .ok (.iconst 1, 1) := by decide +kernel
theorem d_Rd_readTurn_2 : decode b_Rd_readTurn 2 = .ok (.bipush 40, 2) := by decide +kernel
theorem d_Rd_readTurn_4 : decode b_Rd_readTurn 4 = .ok (.invokevirtual 61, 3) := by decide +kernel
theorem d_Rd_readTurn_7 : decode b_Rd_readTurn 7 = .ok (.istore_n 2, 1) := by decide +kernel
theorem d_Rd_readTurn_8 : decode b_Rd_readTurn 8 = .ok (.iload_n 2, 1) := by decide +kernel
theorem d_Rd_readTurn_9 : decode b_Rd_readTurn 9 = .ok (.iconst (-1), 1) := by decide +kernel
theorem d_Rd_readTurn_10 : decode b_Rd_readTurn 10 = .ok (.if_icmp .eq 12, 3) := by decide +kernel
theorem d_Rd_readTurn_13 : decode b_Rd_readTurn 13 = .ok (.aload_n 0, 1) := by decide +kernel
theorem d_Rd_readTurn_14 : decode b_Rd_readTurn 14 = .ok (.bipush 45, 2) := by decide +kernel
theorem d_Rd_readTurn_16 : decode b_Rd_readTurn 16 = .ok (.invokevirtual 30, 3) := by decide +kernel
theorem d_Rd_readTurn_19 : decode b_Rd_readTurn 19 = .ok (.ifCond .ne 5, 3) := by decide +kernel
theorem d_Rd_readTurn_22 : decode b_Rd_readTurn 22 = .ok (.iconst 0, 1) := by decide +kernel
theorem d_Rd_readTurn_23 : decode b_Rd_readTurn 23 = .ok (.ireturn, 1) := by decide +kernel
theorem d_Rd_readTurn_24 : decode b_Rd_readTurn 24 = .ok (.aload_n 0, 1) := by decide +kernel
theorem d_Rd_readTurn_25 : decode b_Rd_readTurn 25 = .ok (.iconst 1, 1) := by decide +kernel
theorem d_Rd_readTurn_26 : decode b_Rd_readTurn 26 = .ok (.bipush 40, 2) := by decide +kernel
theorem d_Rd_readTurn_28 : decode b_Rd_readTurn 28 = .ok (.invokevirtual 61, 3) := by decide +kernel
theorem d_Rd_readTurn_31 : decode b_Rd_readTurn 31 = .ok (.istore_n 3, 1) := by decide +kernel
theorem d_Rd_readTurn_32 : decode b_Rd_readTurn 32 = .ok (.iload_n 3, 1) := by decide +kernel
theorem d_Rd_readTurn_33 : decode b_Rd_readTurn 33 = .ok (.iconst (-1), 1) := by decide +kernel
theorem d_Rd_readTurn_34 : decode b_Rd_readTurn 34 = .ok (.if_icmp .eq 12, 3) := by decide +kernel
theorem d_Rd_readTurn_37 : decode b_Rd_readTurn 37 = .ok (.aload_n 0, 1) := by decide +kernel
theorem d_Rd_readTurn_38 : decode b_Rd_readTurn 38 = .ok (.bipush 45, 2) := by decide +kernel
theorem d_Rd_readTurn_40 : decode b_Rd_readTurn 40 = .ok (.invokevirtual 30, 3) := by decide +kernel
theorem d_Rd_readTurn_43 : decode b_Rd_readTurn 43 = .ok (.ifCond .ne 5, 3) := by decide +kernel
theorem d_Rd_readTurn_46 : decode b_Rd_readTurn 46 = .ok (.iconst 0, 1) := by decide +kernel
theorem d_Rd_readTurn_47 : decode b_Rd_readTurn 47 = .ok (.ireturn, 1) := by decide +kernel
theorem d_Rd_readTurn_48 : decode b_Rd_readTurn 48 = .ok (.aload_n 0, 1) := by decide +kernel
theorem d_Rd_readTurn_49 : decode b_Rd_readTurn 49 = .ok (.iconst 1, 1) := by decide +kernel
theorem d_Rd_readTurn_50 : decode b_Rd_readTurn 50 = .ok (.bipush 40, 2) := by decide +kernel
theorem d_Rd_readTurn_52 : decode b_Rd_readTurn 52 = .ok (.invokevirtual 61, 3) := by decide +kernel
theorem d_Rd_readTurn_55 : decode b_Rd_readTurn 55 = .ok (.istore 4, 2) := by decide +kernel
theorem d_Rd_readTurn_57 : decode b_Rd_readTurn 57 = .ok (.iload 4, 2) := by decide +kernel
theorem d_Rd_readTurn_59 : decode b_Rd_readTurn 59 = .ok (.iconst (-1), 1) := by decide +kernel
theorem d_Rd_readTurn_60 : decode b_Rd_readTurn 60 = .ok (.if_icmp .ne 5, 3) := by decide +kernel
theorem d_Rd_readTurn_63 : decode b_Rd_readTurn 63 = .ok (.iconst 0, 1) := by decide +kernel
theorem d_Rd_readTurn_64 : decode b_Rd_readTurn 64 = .ok (.ireturn, 1) := by decide +kernel
theorem d_Rd_readTurn_65 : decode b_Rd_readTurn 65 = .ok (.aload_n 1, 1) := by decide +kernel
theorem d_Rd_readTurn_66 : decode b_Rd_readTurn 66 = .ok (.iload_n 2, 1) := by decide +kernel
theorem d_Rd_readTurn_67 : decode b_Rd_readTurn 67 = .ok (.iload_n 3, 1) := by decide +kernel
theorem d_Rd_readTurn_68 : decode b_Rd_readTurn 68 = .ok (.iload 4, 2) := by decide +kernel
theorem d_Rd_readTurn_70 : decode b_Rd_readTurn 70 = .ok (.invokevirtual 143, 3) := by decide +kernel
theorem d_Rd_readTurn_73 : decode b_Rd_readTurn 73 = .ok (.iconst 1, 1) := by decide +kernel
theorem d_Rd_readTurn_74 : decode b_Rd_readTurn 74 = .ok (.ireturn, 1) := by decide +kernel
theorem d_Rd_readSpot_0 : decode b_Rd_readSpot 0 = .ok (.aload_n 0, 1) := by decide +kernel
theorem d_Rd_readSpot_1 : decode b_Rd_readSpot 1 = .ok (.iconst 1, 1) := by decide +kernel
theorem d_Rd_readSpot_2 : decode b_Rd_readSpot 2 = .ok (.bipush 30, 2) := by decide +kernel
theorem d_Rd_readSpot_4 : decode b_Rd_readSpot 4 = .ok (.invokevirtual 61, 3) := by decide +kernel
theorem d_Rd_readSpot_7 : decode b_Rd_readSpot 7 = .ok (.istore_n 2, 1) := by decide +kernel
theorem d_Rd_readSpot_8 : decode b_Rd_readSpot 8 = .ok (.iload_n 2, 1) := by decide +kernel
theorem d_Rd_readSpot_9 : decode b_Rd_readSpot 9 = .ok (.iconst (-1), 1) := by decide +kernel
theorem d_Rd_readSpot_10 : decode b_Rd_readSpot 10 = .ok (.if_icmp .eq 12, 3) := by decide +kernel
theorem d_Rd_readSpot_13 : decode b_Rd_readSpot 13 = .ok (.aload_n 0, 1) := by decide +kernel
theorem d_Rd_readSpot_14 : decode b_Rd_readSpot 14 = .ok (.bipush 64, 2) := by decide +kernel
theorem d_Rd_readSpot_16 : decode b_Rd_readSpot 16 = .ok (.invokevirtual 30, 3) := by decide +kernel
theorem d_Rd_readSpot_19 : decode b_Rd_readSpot 19 = .ok (.ifCond .ne 5, 3) := by decide +kernel
theorem d_Rd_readSpot_22 : decode b_Rd_readSpot 22 = .ok (.iconst 0, 1) := by decide +kernel
theorem d_Rd_readSpot_23 : decode b_Rd_readSpot 23 = .ok (.ireturn, 1) := by decide +kernel
theorem d_Rd_readSpot_24 : decode b_Rd_readSpot 24 = .ok (.aload_n 0, 1) := by decide +kernel
theorem d_Rd_readSpot_25 : decode b_Rd_readSpot 25 = .ok (.iconst 1, 1) := by decide +kernel
theorem d_Rd_readSpot_26 : decode b_Rd_readSpot 26 = .ok (.bipush 60, 2) := by decide +kernel
theorem d_Rd_readSpot_28 : decode b_Rd_readSpot 28 = .ok (.invokevirtual 61, 3) := by decide +kernel
theorem d_Rd_readSpot_31 : decode b_Rd_readSpot 31 = .ok (.istore_n 3, 1) := by decide +kernel
theorem d_Rd_readSpot_32 : decode b_Rd_readSpot 32 = .ok (.iload_n 3, 1) := by decide +kernel
theorem d_Rd_readSpot_33 : decode b_Rd_readSpot 33 = .ok (.iconst (-1), 1) := by decide +kernel
theorem d_Rd_readSpot_34 : decode b_Rd_readSpot 34 = .ok (.if_icmp .eq 12, 3) := by decide +kernel
theorem d_Rd_readSpot_37 : decode b_Rd_readSpot 37 = .ok (.aload_n 0, 1) := by decide +kernel
theorem d_Rd_readSpot_38 : decode b_Rd_readSpot 38 = .ok (.bipush 43, 2) := by decide +kernel
theorem d_Rd_readSpot_40 : decode b_Rd_readSpot 40 = .ok (.invokevirtual 30, 3) := by decide +kernel
theorem d_Rd_readSpot_43 : decode b_Rd_readSpot 43 = .ok (.ifCond .ne 5, 3) := by decide +kernel
theorem d_Rd_readSpot_46 : decode b_Rd_readSpot 46 = .ok (.iconst 0, 1) := by decide +kernel
theorem d_Rd_readSpot_47 : decode b_Rd_readSpot 47 = .ok (.ireturn, 1) := by decide +kernel
theorem d_Rd_readSpot_48 : decode b_Rd_readSpot 48 = .ok (.aload_n 0, 1) := by decide +kernel
theorem d_Rd_readSpot_49 : decode b_Rd_readSpot 49 = .ok (.iconst 0, 1) := by decide +kernel
theorem d_Rd_readSpot_50 : decode b_Rd_readSpot 50 = .ok (.sipush 9999, 3) := by decide +kernel
theorem d_Rd_readSpot_53 : decode b_Rd_readSpot 53 = .ok (.invokevirtual 61, 3) := by decide +kernel
theorem d_Rd_readSpot_56 : decode b_Rd_readSpot 56 = .ok (.istore 4, 2) := by decide +kernel
theorem d_Rd_readSpot_58 : decode b_Rd_readSpot 58 = .ok (.iload 4, 2) := by decide +kernel
theorem d_Rd_readSpot_60 : decode b_Rd_readSpot 60 = .ok (.iconst (-1), 1) := by decide +kernel
theorem d_Rd_readSpot_61 : decode b_Rd_readSpot 61 = .ok (.if_icmp .ne 5, 3) := by decide +kernel
theorem d_Rd_readSpot_64 : decode b_Rd_readSpot 64 = .ok (.iconst 0, 1) := by decide +kernel
theorem d_Rd_readSpot_65 : decode b_Rd_readSpot 65 = .ok (.ireturn, 1) := by decide +kernel
theorem d_Rd_readSpot_66 : decode b_Rd_readSpot 66 = .ok (.aload_n 1, 1) := by decide +kernel
theorem d_Rd_readSpot_67 : decode b_Rd_readSpot 67 = .ok (.iload_n 2, 1) := by decide +kernel
theorem d_Rd_readSpot_68 : decode b_Rd_readSpot 68 = .ok (.iload_n 3, 1) := by decide +kernel
theorem d_Rd_readSpot_69 : decode b_Rd_readSpot 69 = .ok (.iload 4, 2) := by decide +kernel
theorem d_Rd_readSpot_71 : decode b_Rd_readSpot 71 = .ok (.invokevirtual 148, 3) := by decide +kernel
theorem d_Rd_readSpot_74 : decode b_Rd_readSpot 74 = .ok (.iconst 1, 1) := by decide +kernel
theorem d_Rd_readSpot_75 : decode b_Rd_readSpot 75 = .ok (.ireturn, 1) := by decide +kernel
theorem d_Rd_readGone_0 : decode b_Rd_readGone 0 = .ok (.aload_n 0, 1) := by decide +kernel
theorem d_Rd_readGone_1 : decode b_Rd_readGone 1 = .ok (.invokevirtual 22, 3) := by decide +kernel
theorem d_Rd_readGone_4 : decode b_Rd_readGone 4 = .ok (.istore_n 2, 1) := by decide +kernel
theorem d_Rd_readGone_5 : decode b_Rd_readGone 5 = .ok (.iload_n 2, 1) := by decide +kernel
theorem d_Rd_readGone_6 : decode b_Rd_readGone 6 = .ok (.bipush 112, 2) := by decide +kernel
theorem d_Rd_readGone_8 : decode b_Rd_readGone 8 = .ok (.if_icmp .eq 17, 3) := by decide +kernel
theorem d_Rd_readGone_11 : decode b_Rd_readGone 11 = .ok (.iload_n 2, 1) := by decide +kernel
theorem d_Rd_readGone_12 : decode b_Rd_readGone 12 = .ok (.bipush 104, 2) := by decide +kernel
theorem d_Rd_readGone_14 : decode b_Rd_readGone 14 = .ok (.if_icmp .eq 11, 3) := by decide +kernel
theorem d_Rd_readGone_17 : decode b_Rd_readGone 17 = .ok (.iload_n 2, 1) := by decide +kernel
theorem d_Rd_readGone_18 : decode b_Rd_readGone 18 = .ok (.bipush 115, 2) := by decide +kernel
theorem d_Rd_readGone_20 : decode b_Rd_readGone 20 = .ok (.if_icmp .eq 5, 3) := by decide +kernel
theorem d_Rd_readGone_23 : decode b_Rd_readGone 23 = .ok (.iconst 0, 1) := by decide +kernel
theorem d_Rd_readGone_24 : decode b_Rd_readGone 24 = .ok (.ireturn, 1) := by decide +kernel
theorem d_Rd_readGone_25 : decode b_Rd_readGone 25 = .ok (.aload_n 0, 1) := by decide +kernel
theorem d_Rd_readGone_26 : decode b_Rd_readGone 26 = .ok (.dup, 1) := by decide +kernel
theorem d_Rd_readGone_27 : decode b_Rd_readGone 27 = .ok (.getfield 19, 3) := by decide +kernel
theorem d_Rd_readGone_30 : decode b_Rd_readGone 30 = .ok (.iconst 1, 1) := by decide +kernel
theorem d_Rd_readGone_31 : decode b_Rd_readGone 31 = .ok (.iadd, 1) := by decide +kernel
theorem d_Rd_readGone_32 : decode b_Rd_readGone 32 = .ok (.putfield 19, 3) := by decide +kernel
theorem d_Rd_readGone_35 : decode b_Rd_readGone 35 = .ok (.aload_n 0, 1) := by decide +kernel
theorem d_Rd_readGone_36 : decode b_Rd_readGone 36 = .ok (.iconst 1, 1) := by decide +kernel
theorem d_Rd_readGone_37 : decode b_Rd_readGone 37 = .ok (.iload_n 2, 1) := by decide +kernel
theorem d_Rd_readGone_38 : decode b_Rd_readGone 38 = .ok (.bipush 112, 2) := by decide +kernel
theorem d_Rd_readGone_40 : decode b_Rd_readGone 40 = .ok (.if_icmp .ne 8, 3) := by decide +kernel
theorem d_Rd_readGone_43 : decode b_Rd_readGone 43 = .ok (.bipush 60, 2) := by decide +kernel
theorem d_Rd_readGone_45 : decode b_Rd_readGone 45 = .ok (.goto 5, 3) := by decide +kernel
theorem d_Rd_readGone_48 : decode b_Rd_readGone 48 = .ok (.bipush 30, 2) := by decide +kernel
theorem d_Rd_readGone_50 : decode b_Rd_readGone 50 = .ok (.invokevirtual 61, 3) := by decide +kernel
theorem d_Rd_readGone_53 : decode b_Rd_readGone 53 = .ok (.istore_n 3, 1) := by decide +kernel
theorem d_Rd_readGone_54 : decode b_Rd_readGone 54 = .ok (.iload_n 3, 1) := by decide +kernel
theorem d_Rd_readGone_55 : decode b_Rd_readGone 55 = .ok (.iconst (-1), 1) := by decide +kernel
theorem d_Rd_readGone_56 : decode b_Rd_readGone 56 = .ok (.if_icmp .ne 5, 3) := by decide +kernel
theorem d_Rd_readGone_59 : decode b_Rd_readGone 59 = .ok (.iconst 0, 1) := by decide +kernel
theorem d_Rd_readGone_60 : decode b_Rd_readGone 60 = .ok (.ireturn, 1) := by decide +kernel
theorem d_Rd_readGone_61 : decode b_Rd_readGone 61 = .ok (.iload_n 2, 1) := by decide +kernel
theorem d_Rd_readGone_62 : decode b_Rd_readGone 62 = .ok (.bipush 112, 2) := by decide +kernel
theorem d_Rd_readGone_64 : decode b_Rd_readGone 64 = .ok (.if_icmp .ne 12, 3) := by decide +kernel
theorem d_Rd_readGone_67 : decode b_Rd_readGone 67 = .ok (.aload_n 1, 1) := by decide +kernel
theorem d_Rd_readGone_68 : decode b_Rd_readGone 68 = .ok (.iload_n 3, 1) := by decide +kernel
theorem d_Rd_readGone_69 : decode b_Rd_readGone 69 = .ok (.aconst_null, 1) := by decide +kernel
theorem d_Rd_readGone_70 : decode b_Rd_readGone 70 = .ok (.invokevirtual 84, 3) := by decide +kernel
theorem d_Rd_readGone_73 : decode b_Rd_readGone 73 = .ok (.goto 32, 3) := by decide +kernel
theorem d_Rd_readGone_76 : decode b_Rd_readGone 76 = .ok (.iload_n 2, 1) := by decide +kernel
theorem d_Rd_readGone_77 : decode b_Rd_readGone 77 = .ok (.bipush 104, 2) := by decide +kernel
theorem d_Rd_readGone_79 : decode b_Rd_readGone 79 = .ok (.if_icmp .ne 16, 3) := by decide +kernel
theorem d_Rd_readGone_82 : decode b_Rd_readGone 82 = .ok (.aload_n 1, 1) := by decide +kernel
theorem d_Rd_readGone_83 : decode b_Rd_readGone 83 = .ok (.getfield 47, 3) := by decide +kernel
theorem d_Rd_readGone_86 : decode b_Rd_readGone 86 = .ok (.iload_n 3, 1) := by decide +kernel
theorem d_Rd_readGone_87 : decode b_Rd_readGone 87 = .ok (.iconst 0, 1) := by decide +kernel
theorem d_Rd_readGone_88 : decode b_Rd_readGone 88 = .ok (.iconst 0, 1) := by decide +kernel
theorem d_Rd_readGone_89 : decode b_Rd_readGone 89 = .ok (.invokevirtual 148, 3) := by decide +kernel
theorem d_Rd_readGone_92 : decode b_Rd_readGone 92 = .ok (.goto 13, 3) := by decide +kernel
theorem d_Rd_readGone_95 : decode b_Rd_readGone 95 = .ok (.aload_n 1, 1) := by decide +kernel
theorem d_Rd_readGone_96 : decode b_Rd_readGone 96 = .ok (.getfield 55, 3) := by decide +kernel
theorem d_Rd_readGone_99 : decode b_Rd_readGone 99 = .ok (.iload_n 3, 1) := by decide +kernel
theorem d_Rd_readGone_100 : decode b_Rd_readGone 100 = .ok (.iconst 0, 1) := by decide +kernel
theorem d_Rd_readGone_101 : decode b_Rd_readGone 101 = .ok (.iconst 0, 1) := by decide +kernel
theorem d_Rd_readGone_102 : decode b_Rd_readGone 102 = .ok (.invokevirtual 148, 3) := by decide +kernel
theorem d_Rd_readGone_105 : decode b_Rd_readGone 105 = .ok (.iconst 1, 1) := by decide +kernel
theorem d_Rd_readGone_106 : decode b_Rd_readGone 106 = .ok (.ireturn, 1) := by decide +kernel
theorem d_Rd_readHours_0 : decode b_Rd_readHours 0 = .ok (.iconst 0, 1) := by decide +kernel
theorem d_Rd_readHours_1 : decode b_Rd_readHours 1 = .ok (.istore_n 2, 1) := by decide +kernel
theorem d_Rd_readHours_2 : decode b_Rd_readHours 2 = .ok (.iload_n 2, 1) := by decide +kernel
theorem d_Rd_readHours_3 : decode b_Rd_readHours 3 = .ok (.iconst 3, 1) := by decide +kernel
theorem d_Rd_readHours_4 : decode b_Rd_readHours 4 = .ok (.if_icmp .ge 113, 3) := by decide +kernel
theorem d_Rd_readHours_7 : decode b_Rd_readHours 7 = .ok (.aload_n 0, 1) := by decide +kernel
theorem d_Rd_readHours_8 : decode b_Rd_readHours 8 = .ok (.invokevirtual 22, 3) := by decide +kernel
theorem d_Rd_readHours_11 : decode b_Rd_readHours 11 = .ok (.bipush 91, 2) := by decide +kernel
theorem d_Rd_readHours_13 : decode b_Rd_readHours 13 = .ok (.if_icmp .ne 104, 3) := by decide +kernel
theorem d_Rd_readHours_16 : decode b_Rd_readHours 16 = .ok (.aload_n 0, 1) := by decide +kernel
theorem d_Rd_readHours_17 : decode b_Rd_readHours 17 = .ok (.dup, 1) := by decide +kernel
theorem d_Rd_readHours_18 : decode b_Rd_readHours 18 = .ok (.getfield 19, 3) := by decide +kernel
theorem d_Rd_readHours_21 : decode b_Rd_readHours 21 = .ok (.iconst 1, 1) := by decide +kernel
theorem d_Rd_readHours_22 : decode b_Rd_readHours 22 = .ok (.iadd, 1) := by decide +kernel
theorem d_Rd_readHours_23 : decode b_Rd_readHours 23 = .ok (.putfield 19, 3) := by decide +kernel
theorem d_Rd_readHours_26 : decode b_Rd_readHours 26 = .ok (.aload_n 0, 1) := by decide +kernel
theorem d_Rd_readHours_27 : decode b_Rd_readHours 27 = .ok (.iconst 0, 1) := by decide +kernel
theorem d_Rd_readHours_28 : decode b_Rd_readHours 28 = .ok (.bipush 23, 2) := by decide +kernel
theorem d_Rd_readHours_30 : decode b_Rd_readHours 30 = .ok (.invokevirtual 61, 3) := by decide +kernel
theorem d_Rd_readHours_33 : decode b_Rd_readHours 33 = .ok (.istore_n 3, 1) := by decide +kernel
theorem d_Rd_readHours_34 : decode b_Rd_readHours 34 = .ok (.iload_n 3, 1) := by decide +kernel
theorem d_Rd_readHours_35 : decode b_Rd_readHours 35 = .ok (.iconst (-1), 1) := by decide +kernel
theorem d_Rd_readHours_36 : decode b_Rd_readHours 36 = .ok (.if_icmp .eq 12, 3) := by decide +kernel
theorem d_Rd_readHours_39 : decode b_Rd_readHours 39 = .ok (.aload_n 0, 1) := by decide +kernel
theorem d_Rd_readHours_40 : decode b_Rd_readHours 40 = .ok (.bipush 45, 2) := by decide +kernel
theorem d_Rd_readHours_42 : decode b_Rd_readHours 42 = .ok (.invokevirtual 30, 3) := by decide +kernel
theorem d_Rd_readHours_45 : decode b_Rd_readHours 45 = .ok (.ifCond .ne 5, 3) := by decide +kernel
theorem d_Rd_readHours_48 : decode b_Rd_readHours 48 = .ok (.iconst 0, 1) := by decide +kernel
theorem d_Rd_readHours_49 : decode b_Rd_readHours 49 = .ok (.ireturn, 1) := by decide +kernel
theorem d_Rd_readHours_50 : decode b_Rd_readHours 50 = .ok (.aload_n 0, 1) := by decide +kernel
theorem d_Rd_readHours_51 : decode b_Rd_readHours 51 = .ok (.iload_n 3, 1) := by decide +kernel
theorem d_Rd_readHours_52 : decode b_Rd_readHours 52 = .ok (.bipush 23, 2) := by decide +kernel
theorem d_Rd_readHours_54 : decode b_Rd_readHours 54 = .ok (.invokevirtual 61, 3) := by decide +kernel
theorem d_Rd_readHours_57 : decode b_Rd_readHours 57 = .ok (.istore 4, 2) := by decide +kernel
theorem d_Rd_readHours_59 : decode b_Rd_readHours 59 = .ok (.iload 4, 2) := by decide +kernel
theorem d_Rd_readHours_61 : decode b_Rd_readHours 61 = .ok (.iconst (-1), 1) := by decide +kernel
theorem d_Rd_readHours_62 : decode b_Rd_readHours 62 = .ok (.if_icmp .eq 12, 3) := by decide +kernel
theorem d_Rd_readHours_65 : decode b_Rd_readHours 65 = .ok (.aload_n 0, 1) := by decide +kernel
theorem d_Rd_readHours_66 : decode b_Rd_readHours 66 = .ok (.bipush 58, 2) := by decide +kernel
theorem d_Rd_readHours_68 : decode b_Rd_readHours 68 = .ok (.invokevirtual 30, 3) := by decide +kernel
theorem d_Rd_readHours_71 : decode b_Rd_readHours 71 = .ok (.ifCond .ne 5, 3) := by decide +kernel
theorem d_Rd_readHours_74 : decode b_Rd_readHours 74 = .ok (.iconst 0, 1) := by decide +kernel
theorem d_Rd_readHours_75 : decode b_Rd_readHours 75 = .ok (.ireturn, 1) := by decide +kernel
theorem d_Rd_readHours_76 : decode b_Rd_readHours 76 = .ok (.aload_n 0, 1) := by decide +kernel
theorem d_Rd_readHours_77 : decode b_Rd_readHours 77 = .ok (.iconst 1, 1) := by decide +kernel
theorem d_Rd_readHours_78 : decode b_Rd_readHours 78 = .ok (.bipush 99, 2) := by decide +kernel
theorem d_Rd_readHours_80 : decode b_Rd_readHours 80 = .ok (.invokevirtual 61, 3) := by decide +kernel
theorem d_Rd_readHours_83 : decode b_Rd_readHours 83 = .ok (.istore 5, 2) := by decide +kernel
theorem d_Rd_readHours_85 : decode b_Rd_readHours 85 = .ok (.iload 5, 2) := by decide +kernel
theorem d_Rd_readHours_87 : decode b_Rd_readHours 87 = .ok (.iconst (-1), 1) := by decide +kernel
theorem d_Rd_readHours_88 : decode b_Rd_readHours 88 = .ok (.if_icmp .eq 12, 3) := by decide +kernel
theorem d_Rd_readHours_91 : decode b_Rd_readHours 91 = .ok (.aload_n 0, 1) := by decide +kernel
theorem d_Rd_readHours_92 : decode b_Rd_readHours 92 = .ok (.bipush 93, 2) := by decide +kernel
theorem d_Rd_readHours_94 : decode b_Rd_readHours 94 = .ok (.invokevirtual 30, 3) := by decide +kernel
theorem d_Rd_readHours_97 : decode b_Rd_readHours 97 = .ok (.ifCond .ne 5, 3) := by decide +kernel
theorem d_Rd_readHours_100 : decode b_Rd_readHours 100 = .ok (.iconst 0, 1) := by decide +kernel
theorem d_Rd_readHours_101 : decode b_Rd_readHours 101 = .ok (.ireturn, 1) := by decide +kernel
theorem d_Rd_readHours_102 : decode b_Rd_readHours 102 = .ok (.aload_n 1, 1) := by decide +kernel
theorem d_Rd_readHours_103 : decode b_Rd_readHours 103 = .ok (.iload_n 3, 1) := by decide +kernel
theorem d_Rd_readHours_104 : decode b_Rd_readHours 104 = .ok (.iload 4, 2) := by decide +kernel
theorem d_Rd_readHours_106 : decode b_Rd_readHours 106 = .ok (.iload 5, 2) := by decide +kernel
theorem d_Rd_readHours_108 : decode b_Rd_readHours 108 = .ok (.invokevirtual 119, 3) := by decide +kernel
theorem d_Rd_readHours_111 : decode b_Rd_readHours 111 = .ok (.iinc 2 1, 3) := by decide +kernel
theorem d_Rd_readHours_114 : decode b_Rd_readHours 114 = .ok (.goto (-112), 3) := by decide +kernel
theorem d_Rd_readHours_117 : decode b_Rd_readHours 117 = .ok (.iconst 1, 1) := by decide +kernel
theorem d_Rd_readHours_118 : decode b_Rd_readHours 118 = .ok (.ireturn, 1) := by decide +kernel
theorem d_Rd_readLimits_0 : decode b_Rd_readLimits 0 = .ok (.aload_n 0, 1) := by decide +kernel
theorem d_Rd_readLimits_1 : decode b_Rd_readLimits 1 = .ok (.invokevirtual 22, 3) := by decide +kernel
theorem d_Rd_readLimits_4 : decode b_Rd_readLimits 4 = .ok (.bipush 94, 2) := by decide +kernel
theorem d_Rd_readLimits_6 : decode b_Rd_readLimits 6 = .ok (.if_icmp .ne 34, 3) := by decide +kernel
theorem d_Rd_readLimits_9 : decode b_Rd_readLimits 9 = .ok (.aload_n 0, 1) := by decide +kernel
theorem d_Rd_readLimits_10 : decode b_Rd_readLimits 10 = .ok (.dup, 1) := by decide +kernel
theorem d_Rd_readLimits_11 : decode b_Rd_readLimits 11 = .ok (.getfield 19, 3) := by decide +kernel
theorem d_Rd_readLimits_14 : decode b_Rd_readLimits 14 = .ok (.iconst 1, 1) := by decide +kernel
theorem d_Rd_readLimits_15 : decode b_Rd_readLimits 15 = .ok (.iadd, 1) := by decide +kernel
theorem d_Rd_readLimits_16 : decode b_Rd_readLimits 16 = .ok (.putfield 19, 3) := by decide +kernel
theorem d_Rd_readLimits_19 : decode b_Rd_readLimits 19 = .ok (.aload_n 1, 1) := by decide +kernel
theorem d_Rd_readLimits_20 : decode b_Rd_readLimits 20 = .ok (.aload_n 0, 1) := by decide +kernel
theorem d_Rd_readLimits_21 : decode b_Rd_readLimits 21 = .ok (.iconst 1, 1) := by decide +kernel
theorem d_Rd_readLimits_22 : decode b_Rd_readLimits 22 = .ok (.bipush 99, 2) := by decide +kernel
theorem d_Rd_readLimits_24 : decode b_Rd_readLimits 24 = .ok (.invokevirtual 61, 3) := by decide +kernel
theorem d_Rd_readLimits_27 : decode b_Rd_readLimits 27 = .ok (.putfield 123, 3) := by decide +kernel
theorem d_Rd_readLimits_30 : decode b_Rd_readLimits 30 = .ok (.aload_n 1, 1) := by decide +kernel
theorem d_Rd_readLimits_31 : decode b_Rd_readLimits 31 = .ok (.getfield 123, 3) := by decide +kernel
theorem d_Rd_readLimits_34 : decode b_Rd_readLimits 34 = .ok (.iconst (-1), 1) := by decide +kernel
theorem d_Rd_readLimits_35 : decode b_Rd_readLimits 35 = .ok (.if_icmp .ne 5, 3) := by decide +kernel
theorem d_Rd_readLimits_38 : decode b_Rd_readLimits 38 = .ok (.iconst 0, 1) := by decide +kernel
theorem d_Rd_readLimits_39 : decode b_Rd_readLimits 39 = .ok (.ireturn, 1) := by decide +kernel
theorem d_Rd_readLimits_40 : decode b_Rd_readLimits 40 = .ok (.aload_n 0, 1) := by decide +kernel
theorem d_Rd_readLimits_41 : decode b_Rd_readLimits 41 = .ok (.invokevirtual 22, 3) := by decide +kernel
theorem d_Rd_readLimits_44 : decode b_Rd_readLimits 44 = .ok (.bipush 33, 2) := by decide +kernel
theorem d_Rd_readLimits_46 : decode b_Rd_readLimits 46 = .ok (.if_icmp .ne 24, 3) := by decide +kernel
theorem d_Rd_readLimits_49 : decode b_Rd_readLimits 49 = .ok (.aload_n 0, 1) := by decide +kernel
theorem d_Rd_readLimits_50 : decode b_Rd_readLimits 50 = .ok (.dup, 1) := by decide +kernel
theorem d_Rd_readLimits_51 : decode b_Rd_readLimits 51 = .ok (.getfield 19, 3) := by decide +kernel
theorem d_Rd_readLimits_54 : decode b_Rd_readLimits 54 = .ok (.iconst 1, 1) := by decide +kernel
theorem d_Rd_readLimits_55 : decode b_Rd_readLimits 55 = .ok (.iadd, 1) := by decide +kernel
theorem d_Rd_readLimits_56 : decode b_Rd_readLimits 56 = .ok (.putfield 19, 3) := by decide +kernel
theorem d_Rd_readLimits_59 : decode b_Rd_readLimits 59 = .ok (.aload_n 1, 1) := by decide +kernel
theorem d_Rd_readLimits_60 : decode b_Rd_readLimits 60 = .ok (.aload_n 0, 1) := by decide +kernel
theorem d_Rd_readLimits_61 : decode b_Rd_readLimits 61 = .ok (.iconst 1, 1) := by decide +kernel
theorem d_Rd_readLimits_62 : decode b_Rd_readLimits 62 = .ok (.bipush 99, 2) := by decide +kernel
theorem d_Rd_readLimits_64 : decode b_Rd_readLimits 64 = .ok (.invokevirtual 61, 3) := by decide +kernel
theorem d_Rd_readLimits_67 : decode b_Rd_readLimits 67 = .ok (.putfield 126, 3) := by decide +kernel
theorem d_Rd_readLimits_70 : decode b_Rd_readLimits 70 = .ok (.aload_n 1, 1) := by decide +kernel
theorem d_Rd_readLimits_71 : decode b_Rd_readLimits 71 = .ok (.getfield 126, 3) := by decide +kernel
theorem d_Rd_readLimits_74 : decode b_Rd_readLimits 74 = .ok (.iconst (-1), 1) := by decide +kernel
theorem d_Rd_readLimits_75 : decode b_Rd_readLimits 75 = .ok (.if_icmp .eq 7, 3) := by decide +kernel
theorem d_Rd_readLimits_78 : decode b_Rd_readLimits 78 = .ok (.iconst 1, 1) := by decide +kernel
theorem d_Rd_readLimits_79 : decode b_Rd_readLimits 79 = .ok (.goto 4, 3) := by decide +kernel
theorem d_Rd_readLimits_82 : decode b_Rd_readLimits 82 = .ok (.iconst 0, 1) := by decide +kernel
theorem d_Rd_readLimits_83 : decode b_Rd_readLimits 83 = .ok (.ireturn, 1) := by decide +kernel
theorem d_Rd_readNodes_0 : decode b_Rd_readNodes 0 = .ok (.aload_n 1, 1) := by decide +kernel
theorem d_Rd_readNodes_1 : decode b_Rd_readNodes 1 = .ok (.aload_n 0, 1) := by decide +kernel
theorem d_Rd_readNodes_2 : decode b_Rd_readNodes 2 = .ok (.iconst 1, 1) := by decide +kernel
theorem d_Rd_readNodes_3 : decode b_Rd_readNodes 3 = .ok (.bipush 40, 2) := by decide +kernel
theorem d_Rd_readNodes_5 : decode b_Rd_readNodes 5 = .ok (.invokevirtual 61, 3) := by decide +kernel
theorem d_Rd_readNodes_8 : decode b_Rd_readNodes 8 = .ok (.putfield 88, 3) := by decide +kernel
theorem d_Rd_readNodes_11 : decode b_Rd_readNodes 11 = .ok (.aload_n 1, 1) := by decide +kernel
theorem d_Rd_readNodes_12 : decode b_Rd_readNodes 12 = .ok (.getfield 88, 3) := by decide +kernel
theorem d_Rd_readNodes_15 : decode b_Rd_readNodes 15 = .ok (.iconst (-1), 1) := by decide +kernel
theorem d_Rd_readNodes_16 : decode b_Rd_readNodes 16 = .ok (.if_icmp .ne 5, 3) := by decide +kernel
theorem d_Rd_readNodes_19 : decode b_Rd_readNodes 19 = .ok (.iconst 0, 1) := by decide +kernel
theorem d_Rd_readNodes_20 : decode b_Rd_readNodes 20 = .ok (.ireturn, 1) := by decide +kernel
theorem d_Rd_readNodes_21 : decode b_Rd_readNodes 21 = .ok (.aload_n 1, 1) := by decide +kernel
theorem d_Rd_readNodes_22 : decode b_Rd_readNodes 22 = .ok (.aload_n 0, 1) := by decide +kernel
theorem d_Rd_readNodes_23 : decode b_Rd_readNodes 23 = .ok (.invokevirtual 22, 3) := by decide +kernel
theorem d_Rd_readNodes_26 : decode b_Rd_readNodes 26 = .ok (.bipush 62, 2) := by decide +kernel
theorem d_Rd_readNodes_28 : decode b_Rd_readNodes 28 = .ok (.if_icmp .ne 7, 3) := by decide +kernel
theorem d_Rd_readNodes_31 : decode b_Rd_readNodes 31 = .ok (.iconst 1, 1) := by decide +kernel
theorem d_Rd_readNodes_32 : decode b_Rd_readNodes 32 = .ok (.goto 4, 3) := by decide +kernel
theorem d_Rd_readNodes_35 : decode b_Rd_readNodes 35 = .ok (.iconst 0, 1) := by decide +kernel
theorem d_Rd_readNodes_36 : decode b_Rd_readNodes 36 = .ok (.putfield 91, 3) := by decide +kernel
theorem d_Rd_readNodes_39 : decode b_Rd_readNodes 39 = .ok (.aload_n 0, 1) := by decide +kernel
theorem d_Rd_readNodes_40 : decode b_Rd_readNodes 40 = .ok (.aload_n 1, 1) := by decide +kernel
theorem d_Rd_readNodes_41 : decode b_Rd_readNodes 41 = .ok (.getfield 91, 3) := by decide +kernel
theorem d_Rd_readNodes_44 : decode b_Rd_readNodes 44 = .ok (.ifCond .eq 8, 3) := by decide +kernel
theorem d_Rd_readNodes_47 : decode b_Rd_readNodes 47 = .ok (.bipush 62, 2) := by decide +kernel
theorem d_Rd_readNodes_49 : decode b_Rd_readNodes 49 = .ok (.goto 5, 3) := by decide +kernel
theorem d_Rd_readNodes_52 : decode b_Rd_readNodes 52 = .ok (.bipush 45, 2) := by decide +kernel
theorem d_Rd_readNodes_54 : decode b_Rd_readNodes 54 = .ok (.invokevirtual 30, 3) := by decide +kernel
theorem d_Rd_readNodes_57 : decode b_Rd_readNodes 57 = .ok (.ifCond .ne 5, 3) := by decide +kernel
theorem d_Rd_readNodes_60 : decode b_Rd_readNodes 60 = .ok (.iconst 0, 1) := by decide +kernel
theorem d_Rd_readNodes_61 : decode b_Rd_readNodes 61 = .ok (.ireturn, 1) := by decide +kernel
theorem d_Rd_readNodes_62 : decode b_Rd_readNodes 62 = .ok (.aload_n 1, 1) := by decide +kernel
theorem d_Rd_readNodes_63 : decode b_Rd_readNodes 63 = .ok (.aload_n 0, 1) := by decide +kernel
theorem d_Rd_readNodes_64 : decode b_Rd_readNodes 64 = .ok (.iconst 1, 1) := by decide +kernel
theorem d_Rd_readNodes_65 : decode b_Rd_readNodes 65 = .ok (.bipush 40, 2) := by decide +kernel
theorem d_Rd_readNodes_67 : decode b_Rd_readNodes 67 = .ok (.invokevirtual 61, 3) := by decide +kernel
theorem d_Rd_readNodes_70 : decode b_Rd_readNodes 70 = .ok (.putfield 95, 3) := by decide +kernel
theorem d_Rd_readNodes_73 : decode b_Rd_readNodes 73 = .ok (.aload_n 1, 1) := by decide +kernel
theorem d_Rd_readNodes_74 : decode b_Rd_readNodes 74 = .ok (.getfield 95, 3) := by decide +kernel
theorem d_Rd_readNodes_77 : decode b_Rd_readNodes 77 = .ok (.aload_n 1, 1) := by decide +kernel
theorem d_Rd_readNodes_78 : decode b_Rd_readNodes 78 = .ok (.getfield 88, 3) := by decide +kernel
theorem d_Rd_readNodes_81 : decode b_Rd_readNodes 81 = .ok (.if_icmp .ne 15, 3) := by decide +kernel
theorem d_Rd_readNodes_84 : decode b_Rd_readNodes 84 = .ok (.aload_n 0, 1) := by decide +kernel
theorem d_Rd_readNodes_85 : decode b_Rd_readNodes 85 = .ok (.dup, 1) := by decide +kernel
theorem d_Rd_readNodes_86 : decode b_Rd_readNodes 86 = .ok (.getfield 19, 3) := by decide +kernel
theorem d_Rd_readNodes_89 : decode b_Rd_readNodes 89 = .ok (.iconst 1, 1) := by decide +kernel
theorem d_Rd_readNodes_90 : decode b_Rd_readNodes 90 = .ok (.isub, 1) := by decide +kernel
theorem d_Rd_readNodes_91 : decode b_Rd_readNodes 91 = .ok (.putfield 19, 3) := by decide +kernel
theorem d_Rd_readNodes_94 : decode b_Rd_readNodes 94 = .ok (.iconst 0, 1) := by decide +kernel
theorem d_Rd_readNodes_95 : decode b_Rd_readNodes 95 = .ok (.ireturn, 1) := by decide +kernel
theorem d_Rd_readNodes_96 : decode b_Rd_readNodes 96 = .ok (.aload_n 1, 1) := by decide +kernel
theorem d_Rd_readNodes_97 : decode b_Rd_readNodes 97 = .ok (.getfield 95, 3) := by decide +kernel
theorem d_Rd_readNodes_100 : decode b_Rd_readNodes 100 = .ok (.iconst (-1), 1) := by decide +kernel
theorem d_Rd_readNodes_101 : decode b_Rd_readNodes 101 = .ok (.if_icmp .eq 7, 3) := by decide +kernel
theorem d_Rd_readNodes_104 : decode b_Rd_readNodes 104 = .ok (.iconst 1, 1) := by decide +kernel
theorem d_Rd_readNodes_105 : decode b_Rd_readNodes 105 = .ok (.goto 4, 3) := by decide +kernel
theorem d_Rd_readNodes_108 : decode b_Rd_readNodes 108 = .ok (.iconst 0, 1) := by decide +kernel
theorem d_Rd_readNodes_109 : decode b_Rd_readNodes 109 = .ok (.ireturn, 1) := by decide +kernel

/-- what a row 'gone' does -/
def gnP (pf : Nat → Option Nat) : Sum Nat ((Nat × Nat) × Nat) → Nat → Option Nat
  | .inl _ => pf
  | .inr y => if y.1.1 = 112 then va_up pf y.1.2 none else pf
def gnS (c : Nat) (f : Nat → Int32) : Sum Nat ((Nat × Nat) × Nat) → Nat → Int32
  | .inl _ => f
  | .inr y => if y.1.1 = c then upd f y.1.2 0 else f
def tnE (x : List Tri × Bool) : Sum Nat (Tri × Nat) → List Tri × Bool
  | .inl _ => x
  | .inr y => tnAdd x y.1
theorem tnAdd_len {x : List Tri × Bool} {y : Tri} (h : x.1.length ≤ 20) : (tnAdd x y).1.length ≤ 20 := by
  unfold tnAdd
  split
  · exact h
  · split
    · exact h
    · simp; omega
/-- what a row of a building or a station does to the two rows of numbers -/
def spE (x : (Nat → Int32) × (Nat → Int32)) : Sum Nat (Tri × Nat) → (Nat → Int32) × (Nat → Int32)
  | .inl _ => x
  | .inr y => (upd x.1 y.1.1 (nI y.1.2.1), upd x.2 y.1.1 (nI y.1.2.2))

set_option maxHeartbeats 4000000 in
set_option maxRecDepth 100000 in
/-- Reader.readTurn -/
theorem c_Rd_readTurn (l : Launch) (G : Gx) (lo : Nat) (V : Vw) (sz : Nat) (rd tp : Nat) (f : Nat → Int32) (t : Nat → Nat) (n p : Nat) (tn af ao a3 : Nat) (fr ov tt : Nat → Int32) (L : List Tri) (of : Bool) (hn : [rd, tp, tn, af, ao, a3].Nodup) (hO : tnOk fr ov tt L) (hL : L.length ≤ 20) (hT : tpOk f t n) (h4 : n ≤ 400) (hp : p ≤ n) : Met l y_Rd_readTurn ws_Rd_readTurn ({ frames := 2, cells := 0, slots := 0, locals := 60 } : Room) (vPre G lo [.ref rd, .ref tn] (vU V [(rd, eO 3 [.ref tp, .int (nI n), .int (nI p)]), (tp, eI (gB G) 400 f), (tn, eO 6 [.ref af, .ref ao, .ref a3, .int (nI L.length), .int (b2i of)]), (af, eI (gI G) 20 fr), (ao, eI (gI G) 20 ov), (a3, eI (gI G) 20 tt)]) sz) (vPost G lo (fun r V' k => r = some (.int (rB (turnR t n p))) ∧ (∃ (fr2 ov2 tt2 : Nat → Int32) (L2 : List Tri) (of2 : Bool), V' = vU V [(rd, eO 3 [.ref tp, .int (nI n), .int (nI (sR (turnR t n p)))]), (tp, eI (gB G) 400 f), (tn, eO 6 [.ref af, .ref ao, .ref a3, .int (nI L2.length), .int (b2i of2)]), (af, eI (gI G) 20 fr2), (ao, eI (gI G) 20 ov2), (a3, eI (gI G) 20 tt2)] ∧ tnOk fr2 ov2 tt2 L2 ∧ (L2, of2) = tnE (L, of) (turnR t n p)) ∧ k = sz)) 0 0 (vL lo) := by
  refine vMet (R := RRd) (by decide) rfl (Nat.le_of_ble_eq_true rfl) ?_
  intro pg ev s mi args below meth cd hx hb hr hml hlk hnm hts hown hK hz hV ls hl
  have hl : lv_has ls 5 [(0, .ref rd), (1, .ref tn)] := hl
  have hV0 := hV
  obtain ⟨H, hH⟩ : ∃ H, H = s.heap := ⟨_, rfl⟩
  obtain ⟨locs, hlocs⟩ : ∃ locs : List Loc, locs = [] := ⟨_, rfl⟩
  rw [← hH, ← hlocs]
  rw [← hH] at hz
  replace hV : vS G.1 cls lo s H locs (vU V [(rd, eO 3 [.ref tp, .int (nI n), .int (nI p)]), (tp, eI (gB G) 400 f), (tn, eO 6 [.ref af, .ref ao, .ref a3, .int (nI L.length), .int (b2i of)]), (af, eI (gI G) 20 fr), (ao, eI (gI G) 20 ov), (a3, eI (gI G) 20 tt)]) := by rw [hH, hlocs]; exact hV
  clear hH hlocs hV0
  refine lv_aload_n hx hb d_Rd_readTurn_0 rfl (lv_at hl 0 rfl) ?_
  refine lv_iconst (v := 1) hx hb d_Rd_readTurn_1 (by decide) ?_
  refine lv_bipush (v := 40) hx hb d_Rd_readTurn_2 (by decide) ?_
  refine v_call (va_runV (As := [.int 1, .int 40]) (rest := []) ⟨hx, hb, hml, hown, hts⟩ (c_Rd_readNumber l G lo _ _ rd tp f t n p (nd_sub hn [0, 1] (by decide) rfl) hT h4 (by omega) 1 40 (by omega) (by omega)) (kwV 2 hts w_co_Rd_readNumber rfl rfl w_it_Rd w_ml_Rd_61 w_im_Rd_readNumber w_se_Rd__Rd_readNumber (by decide +kernel) ⟨by decide, by decide⟩) (u_preV hK hV hn [0, 1] rfl hz 0 rfl rfl) rfl rfl hl.1 rfl (lv_room (Nat.le_of_ble_eq_true rfl)) d_Rd_readTurn_4 ⟨(Nat.le_of_ble_eq_true rfl), (Nat.le_of_ble_eq_true rfl)⟩) hV (fun r9 V9 H locs hp hV hle => ?_)
  obtain ⟨rfl, rfl, hz⟩ := hp
  replace hV := u_back hV hn [0, 1] rfl
  have hV : vS G.1 cls lo s H locs (vU V [(rd, eO 3 [.ref tp, .int (nI n), .int (nI (rP (num t n 1 40 p)))]), (tp, eI (gB G) 400 f), (tn, eO 6 [.ref af, .ref ao, .ref a3, .int (nI L.length), .int (b2i of)]), (af, eI (gI G) 20 fr), (ao, eI (gI G) 20 ov), (a3, eI (gI G) 20 tt)]) := hV
  obtain ⟨x_1, hx_1⟩ : ∃ z, num t n 1 40 p = z := ⟨_, rfl⟩
  rw [hx_1] at hV
  rcases x_1 with e_1 | ⟨v_1, q_1⟩
  · have be_1 : e_1 ≤ n := num_er hx_1 (by omega)
    have hV : vS G.1 cls lo s H locs (vU V [(rd, eO 3 [.ref tp, .int (nI n), .int (nI e_1)]), (tp, eI (gB G) 400 f), (tn, eO 6 [.ref af, .ref ao, .ref a3, .int (nI L.length), .int (b2i of)]), (af, eI (gI G) 20 fr), (ao, eI (gI G) 20 ov), (a3, eI (gI G) 20 tt)]) := hV
    refine W.eq (g2 := F0 mi 7 ls [.int ((-1))]) (by rw [hx_1]; rfl) ?_
    refine lv_istore_n (lv' := [(2, .int ((-1))), (0, .ref rd), (1, .ref tn)]) hx hb d_Rd_readTurn_7 rfl hl (by decide) rfl (fun ls hl => ?_)
    refine lv_iload_n hx hb d_Rd_readTurn_8 rfl (lv_at hl 0 rfl) ?_
    refine lv_iconst (v := (-1)) hx hb d_Rd_readTurn_9 (by decide) ?_
    refine lv_icmp_eq (tgt := 22) hx hb d_Rd_readTurn_10 (by decide) (fun _ => ?_) (fun c_2 => absurd c_2 (by decide))
    refine lv_iconst (v := 0) hx hb d_Rd_readTurn_22 (by decide) ?_
    have hE : turnR t n p = .inl e_1 := by simp only [turnR, sbd_l, sbd_r, hx_1]
    exact W.zret (v := 0) hx hb hr (by decide) (v_end hV ⟨by rw [hE]; rfl, ⟨fr, ov, tt, L, of, by rw [hE]; rfl, hO, by rw [hE]; rfl⟩, hz⟩) hV.2.1.2.2 d_Rd_readTurn_23
  · obtain ⟨lv_1, uv_1, gq_1, bq_1⟩ := num_ok hx_1 (by omega)
    have hV : vS G.1 cls lo s H locs (vU V [(rd, eO 3 [.ref tp, .int (nI n), .int (nI q_1)]), (tp, eI (gB G) 400 f), (tn, eO 6 [.ref af, .ref ao, .ref a3, .int (nI L.length), .int (b2i of)]), (af, eI (gI G) 20 fr), (ao, eI (gI G) 20 ov), (a3, eI (gI G) 20 tt)]) := hV
    refine W.eq (g2 := F0 mi 7 ls [.int (nI v_1)]) (by rw [hx_1]; rfl) ?_
    refine lv_istore_n (lv' := [(2, .int (nI v_1)), (0, .ref rd), (1, .ref tn)]) hx hb d_Rd_readTurn_7 rfl hl (by decide) rfl (fun ls hl => ?_)
    refine lv_iload_n hx hb d_Rd_readTurn_8 rfl (lv_at hl 0 rfl) ?_
    refine lv_iconst (v := (-1)) hx hb d_Rd_readTurn_9 (by decide) ?_
    refine lv_icmp_eq (tgt := 22) hx hb d_Rd_readTurn_10 (by decide) (fun c_3 => absurd c_3 (nI_nem (by omega))) (fun _ => ?_)
    refine lv_aload_n hx hb d_Rd_readTurn_13 rfl (lv_at hl 1 rfl) ?_
    refine lv_bipush (v := 45) hx hb d_Rd_readTurn_14 (by decide) ?_
    refine v_call (va_runV (As := [.int 45]) (rest := []) ⟨hx, hb, hml, hown, hts⟩ (c_Rd_take l G lo _ _ rd tp f t n q_1 (nd_sub hn [0, 1] (by decide) rfl) hT h4 (by omega) 45 (by decide)) (kwV 1 hts w_co_Rd_take rfl rfl w_it_Rd w_ml_Rd_30 w_im_Rd_take w_se_Rd__Rd_take (by decide +kernel) ⟨by decide, by decide⟩) (u_preV hK hV hn [0, 1] rfl hz 0 rfl rfl) rfl rfl hl.1 rfl (lv_room (Nat.le_of_ble_eq_true rfl)) d_Rd_readTurn_16 ⟨(Nat.le_of_ble_eq_true rfl), (Nat.le_of_ble_eq_true rfl)⟩) hV (fun r9 V9 H locs hp hV hle => ?_)
    obtain ⟨rfl, rfl, hz⟩ := hp
    replace hV := u_back hV hn [0, 1] rfl
    have hV : vS G.1 cls lo s H locs (vU V [(rd, eO 3 [.ref tp, .int (nI n), .int (nI (rQ (tk t n 45 q_1)))]), (tp, eI (gB G) 400 f), (tn, eO 6 [.ref af, .ref ao, .ref a3, .int (nI L.length), .int (b2i of)]), (af, eI (gI G) 20 fr), (ao, eI (gI G) 20 ov), (a3, eI (gI G) 20 tt)]) := hV
    obtain ⟨x_4, hx_4⟩ : ∃ z, tk t n 45 q_1 = z := ⟨_, rfl⟩
    rw [hx_4] at hV
    rcases x_4 with e_4 | q_4
    · have be_4 : e_4 ≤ n := tk_er hx_4 (by omega)
      have hV : vS G.1 cls lo s H locs (vU V [(rd, eO 3 [.ref tp, .int (nI n), .int (nI e_4)]), (tp, eI (gB G) 400 f), (tn, eO 6 [.ref af, .ref ao, .ref a3, .int (nI L.length), .int (b2i of)]), (af, eI (gI G) 20 fr), (ao, eI (gI G) 20 ov), (a3, eI (gI G) 20 tt)]) := hV
      refine W.eq (g2 := F0 mi 19 ls [.int 0]) (by rw [hx_4]; rfl) ?_
      refine lv_if_ne (tgt := 24) hx hb d_Rd_readTurn_19 (by decide) (fun c_5 => absurd c_5 (by decide)) (fun _ => ?_)
      refine lv_iconst (v := 0) hx hb d_Rd_readTurn_22 (by decide) ?_
      have hE : turnR t n p = .inl e_4 := by simp only [turnR, sbd_l, sbd_r, hx_1, hx_4]
      exact W.zret (v := 0) hx hb hr (by decide) (v_end hV ⟨by rw [hE]; rfl, ⟨fr, ov, tt, L, of, by rw [hE]; rfl, hO, by rw [hE]; rfl⟩, hz⟩) hV.2.1.2.2 d_Rd_readTurn_23
    · obtain ⟨gq_4, bq_4⟩ := tk_ok hx_4
      have hV : vS G.1 cls lo s H locs (vU V [(rd, eO 3 [.ref tp, .int (nI n), .int (nI q_4)]), (tp, eI (gB G) 400 f), (tn, eO 6 [.ref af, .ref ao, .ref a3, .int (nI L.length), .int (b2i of)]), (af, eI (gI G) 20 fr), (ao, eI (gI G) 20 ov), (a3, eI (gI G) 20 tt)]) := hV
      refine W.eq (g2 := F0 mi 19 ls [.int 1]) (by rw [hx_4]; rfl) ?_
      refine lv_if_ne (tgt := 24) hx hb d_Rd_readTurn_19 (by decide) (fun _ => ?_) (fun c_6 => absurd c_6 (by decide))
      refine lv_aload_n hx hb d_Rd_readTurn_24 rfl (lv_at hl 1 rfl) ?_
      refine lv_iconst (v := 1) hx hb d_Rd_readTurn_25 (by decide) ?_
      refine lv_bipush (v := 40) hx hb d_Rd_readTurn_26 (by decide) ?_
      refine v_call (va_runV (As := [.int 1, .int 40]) (rest := []) ⟨hx, hb, hml, hown, hts⟩ (c_Rd_readNumber l G lo _ _ rd tp f t n q_4 (nd_sub hn [0, 1] (by decide) rfl) hT h4 (by omega) 1 40 (by omega) (by omega)) (kwV 2 hts w_co_Rd_readNumber rfl rfl w_it_Rd w_ml_Rd_61 w_im_Rd_readNumber w_se_Rd__Rd_readNumber (by decide +kernel) ⟨by decide, by decide⟩) (u_preV hK hV hn [0, 1] rfl hz 0 rfl rfl) rfl rfl hl.1 rfl (lv_room (Nat.le_of_ble_eq_true rfl)) d_Rd_readTurn_28 ⟨(Nat.le_of_ble_eq_true rfl), (Nat.le_of_ble_eq_true rfl)⟩) hV (fun r9 V9 H locs hp hV hle => ?_)
      obtain ⟨rfl, rfl, hz⟩ := hp
      replace hV := u_back hV hn [0, 1] rfl
      have hV : vS G.1 cls lo s H locs (vU V [(rd, eO 3 [.ref tp, .int (nI n), .int (nI (rP (num t n 1 40 q_4)))]), (tp, eI (gB G) 400 f), (tn, eO 6 [.ref af, .ref ao, .ref a3, .int (nI L.length), .int (b2i of)]), (af, eI (gI G) 20 fr), (ao, eI (gI G) 20 ov), (a3, eI (gI G) 20 tt)]) := hV
      obtain ⟨x_7, hx_7⟩ : ∃ z, num t n 1 40 q_4 = z := ⟨_, rfl⟩
      rw [hx_7] at hV
      rcases x_7 with e_7 | ⟨v_7, q_7⟩
      · have be_7 : e_7 ≤ n := num_er hx_7 (by omega)
        have hV : vS G.1 cls lo s H locs (vU V [(rd, eO 3 [.ref tp, .int (nI n), .int (nI e_7)]), (tp, eI (gB G) 400 f), (tn, eO 6 [.ref af, .ref ao, .ref a3, .int (nI L.length), .int (b2i of)]), (af, eI (gI G) 20 fr), (ao, eI (gI G) 20 ov), (a3, eI (gI G) 20 tt)]) := hV
        refine W.eq (g2 := F0 mi 31 ls [.int ((-1))]) (by rw [hx_7]; rfl) ?_
        refine lv_istore_n (lv' := [(3, .int ((-1))), (2, .int (nI v_1)), (0, .ref rd), (1, .ref tn)]) hx hb d_Rd_readTurn_31 rfl hl (by decide) rfl (fun ls hl => ?_)
        refine lv_iload_n hx hb d_Rd_readTurn_32 rfl (lv_at hl 0 rfl) ?_
        refine lv_iconst (v := (-1)) hx hb d_Rd_readTurn_33 (by decide) ?_
        refine lv_icmp_eq (tgt := 46) hx hb d_Rd_readTurn_34 (by decide) (fun _ => ?_) (fun c_8 => absurd c_8 (by decide))
        refine lv_iconst (v := 0) hx hb d_Rd_readTurn_46 (by decide) ?_
        have hE : turnR t n p = .inl e_7 := by simp only [turnR, sbd_l, sbd_r, hx_1, hx_4, hx_7]
        exact W.zret (v := 0) hx hb hr (by decide) (v_end hV ⟨by rw [hE]; rfl, ⟨fr, ov, tt, L, of, by rw [hE]; rfl, hO, by rw [hE]; rfl⟩, hz⟩) hV.2.1.2.2 d_Rd_readTurn_47
      · obtain ⟨lv_7, uv_7, gq_7, bq_7⟩ := num_ok hx_7 (by omega)
        have hV : vS G.1 cls lo s H locs (vU V [(rd, eO 3 [.ref tp, .int (nI n), .int (nI q_7)]), (tp, eI (gB G) 400 f), (tn, eO 6 [.ref af, .ref ao, .ref a3, .int (nI L.length), .int (b2i of)]), (af, eI (gI G) 20 fr), (ao, eI (gI G) 20 ov), (a3, eI (gI G) 20 tt)]) := hV
        refine W.eq (g2 := F0 mi 31 ls [.int (nI v_7)]) (by rw [hx_7]; rfl) ?_
        refine lv_istore_n (lv' := [(3, .int (nI v_7)), (2, .int (nI v_1)), (0, .ref rd), (1, .ref tn)]) hx hb d_Rd_readTurn_31 rfl hl (by decide) rfl (fun ls hl => ?_)
        refine lv_iload_n hx hb d_Rd_readTurn_32 rfl (lv_at hl 0 rfl) ?_
        refine lv_iconst (v := (-1)) hx hb d_Rd_readTurn_33 (by decide) ?_
        refine lv_icmp_eq (tgt := 46) hx hb d_Rd_readTurn_34 (by decide) (fun c_9 => absurd c_9 (nI_nem (by omega))) (fun _ => ?_)
        refine lv_aload_n hx hb d_Rd_readTurn_37 rfl (lv_at hl 2 rfl) ?_
        refine lv_bipush (v := 45) hx hb d_Rd_readTurn_38 (by decide) ?_
        refine v_call (va_runV (As := [.int 45]) (rest := []) ⟨hx, hb, hml, hown, hts⟩ (c_Rd_take l G lo _ _ rd tp f t n q_7 (nd_sub hn [0, 1] (by decide) rfl) hT h4 (by omega) 45 (by decide)) (kwV 1 hts w_co_Rd_take rfl rfl w_it_Rd w_ml_Rd_30 w_im_Rd_take w_se_Rd__Rd_take (by decide +kernel) ⟨by decide, by decide⟩) (u_preV hK hV hn [0, 1] rfl hz 0 rfl rfl) rfl rfl hl.1 rfl (lv_room (Nat.le_of_ble_eq_true rfl)) d_Rd_readTurn_40 ⟨(Nat.le_of_ble_eq_true rfl), (Nat.le_of_ble_eq_true rfl)⟩) hV (fun r9 V9 H locs hp hV hle => ?_)
        obtain ⟨rfl, rfl, hz⟩ := hp
        replace hV := u_back hV hn [0, 1] rfl
        have hV : vS G.1 cls lo s H locs (vU V [(rd, eO 3 [.ref tp, .int (nI n), .int (nI (rQ (tk t n 45 q_7)))]), (tp, eI (gB G) 400 f), (tn, eO 6 [.ref af, .ref ao, .ref a3, .int (nI L.length), .int (b2i of)]), (af, eI (gI G) 20 fr), (ao, eI (gI G) 20 ov), (a3, eI (gI G) 20 tt)]) := hV
        obtain ⟨x_10, hx_10⟩ : ∃ z, tk t n 45 q_7 = z := ⟨_, rfl⟩
        rw [hx_10] at hV
        rcases x_10 with e_10 | q_10
        · have be_10 : e_10 ≤ n := tk_er hx_10 (by omega)
          have hV : vS G.1 cls lo s H locs (vU V [(rd, eO 3 [.ref tp, .int (nI n), .int (nI e_10)]), (tp, eI (gB G) 400 f), (tn, eO 6 [.ref af, .ref ao, .ref a3, .int (nI L.length), .int (b2i of)]), (af, eI (gI G) 20 fr), (ao, eI (gI G) 20 ov), (a3, eI (gI G) 20 tt)]) := hV
          refine W.eq (g2 := F0 mi 43 ls [.int 0]) (by rw [hx_10]; rfl) ?_
          refine lv_if_ne (tgt := 48) hx hb d_Rd_readTurn_43 (by decide) (fun c_11 => absurd c_11 (by decide)) (fun _ => ?_)
          refine lv_iconst (v := 0) hx hb d_Rd_readTurn_46 (by decide) ?_
          have hE : turnR t n p = .inl e_10 := by simp only [turnR, sbd_l, sbd_r, hx_1, hx_4, hx_7, hx_10]
          exact W.zret (v := 0) hx hb hr (by decide) (v_end hV ⟨by rw [hE]; rfl, ⟨fr, ov, tt, L, of, by rw [hE]; rfl, hO, by rw [hE]; rfl⟩, hz⟩) hV.2.1.2.2 d_Rd_readTurn_47
        · obtain ⟨gq_10, bq_10⟩ := tk_ok hx_10
          have hV : vS G.1 cls lo s H locs (vU V [(rd, eO 3 [.ref tp, .int (nI n), .int (nI q_10)]), (tp, eI (gB G) 400 f), (tn, eO 6 [.ref af, .ref ao, .ref a3, .int (nI L.length), .int (b2i of)]), (af, eI (gI G) 20 fr), (ao, eI (gI G) 20 ov), (a3, eI (gI G) 20 tt)]) := hV
          refine W.eq (g2 := F0 mi 43 ls [.int 1]) (by rw [hx_10]; rfl) ?_
          refine lv_if_ne (tgt := 48) hx hb d_Rd_readTurn_43 (by decide) (fun _ => ?_) (fun c_12 => absurd c_12 (by decide))
          refine lv_aload_n hx hb d_Rd_readTurn_48 rfl (lv_at hl 2 rfl) ?_
          refine lv_iconst (v := 1) hx hb d_Rd_readTurn_49 (by decide) ?_
          refine lv_bipush (v := 40) hx hb d_Rd_readTurn_50 (by decide) ?_
          refine v_call (va_runV (As := [.int 1, .int 40]) (rest := []) ⟨hx, hb, hml, hown, hts⟩ (c_Rd_readNumber l G lo _ _ rd tp f t n q_10 (nd_sub hn [0, 1] (by decide) rfl) hT h4 (by omega) 1 40 (by omega) (by omega)) (kwV 2 hts w_co_Rd_readNumber rfl rfl w_it_Rd w_ml_Rd_61 w_im_Rd_readNumber w_se_Rd__Rd_readNumber (by decide +kernel) ⟨by decide, by decide⟩) (u_preV hK hV hn [0, 1] rfl hz 0 rfl rfl) rfl rfl hl.1 rfl (lv_room (Nat.le_of_ble_eq_true rfl)) d_Rd_readTurn_52 ⟨(Nat.le_of_ble_eq_true rfl), (Nat.le_of_ble_eq_true rfl)⟩) hV (fun r9 V9 H locs hp hV hle => ?_)
          obtain ⟨rfl, rfl, hz⟩ := hp
          replace hV := u_back hV hn [0, 1] rfl
          have hV : vS G.1 cls lo s H locs (vU V [(rd, eO 3 [.ref tp, .int (nI n), .int (nI (rP (num t n 1 40 q_10)))]), (tp, eI (gB G) 400 f), (tn, eO 6 [.ref af, .ref ao, .ref a3, .int (nI L.length), .int (b2i of)]), (af, eI (gI G) 20 fr), (ao, eI (gI G) 20 ov), (a3, eI (gI G) 20 tt)]) := hV
          obtain ⟨x_13, hx_13⟩ : ∃ z, num t n 1 40 q_10 = z := ⟨_, rfl⟩
          rw [hx_13] at hV
          rcases x_13 with e_13 | ⟨v_13, q_13⟩
          · have be_13 : e_13 ≤ n := num_er hx_13 (by omega)
            have hV : vS G.1 cls lo s H locs (vU V [(rd, eO 3 [.ref tp, .int (nI n), .int (nI e_13)]), (tp, eI (gB G) 400 f), (tn, eO 6 [.ref af, .ref ao, .ref a3, .int (nI L.length), .int (b2i of)]), (af, eI (gI G) 20 fr), (ao, eI (gI G) 20 ov), (a3, eI (gI G) 20 tt)]) := hV
            refine W.eq (g2 := F0 mi 55 ls [.int ((-1))]) (by rw [hx_13]; rfl) ?_
            refine lv_istore (lv' := [(4, .int ((-1))), (3, .int (nI v_7)), (2, .int (nI v_1)), (0, .ref rd), (1, .ref tn)]) hx hb d_Rd_readTurn_55 hl (by decide) rfl (fun ls hl => ?_)
            refine lv_iload hx hb d_Rd_readTurn_57 (lv_at hl 0 rfl) ?_
            refine lv_iconst (v := (-1)) hx hb d_Rd_readTurn_59 (by decide) ?_
            refine lv_icmp_ne (tgt := 65) hx hb d_Rd_readTurn_60 (by decide) (fun c_14 => absurd c_14 (by decide)) (fun _ => ?_)
            refine lv_iconst (v := 0) hx hb d_Rd_readTurn_63 (by decide) ?_
            have hE : turnR t n p = .inl e_13 := by simp only [turnR, sbd_l, sbd_r, hx_1, hx_4, hx_7, hx_10, hx_13]
            exact W.zret (v := 0) hx hb hr (by decide) (v_end hV ⟨by rw [hE]; rfl, ⟨fr, ov, tt, L, of, by rw [hE]; rfl, hO, by rw [hE]; rfl⟩, hz⟩) hV.2.1.2.2 d_Rd_readTurn_64
          · obtain ⟨lv_13, uv_13, gq_13, bq_13⟩ := num_ok hx_13 (by omega)
            have hV : vS G.1 cls lo s H locs (vU V [(rd, eO 3 [.ref tp, .int (nI n), .int (nI q_13)]), (tp, eI (gB G) 400 f), (tn, eO 6 [.ref af, .ref ao, .ref a3, .int (nI L.length), .int (b2i of)]), (af, eI (gI G) 20 fr), (ao, eI (gI G) 20 ov), (a3, eI (gI G) 20 tt)]) := hV
            refine W.eq (g2 := F0 mi 55 ls [.int (nI v_13)]) (by rw [hx_13]; rfl) ?_
            refine lv_istore (lv' := [(4, .int (nI v_13)), (3, .int (nI v_7)), (2, .int (nI v_1)), (0, .ref rd), (1, .ref tn)]) hx hb d_Rd_readTurn_55 hl (by decide) rfl (fun ls hl => ?_)
            refine lv_iload hx hb d_Rd_readTurn_57 (lv_at hl 0 rfl) ?_
            refine lv_iconst (v := (-1)) hx hb d_Rd_readTurn_59 (by decide) ?_
            refine lv_icmp_ne (tgt := 65) hx hb d_Rd_readTurn_60 (by decide) (fun _ => ?_) (fun c_15 => absurd c_15 (nI_nem (by omega)))
            refine lv_aload_n hx hb d_Rd_readTurn_65 rfl (lv_at hl 4 rfl) ?_
            refine lv_iload_n hx hb d_Rd_readTurn_66 rfl (lv_at hl 2 rfl) ?_
            refine lv_iload_n hx hb d_Rd_readTurn_67 rfl (lv_at hl 1 rfl) ?_
            refine lv_iload hx hb d_Rd_readTurn_68 (lv_at hl 0 rfl) ?_
            refine v_call (va_runV (As := [.int (nI v_1), .int (nI v_7), .int (nI v_13)]) (rest := []) ⟨hx, hb, hml, hown, hts⟩ (c_Tn_add l G lo _ _ tn af ao a3 fr ov tt L of (nd_sub hn [2, 3, 4, 5] (by decide) rfl) hO hL v_1 v_7 v_13 (by omega) (by omega) (by omega)) (kwV 3 hts w_co_Tn_add rfl rfl w_it_Tn w_ml_Rd_143 w_im_Tn_add w_se_Tn__Tn_add (by decide +kernel) ⟨by decide, by decide⟩) (u_preV hK hV hn [2, 3, 4, 5] rfl hz 2 rfl rfl) rfl rfl hl.1 rfl (lv_room (Nat.le_of_ble_eq_true rfl)) d_Rd_readTurn_70 ⟨(Nat.le_of_ble_eq_true rfl), (Nat.le_of_ble_eq_true rfl)⟩) hV (fun r9 V9 H locs hp hV hle => ?_)
            obtain ⟨rfl, ⟨fr2, ov2, tt2, L2, of2, rfl, hO2, hA⟩, hz⟩ := hp
            replace hV := u_back hV hn [2, 3, 4, 5] rfl
            have hV : vS G.1 cls lo s H locs (vU V [(rd, eO 3 [.ref tp, .int (nI n), .int (nI q_13)]), (tp, eI (gB G) 400 f), (tn, eO 6 [.ref af, .ref ao, .ref a3, .int (nI L2.length), .int (b2i of2)]), (af, eI (gI G) 20 fr2), (ao, eI (gI G) 20 ov2), (a3, eI (gI G) 20 tt2)]) := hV
            refine lv_iconst (v := 1) hx hb d_Rd_readTurn_73 (by decide) ?_
            have hE : turnR t n p = .inr ((v_1, v_7, v_13), q_13) := by simp only [turnR, sbd_l, sbd_r, hx_1, hx_4, hx_7, hx_10, hx_13]
            exact W.zret (v := 1) hx hb hr (by decide) (v_end hV ⟨by rw [hE]; rfl, ⟨fr2, ov2, tt2, L2, of2, by rw [hE]; rfl, hO2, by rw [hE]; exact hA⟩, hz⟩) hV.2.1.2.2 d_Rd_readTurn_74

set_option maxHeartbeats 4000000 in
set_option maxRecDepth 100000 in
/-- Reader.readSpot -/
theorem c_Rd_readSpot (l : Launch) (G : Gx) (lo : Nat) (V : Vw) (sz : Nat) (rd tp : Nat) (f : Nat → Int32) (t : Nat → Nat) (n p : Nat) (sp po me : Nat) (fp fm : Nat → Int32) (hn : [rd, tp, sp, po, me].Nodup) (hT : tpOk f t n) (h4 : n ≤ 400) (hp : p ≤ n) : Met l y_Rd_readSpot ws_Rd_readSpot ({ frames := 2, cells := 0, slots := 0, locals := 60 } : Room) (vPre G lo [.ref rd, .ref sp] (vU V [(rd, eO 3 [.ref tp, .int (nI n), .int (nI p)]), (tp, eI (gB G) 400 f), (sp, eO 4 [.ref po, .ref me]), (po, eI (gI G) 31 fp), (me, eI (gI G) 31 fm)]) sz) (vPost G lo (fun r V' k => r = some (.int (rB (spotR t n p))) ∧ V' = vU V [(rd, eO 3 [.ref tp, .int (nI n), .int (nI (sR (spotR t n p)))]), (tp, eI (gB G) 400 f), (sp, eO 4 [.ref po, .ref me]), (po, eI (gI G) 31 ((spE (fp, fm) (spotR t n p)).1)), (me, eI (gI G) 31 ((spE (fp, fm) (spotR t n p)).2))] ∧ k = sz)) 0 0 (vL lo) := by
  refine vMet (R := RRd) (by decide) rfl (Nat.le_of_ble_eq_true rfl) ?_
  intro pg ev s mi args below meth cd hx hb hr hml hlk hnm hts hown hK hz hV ls hl
  have hl : lv_has ls 5 [(0, .ref rd), (1, .ref sp)] := hl
  have hV0 := hV
  obtain ⟨H, hH⟩ : ∃ H, H = s.heap := ⟨_, rfl⟩
  obtain ⟨locs, hlocs⟩ : ∃ locs : List Loc, locs = [] := ⟨_, rfl⟩
  rw [← hH, ← hlocs]
  rw [← hH] at hz
  replace hV : vS G.1 cls lo s H locs (vU V [(rd, eO 3 [.ref tp, .int (nI n), .int (nI p)]), (tp, eI (gB G) 400 f), (sp, eO 4 [.ref po, .ref me]), (po, eI (gI G) 31 fp), (me, eI (gI G) 31 fm)]) := by rw [hH, hlocs]; exact hV
  clear hH hlocs hV0
  refine lv_aload_n hx hb d_Rd_readSpot_0 rfl (lv_at hl 0 rfl) ?_
  refine lv_iconst (v := 1) hx hb d_Rd_readSpot_1 (by decide) ?_
  refine lv_bipush (v := 30) hx hb d_Rd_readSpot_2 (by decide) ?_
  refine v_call (va_runV (As := [.int 1, .int 30]) (rest := []) ⟨hx, hb, hml, hown, hts⟩ (c_Rd_readNumber l G lo _ _ rd tp f t n p (nd_sub hn [0, 1] (by decide) rfl) hT h4 (by omega) 1 30 (by omega) (by omega)) (kwV 2 hts w_co_Rd_readNumber rfl rfl w_it_Rd w_ml_Rd_61 w_im_Rd_readNumber w_se_Rd__Rd_readNumber (by decide +kernel) ⟨by decide, by decide⟩) (u_preV hK hV hn [0, 1] rfl hz 0 rfl rfl) rfl rfl hl.1 rfl (lv_room (Nat.le_of_ble_eq_true rfl)) d_Rd_readSpot_4 ⟨(Nat.le_of_ble_eq_true rfl), (Nat.le_of_ble_eq_true rfl)⟩) hV (fun r9 V9 H locs hp hV hle => ?_)
  obtain ⟨rfl, rfl, hz⟩ := hp
  replace hV := u_back hV hn [0, 1] rfl
  have hV : vS G.1 cls lo s H locs (vU V [(rd, eO 3 [.ref tp, .int (nI n), .int (nI (rP (num t n 1 30 p)))]), (tp, eI (gB G) 400 f), (sp, eO 4 [.ref po, .ref me]), (po, eI (gI G) 31 fp), (me, eI (gI G) 31 fm)]) := hV
  obtain ⟨x_1, hx_1⟩ : ∃ z, num t n 1 30 p = z := ⟨_, rfl⟩
  rw [hx_1] at hV
  rcases x_1 with e_1 | ⟨v_1, q_1⟩
  · have be_1 : e_1 ≤ n := num_er hx_1 (by omega)
    have hV : vS G.1 cls lo s H locs (vU V [(rd, eO 3 [.ref tp, .int (nI n), .int (nI e_1)]), (tp, eI (gB G) 400 f), (sp, eO 4 [.ref po, .ref me]), (po, eI (gI G) 31 fp), (me, eI (gI G) 31 fm)]) := hV
    refine W.eq (g2 := F0 mi 7 ls [.int ((-1))]) (by rw [hx_1]; rfl) ?_
    refine lv_istore_n (lv' := [(2, .int ((-1))), (0, .ref rd), (1, .ref sp)]) hx hb d_Rd_readSpot_7 rfl hl (by decide) rfl (fun ls hl => ?_)
    refine lv_iload_n hx hb d_Rd_readSpot_8 rfl (lv_at hl 0 rfl) ?_
    refine lv_iconst (v := (-1)) hx hb d_Rd_readSpot_9 (by decide) ?_
    refine lv_icmp_eq (tgt := 22) hx hb d_Rd_readSpot_10 (by decide) (fun _ => ?_) (fun c_2 => absurd c_2 (by decide))
    refine lv_iconst (v := 0) hx hb d_Rd_readSpot_22 (by decide) ?_
    have hE : spotR t n p = .inl e_1 := by simp only [spotR, sbd_l, sbd_r, hx_1]
    exact W.zret (v := 0) hx hb hr (by decide) (v_end hV ⟨by rw [hE]; rfl, by rw [hE]; rfl, hz⟩) hV.2.1.2.2 d_Rd_readSpot_23
  · obtain ⟨lv_1, uv_1, gq_1, bq_1⟩ := num_ok hx_1 (by omega)
    have hV : vS G.1 cls lo s H locs (vU V [(rd, eO 3 [.ref tp, .int (nI n), .int (nI q_1)]), (tp, eI (gB G) 400 f), (sp, eO 4 [.ref po, .ref me]), (po, eI (gI G) 31 fp), (me, eI (gI G) 31 fm)]) := hV
    refine W.eq (g2 := F0 mi 7 ls [.int (nI v_1)]) (by rw [hx_1]; rfl) ?_
    refine lv_istore_n (lv' := [(2, .int (nI v_1)), (0, .ref rd), (1, .ref sp)]) hx hb d_Rd_readSpot_7 rfl hl (by decide) rfl (fun ls hl => ?_)
    refine lv_iload_n hx hb d_Rd_readSpot_8 rfl (lv_at hl 0 rfl) ?_
    refine lv_iconst (v := (-1)) hx hb d_Rd_readSpot_9 (by decide) ?_
    refine lv_icmp_eq (tgt := 22) hx hb d_Rd_readSpot_10 (by decide) (fun c_3 => absurd c_3 (nI_nem (by omega))) (fun _ => ?_)
    refine lv_aload_n hx hb d_Rd_readSpot_13 rfl (lv_at hl 1 rfl) ?_
    refine lv_bipush (v := 64) hx hb d_Rd_readSpot_14 (by decide) ?_
    refine v_call (va_runV (As := [.int 64]) (rest := []) ⟨hx, hb, hml, hown, hts⟩ (c_Rd_take l G lo _ _ rd tp f t n q_1 (nd_sub hn [0, 1] (by decide) rfl) hT h4 (by omega) 64 (by decide)) (kwV 1 hts w_co_Rd_take rfl rfl w_it_Rd w_ml_Rd_30 w_im_Rd_take w_se_Rd__Rd_take (by decide +kernel) ⟨by decide, by decide⟩) (u_preV hK hV hn [0, 1] rfl hz 0 rfl rfl) rfl rfl hl.1 rfl (lv_room (Nat.le_of_ble_eq_true rfl)) d_Rd_readSpot_16 ⟨(Nat.le_of_ble_eq_true rfl), (Nat.le_of_ble_eq_true rfl)⟩) hV (fun r9 V9 H locs hp hV hle => ?_)
    obtain ⟨rfl, rfl, hz⟩ := hp
    replace hV := u_back hV hn [0, 1] rfl
    have hV : vS G.1 cls lo s H locs (vU V [(rd, eO 3 [.ref tp, .int (nI n), .int (nI (rQ (tk t n 64 q_1)))]), (tp, eI (gB G) 400 f), (sp, eO 4 [.ref po, .ref me]), (po, eI (gI G) 31 fp), (me, eI (gI G) 31 fm)]) := hV
    obtain ⟨x_4, hx_4⟩ : ∃ z, tk t n 64 q_1 = z := ⟨_, rfl⟩
    rw [hx_4] at hV
    rcases x_4 with e_4 | q_4
    · have be_4 : e_4 ≤ n := tk_er hx_4 (by omega)
      have hV : vS G.1 cls lo s H locs (vU V [(rd, eO 3 [.ref tp, .int (nI n), .int (nI e_4)]), (tp, eI (gB G) 400 f), (sp, eO 4 [.ref po, .ref me]), (po, eI (gI G) 31 fp), (me, eI (gI G) 31 fm)]) := hV
      refine W.eq (g2 := F0 mi 19 ls [.int 0]) (by rw [hx_4]; rfl) ?_
      refine lv_if_ne (tgt := 24) hx hb d_Rd_readSpot_19 (by decide) (fun c_5 => absurd c_5 (by decide)) (fun _ => ?_)
      refine lv_iconst (v := 0) hx hb d_Rd_readSpot_22 (by decide) ?_
      have hE : spotR t n p = .inl e_4 := by simp only [spotR, sbd_l, sbd_r, hx_1, hx_4]
      exact W.zret (v := 0) hx hb hr (by decide) (v_end hV ⟨by rw [hE]; rfl, by rw [hE]; rfl, hz⟩) hV.2.1.2.2 d_Rd_readSpot_23
    · obtain ⟨gq_4, bq_4⟩ := tk_ok hx_4
      have hV : vS G.1 cls lo s H locs (vU V [(rd, eO 3 [.ref tp, .int (nI n), .int (nI q_4)]), (tp, eI (gB G) 400 f), (sp, eO 4 [.ref po, .ref me]), (po, eI (gI G) 31 fp), (me, eI (gI G) 31 fm)]) := hV
      refine W.eq (g2 := F0 mi 19 ls [.int 1]) (by rw [hx_4]; rfl) ?_
      refine lv_if_ne (tgt := 24) hx hb d_Rd_readSpot_19 (by decide) (fun _ => ?_) (fun c_6 => absurd c_6 (by decide))
      refine lv_aload_n hx hb d_Rd_readSpot_24 rfl (lv_at hl 1 rfl) ?_
      refine lv_iconst (v := 1) hx hb d_Rd_readSpot_25 (by decide) ?_
      refine lv_bipush (v := 60) hx hb d_Rd_readSpot_26 (by decide) ?_
      refine v_call (va_runV (As := [.int 1, .int 60]) (rest := []) ⟨hx, hb, hml, hown, hts⟩ (c_Rd_readNumber l G lo _ _ rd tp f t n q_4 (nd_sub hn [0, 1] (by decide) rfl) hT h4 (by omega) 1 60 (by omega) (by omega)) (kwV 2 hts w_co_Rd_readNumber rfl rfl w_it_Rd w_ml_Rd_61 w_im_Rd_readNumber w_se_Rd__Rd_readNumber (by decide +kernel) ⟨by decide, by decide⟩) (u_preV hK hV hn [0, 1] rfl hz 0 rfl rfl) rfl rfl hl.1 rfl (lv_room (Nat.le_of_ble_eq_true rfl)) d_Rd_readSpot_28 ⟨(Nat.le_of_ble_eq_true rfl), (Nat.le_of_ble_eq_true rfl)⟩) hV (fun r9 V9 H locs hp hV hle => ?_)
      obtain ⟨rfl, rfl, hz⟩ := hp
      replace hV := u_back hV hn [0, 1] rfl
      have hV : vS G.1 cls lo s H locs (vU V [(rd, eO 3 [.ref tp, .int (nI n), .int (nI (rP (num t n 1 60 q_4)))]), (tp, eI (gB G) 400 f), (sp, eO 4 [.ref po, .ref me]), (po, eI (gI G) 31 fp), (me, eI (gI G) 31 fm)]) := hV
      obtain ⟨x_7, hx_7⟩ : ∃ z, num t n 1 60 q_4 = z := ⟨_, rfl⟩
      rw [hx_7] at hV
      rcases x_7 with e_7 | ⟨v_7, q_7⟩
      · have be_7 : e_7 ≤ n := num_er hx_7 (by omega)
        have hV : vS G.1 cls lo s H locs (vU V [(rd, eO 3 [.ref tp, .int (nI n), .int (nI e_7)]), (tp, eI (gB G) 400 f), (sp, eO 4 [.ref po, .ref me]), (po, eI (gI G) 31 fp), (me, eI (gI G) 31 fm)]) := hV
        refine W.eq (g2 := F0 mi 31 ls [.int ((-1))]) (by rw [hx_7]; rfl) ?_
        refine lv_istore_n (lv' := [(3, .int ((-1))), (2, .int (nI v_1)), (0, .ref rd), (1, .ref sp)]) hx hb d_Rd_readSpot_31 rfl hl (by decide) rfl (fun ls hl => ?_)
        refine lv_iload_n hx hb d_Rd_readSpot_32 rfl (lv_at hl 0 rfl) ?_
        refine lv_iconst (v := (-1)) hx hb d_Rd_readSpot_33 (by decide) ?_
        refine lv_icmp_eq (tgt := 46) hx hb d_Rd_readSpot_34 (by decide) (fun _ => ?_) (fun c_8 => absurd c_8 (by decide))
        refine lv_iconst (v := 0) hx hb d_Rd_readSpot_46 (by decide) ?_
        have hE : spotR t n p = .inl e_7 := by simp only [spotR, sbd_l, sbd_r, hx_1, hx_4, hx_7]
        exact W.zret (v := 0) hx hb hr (by decide) (v_end hV ⟨by rw [hE]; rfl, by rw [hE]; rfl, hz⟩) hV.2.1.2.2 d_Rd_readSpot_47
      · obtain ⟨lv_7, uv_7, gq_7, bq_7⟩ := num_ok hx_7 (by omega)
        have hV : vS G.1 cls lo s H locs (vU V [(rd, eO 3 [.ref tp, .int (nI n), .int (nI q_7)]), (tp, eI (gB G) 400 f), (sp, eO 4 [.ref po, .ref me]), (po, eI (gI G) 31 fp), (me, eI (gI G) 31 fm)]) := hV
        refine W.eq (g2 := F0 mi 31 ls [.int (nI v_7)]) (by rw [hx_7]; rfl) ?_
        refine lv_istore_n (lv' := [(3, .int (nI v_7)), (2, .int (nI v_1)), (0, .ref rd), (1, .ref sp)]) hx hb d_Rd_readSpot_31 rfl hl (by decide) rfl (fun ls hl => ?_)
        refine lv_iload_n hx hb d_Rd_readSpot_32 rfl (lv_at hl 0 rfl) ?_
        refine lv_iconst (v := (-1)) hx hb d_Rd_readSpot_33 (by decide) ?_
        refine lv_icmp_eq (tgt := 46) hx hb d_Rd_readSpot_34 (by decide) (fun c_9 => absurd c_9 (nI_nem (by omega))) (fun _ => ?_)
        refine lv_aload_n hx hb d_Rd_readSpot_37 rfl (lv_at hl 2 rfl) ?_
        refine lv_bipush (v := 43) hx hb d_Rd_readSpot_38 (by decide) ?_
        refine v_call (va_runV (As := [.int 43]) (rest := []) ⟨hx, hb, hml, hown, hts⟩ (c_Rd_take l G lo _ _ rd tp f t n q_7 (nd_sub hn [0, 1] (by decide) rfl) hT h4 (by omega) 43 (by decide)) (kwV 1 hts w_co_Rd_take rfl rfl w_it_Rd w_ml_Rd_30 w_im_Rd_take w_se_Rd__Rd_take (by decide +kernel) ⟨by decide, by decide⟩) (u_preV hK hV hn [0, 1] rfl hz 0 rfl rfl) rfl rfl hl.1 rfl (lv_room (Nat.le_of_ble_eq_true rfl)) d_Rd_readSpot_40 ⟨(Nat.le_of_ble_eq_true rfl), (Nat.le_of_ble_eq_true rfl)⟩) hV (fun r9 V9 H locs hp hV hle => ?_)
        obtain ⟨rfl, rfl, hz⟩ := hp
        replace hV := u_back hV hn [0, 1] rfl
        have hV : vS G.1 cls lo s H locs (vU V [(rd, eO 3 [.ref tp, .int (nI n), .int (nI (rQ (tk t n 43 q_7)))]), (tp, eI (gB G) 400 f), (sp, eO 4 [.ref po, .ref me]), (po, eI (gI G) 31 fp), (me, eI (gI G) 31 fm)]) := hV
        obtain ⟨x_10, hx_10⟩ : ∃ z, tk t n 43 q_7 = z := ⟨_, rfl⟩
        rw [hx_10] at hV
        rcases x_10 with e_10 | q_10
        · have be_10 : e_10 ≤ n := tk_er hx_10 (by omega)
          have hV : vS G.1 cls lo s H locs (vU V [(rd, eO 3 [.ref tp, .int (nI n), .int (nI e_10)]), (tp, eI (gB G) 400 f), (sp, eO 4 [.ref po, .ref me]), (po, eI (gI G) 31 fp), (me, eI (gI G) 31 fm)]) := hV
          refine W.eq (g2 := F0 mi 43 ls [.int 0]) (by rw [hx_10]; rfl) ?_
          refine lv_if_ne (tgt := 48) hx hb d_Rd_readSpot_43 (by decide) (fun c_11 => absurd c_11 (by decide)) (fun _ => ?_)
          refine lv_iconst (v := 0) hx hb d_Rd_readSpot_46 (by decide) ?_
          have hE : spotR t n p = .inl e_10 := by simp only [spotR, sbd_l, sbd_r, hx_1, hx_4, hx_7, hx_10]
          exact W.zret (v := 0) hx hb hr (by decide) (v_end hV ⟨by rw [hE]; rfl, by rw [hE]; rfl, hz⟩) hV.2.1.2.2 d_Rd_readSpot_47
        · obtain ⟨gq_10, bq_10⟩ := tk_ok hx_10
          have hV : vS G.1 cls lo s H locs (vU V [(rd, eO 3 [.ref tp, .int (nI n), .int (nI q_10)]), (tp, eI (gB G) 400 f), (sp, eO 4 [.ref po, .ref me]), (po, eI (gI G) 31 fp), (me, eI (gI G) 31 fm)]) := hV
          refine W.eq (g2 := F0 mi 43 ls [.int 1]) (by rw [hx_10]; rfl) ?_
          refine lv_if_ne (tgt := 48) hx hb d_Rd_readSpot_43 (by decide) (fun _ => ?_) (fun c_12 => absurd c_12 (by decide))
          refine lv_aload_n hx hb d_Rd_readSpot_48 rfl (lv_at hl 2 rfl) ?_
          refine lv_iconst (v := 0) hx hb d_Rd_readSpot_49 (by decide) ?_
          refine lv_sipush (v := 9999) hx hb d_Rd_readSpot_50 (by decide) ?_
          refine v_call (va_runV (As := [.int 0, .int 9999]) (rest := []) ⟨hx, hb, hml, hown, hts⟩ (c_Rd_readNumber l G lo _ _ rd tp f t n q_10 (nd_sub hn [0, 1] (by decide) rfl) hT h4 (by omega) 0 9999 (by omega) (by omega)) (kwV 2 hts w_co_Rd_readNumber rfl rfl w_it_Rd w_ml_Rd_61 w_im_Rd_readNumber w_se_Rd__Rd_readNumber (by decide +kernel) ⟨by decide, by decide⟩) (u_preV hK hV hn [0, 1] rfl hz 0 rfl rfl) rfl rfl hl.1 rfl (lv_room (Nat.le_of_ble_eq_true rfl)) d_Rd_readSpot_53 ⟨(Nat.le_of_ble_eq_true rfl), (Nat.le_of_ble_eq_true rfl)⟩) hV (fun r9 V9 H locs hp hV hle => ?_)
          obtain ⟨rfl, rfl, hz⟩ := hp
          replace hV := u_back hV hn [0, 1] rfl
          have hV : vS G.1 cls lo s H locs (vU V [(rd, eO 3 [.ref tp, .int (nI n), .int (nI (rP (num t n 0 9999 q_10)))]), (tp, eI (gB G) 400 f), (sp, eO 4 [.ref po, .ref me]), (po, eI (gI G) 31 fp), (me, eI (gI G) 31 fm)]) := hV
          obtain ⟨x_13, hx_13⟩ : ∃ z, num t n 0 9999 q_10 = z := ⟨_, rfl⟩
          rw [hx_13] at hV
          rcases x_13 with e_13 | ⟨v_13, q_13⟩
          · have be_13 : e_13 ≤ n := num_er hx_13 (by omega)
            have hV : vS G.1 cls lo s H locs (vU V [(rd, eO 3 [.ref tp, .int (nI n), .int (nI e_13)]), (tp, eI (gB G) 400 f), (sp, eO 4 [.ref po, .ref me]), (po, eI (gI G) 31 fp), (me, eI (gI G) 31 fm)]) := hV
            refine W.eq (g2 := F0 mi 56 ls [.int ((-1))]) (by rw [hx_13]; rfl) ?_
            refine lv_istore (lv' := [(4, .int ((-1))), (3, .int (nI v_7)), (2, .int (nI v_1)), (0, .ref rd), (1, .ref sp)]) hx hb d_Rd_readSpot_56 hl (by decide) rfl (fun ls hl => ?_)
            refine lv_iload hx hb d_Rd_readSpot_58 (lv_at hl 0 rfl) ?_
            refine lv_iconst (v := (-1)) hx hb d_Rd_readSpot_60 (by decide) ?_
            refine lv_icmp_ne (tgt := 66) hx hb d_Rd_readSpot_61 (by decide) (fun c_14 => absurd c_14 (by decide)) (fun _ => ?_)
            refine lv_iconst (v := 0) hx hb d_Rd_readSpot_64 (by decide) ?_
            have hE : spotR t n p = .inl e_13 := by simp only [spotR, sbd_l, sbd_r, hx_1, hx_4, hx_7, hx_10, hx_13]
            exact W.zret (v := 0) hx hb hr (by decide) (v_end hV ⟨by rw [hE]; rfl, by rw [hE]; rfl, hz⟩) hV.2.1.2.2 d_Rd_readSpot_65
          · obtain ⟨lv_13, uv_13, gq_13, bq_13⟩ := num_ok hx_13 (by omega)
            have hV : vS G.1 cls lo s H locs (vU V [(rd, eO 3 [.ref tp, .int (nI n), .int (nI q_13)]), (tp, eI (gB G) 400 f), (sp, eO 4 [.ref po, .ref me]), (po, eI (gI G) 31 fp), (me, eI (gI G) 31 fm)]) := hV
            refine W.eq (g2 := F0 mi 56 ls [.int (nI v_13)]) (by rw [hx_13]; rfl) ?_
            refine lv_istore (lv' := [(4, .int (nI v_13)), (3, .int (nI v_7)), (2, .int (nI v_1)), (0, .ref rd), (1, .ref sp)]) hx hb d_Rd_readSpot_56 hl (by decide) rfl (fun ls hl => ?_)
            refine lv_iload hx hb d_Rd_readSpot_58 (lv_at hl 0 rfl) ?_
            refine lv_iconst (v := (-1)) hx hb d_Rd_readSpot_60 (by decide) ?_
            refine lv_icmp_ne (tgt := 66) hx hb d_Rd_readSpot_61 (by decide) (fun _ => ?_) (fun c_15 => absurd c_15 (nI_nem (by omega)))
            refine lv_aload_n hx hb d_Rd_readSpot_66 rfl (lv_at hl 4 rfl) ?_
            refine lv_iload_n hx hb d_Rd_readSpot_67 rfl (lv_at hl 2 rfl) ?_
            refine lv_iload_n hx hb d_Rd_readSpot_68 rfl (lv_at hl 1 rfl) ?_
            refine lv_iload hx hb d_Rd_readSpot_69 (lv_at hl 0 rfl) ?_
            refine v_call (va_runV (As := [.int (nI v_1), .int (nI v_7), .int (nI v_13)]) (rest := []) ⟨hx, hb, hml, hown, hts⟩ (c_Sp_put l G lo _ _ sp po me fp fm v_1 (nI v_7) (nI v_13) (nd_sub hn [2, 3, 4] (by decide) rfl) (by omega) (by omega)) (kwV 3 hts w_co_Sp_put rfl rfl w_it_Sp w_ml_Rd_148 w_im_Sp_put w_se_Sp__Sp_put (by decide +kernel) ⟨by decide, by decide⟩) (u_preV hK hV hn [2, 3, 4] rfl hz 2 rfl rfl) rfl rfl hl.1 rfl (lv_room (Nat.le_of_ble_eq_true rfl)) d_Rd_readSpot_71 ⟨(Nat.le_of_ble_eq_true rfl), (Nat.le_of_ble_eq_true rfl)⟩) hV (fun r9 V9 H locs hp hV hle => ?_)
            obtain ⟨rfl, rfl, hz⟩ := hp
            replace hV := u_back hV hn [2, 3, 4] rfl
            have hV : vS G.1 cls lo s H locs (vU V [(rd, eO 3 [.ref tp, .int (nI n), .int (nI q_13)]), (tp, eI (gB G) 400 f), (sp, eO 4 [.ref po, .ref me]), (po, eI (gI G) 31 (upd fp v_1 (nI v_7))), (me, eI (gI G) 31 (upd fm v_1 (nI v_13)))]) := hV
            refine lv_iconst (v := 1) hx hb d_Rd_readSpot_74 (by decide) ?_
            have hE : spotR t n p = .inr ((v_1, v_7, v_13), q_13) := by simp only [spotR, sbd_l, sbd_r, hx_1, hx_4, hx_7, hx_10, hx_13]
            exact W.zret (v := 1) hx hb hr (by decide) (v_end hV ⟨by rw [hE]; rfl, by rw [hE]; rfl, hz⟩) hV.2.1.2.2 d_Rd_readSpot_75

set_option maxHeartbeats 4000000 in
set_option maxRecDepth 100000 in
/-- Reader.readLimits -/
theorem c_Rd_readLimits (l : Launch) (G : Gx) (lo : Nat) (V : Vw) (sz : Nat) (rd tp : Nat) (f : Nat → Int32) (t : Nat → Nat) (n p : Nat) (pa x1 x2 x3 : Nat) (i0 i1 i2 i3 i4 i5 i6 i9 i10 : Int32) (j8 : Int64) (hn : [rd, tp, pa].Nodup) (hT : tpOk f t n) (h4 : n ≤ 400) (hp : p ≤ n) : Met l y_Rd_readLimits ws_Rd_readLimits ({ frames := 2, cells := 0, slots := 0, locals := 60 } : Room) (vPre G lo [.ref rd, .ref pa] (vU V [(rd, eO 3 [.ref tp, .int (nI n), .int (nI p)]), (tp, eI (gB G) 400 f), (pa, eO 1 [.int i0, .int i1, .int i2, .int i3, .int i4, .int i5, .int i6, .ref x1, .ref x2, .ref x3, .int 0, .int 0, .long j8, .int i9, .int i10])]) sz) (vPost G lo (fun r V' k => r = some (.int (rB (limR t n p))) ∧ (∃ y1 y2 : Int32, V' = vU V [(rd, eO 3 [.ref tp, .int (nI n), .int (nI (sR (limR t n p)))]), (tp, eI (gB G) 400 f), (pa, eO 1 [.int i0, .int i1, .int i2, .int i3, .int i4, .int i5, .int i6, .ref x1, .ref x2, .ref x3, .int y1, .int y2, .long j8, .int i9, .int i10])] ∧ ∀ z, limR t n p = .inr z → y1 = nI z.1.1 ∧ y2 = nI z.1.2) ∧ k = sz)) 0 0 (vL lo) := by
  refine vMet (R := RRd) (by decide) rfl (Nat.le_of_ble_eq_true rfl) ?_
  intro pg ev s mi args below meth cd hx hb hr hml hlk hnm hts hown hK hz hV ls hl
  have hl : lv_has ls 2 [(0, .ref rd), (1, .ref pa)] := hl
  have hV0 := hV
  obtain ⟨H, hH⟩ : ∃ H, H = s.heap := ⟨_, rfl⟩
  obtain ⟨locs, hlocs⟩ : ∃ locs : List Loc, locs = [] := ⟨_, rfl⟩
  rw [← hH, ← hlocs]
  rw [← hH] at hz
  replace hV : vS G.1 cls lo s H locs (vU V [(rd, eO 3 [.ref tp, .int (nI n), .int (nI p)]), (tp, eI (gB G) 400 f), (pa, eO 1 [.int i0, .int i1, .int i2, .int i3, .int i4, .int i5, .int i6, .ref x1, .ref x2, .ref x3, .int 0, .int 0, .long j8, .int i9, .int i10])]) := by rw [hH, hlocs]; exact hV
  clear hH hlocs hV0
  refine lv_aload_n hx hb d_Rd_readLimits_0 rfl (lv_at hl 0 rfl) ?_
  refine v_call (va_runV (As := []) (rest := []) ⟨hx, hb, hml, hown, hts⟩ (c_Rd_peek l G lo _ _ rd tp f t n p (nd_sub hn [0, 1] (by decide) rfl) hT h4 (by omega)) (kwV 0 hts w_co_Rd_peek rfl rfl w_it_Rd w_ml_Rd_22 w_im_Rd_peek w_se_Rd__Rd_peek (by decide +kernel) ⟨by decide, by decide⟩) (u_preV hK hV hn [0, 1] rfl hz 0 rfl rfl) rfl rfl hl.1 rfl (lv_room (Nat.le_of_ble_eq_true rfl)) d_Rd_readLimits_1 ⟨(Nat.le_of_ble_eq_true rfl), (Nat.le_of_ble_eq_true rfl)⟩) hV (fun r9 V9 H locs hp hV hle => ?_)
  obtain ⟨rfl, rfl, hz⟩ := hp
  replace hV := u_back hV hn [0, 1] rfl
  have hV : vS G.1 cls lo s H locs (vU V [(rd, eO 3 [.ref tp, .int (nI n), .int (nI (sk t n p))]), (tp, eI (gB G) 400 f), (pa, eO 1 [.int i0, .int i1, .int i2, .int i3, .int i4, .int i5, .int i6, .ref x1, .ref x2, .ref x3, .int 0, .int 0, .long j8, .int i9, .int i10])]) := hV
  obtain ⟨q_1, hq_1⟩ : ∃ z, sk t n p = z := ⟨_, rfl⟩
  rw [hq_1] at hV
  have bq_1 : q_1 ≤ n := by rw [← hq_1]; exact sk_le (by omega)
  have gq_1 : p ≤ q_1 := by rw [← hq_1]; exact sk_ge t n p
  rcases Nat.lt_or_ge q_1 n with lq_1 | lq_1
  · have kq_1 : t q_1 < 256 := (hT q_1 lq_1).1
    have hV : vS G.1 cls lo s H locs (vU V [(rd, eO 3 [.ref tp, .int (nI n), .int (nI q_1)]), (tp, eI (gB G) 400 f), (pa, eO 1 [.int i0, .int i1, .int i2, .int i3, .int i4, .int i5, .int i6, .ref x1, .ref x2, .ref x3, .int 0, .int 0, .long j8, .int i9, .int i10])]) := hV
    refine W.eq (g2 := F0 mi 4 ls [.int (nI (t q_1))]) (by rw [hq_1, rK_in lq_1]; rfl) ?_
    refine lv_bipush (v := 94) hx hb d_Rd_readLimits_4 (by decide) ?_
    refine lv_icmp_ne (tgt := 40) hx hb d_Rd_readLimits_6 (by decide) (fun c_2 => ?_) (fun c_2 => ?_)
    · replace c_2 : ¬ t q_1 = 94 := fun z9 => c_2 ((nI_eq (a := t q_1) (b := 94) (by omega) (by omega)).mpr z9)
      refine lv_aload_n hx hb d_Rd_readLimits_40 rfl (lv_at hl 0 rfl) ?_
      refine v_call (va_runV (As := []) (rest := []) ⟨hx, hb, hml, hown, hts⟩ (c_Rd_peek l G lo _ _ rd tp f t n q_1 (nd_sub hn [0, 1] (by decide) rfl) hT h4 (by omega)) (kwV 0 hts w_co_Rd_peek rfl rfl w_it_Rd w_ml_Rd_22 w_im_Rd_peek w_se_Rd__Rd_peek (by decide +kernel) ⟨by decide, by decide⟩) (u_preV hK hV hn [0, 1] rfl hz 0 rfl rfl) rfl rfl hl.1 rfl (lv_room (Nat.le_of_ble_eq_true rfl)) d_Rd_readLimits_41 ⟨(Nat.le_of_ble_eq_true rfl), (Nat.le_of_ble_eq_true rfl)⟩) hV (fun r9 V9 H locs hp hV hle => ?_)
      obtain ⟨rfl, rfl, hz⟩ := hp
      replace hV := u_back hV hn [0, 1] rfl
      have hV : vS G.1 cls lo s H locs (vU V [(rd, eO 3 [.ref tp, .int (nI n), .int (nI (sk t n q_1))]), (tp, eI (gB G) 400 f), (pa, eO 1 [.int i0, .int i1, .int i2, .int i3, .int i4, .int i5, .int i6, .ref x1, .ref x2, .ref x3, .int 0, .int 0, .long j8, .int i9, .int i10])]) := hV
      obtain ⟨q_3, hq_3⟩ : ∃ z, sk t n q_1 = z := ⟨_, rfl⟩
      rw [hq_3] at hV
      have bq_3 : q_3 ≤ n := by rw [← hq_3]; exact sk_le (by omega)
      have gq_3 : q_1 ≤ q_3 := by rw [← hq_3]; exact sk_ge t n q_1
      rcases Nat.lt_or_ge q_3 n with lq_3 | lq_3
      · have kq_3 : t q_3 < 256 := (hT q_3 lq_3).1
        have hV : vS G.1 cls lo s H locs (vU V [(rd, eO 3 [.ref tp, .int (nI n), .int (nI q_3)]), (tp, eI (gB G) 400 f), (pa, eO 1 [.int i0, .int i1, .int i2, .int i3, .int i4, .int i5, .int i6, .ref x1, .ref x2, .ref x3, .int 0, .int 0, .long j8, .int i9, .int i10])]) := hV
        refine W.eq (g2 := F0 mi 44 ls [.int (nI (t q_3))]) (by rw [hq_3, rK_in lq_3]; rfl) ?_
        refine lv_bipush (v := 33) hx hb d_Rd_readLimits_44 (by decide) ?_
        refine lv_icmp_ne (tgt := 70) hx hb d_Rd_readLimits_46 (by decide) (fun c_4 => ?_) (fun c_4 => ?_)
        · replace c_4 : ¬ t q_3 = 33 := fun z9 => c_4 ((nI_eq (a := t q_3) (b := 33) (by omega) (by omega)).mpr z9)
          refine lv_aload_n hx hb d_Rd_readLimits_70 rfl (lv_at hl 1 rfl) ?_
          refine u_get hx hb hts inPc hown hK hV hn 2 rfl rfl 11 (by decide) w_fl_Rd_126 rfl rfl d_Rd_readLimits_71 ?_
          refine lv_iconst (v := (-1)) hx hb d_Rd_readLimits_74 (by decide) ?_
          refine lv_icmp_eq (tgt := 82) hx hb d_Rd_readLimits_75 (by decide) (fun c_5 => absurd c_5 (by decide)) (fun _ => ?_)
          refine lv_iconst (v := 1) hx hb d_Rd_readLimits_78 (by decide) ?_
          refine lv_goto (tgt := 83) hx hb d_Rd_readLimits_79 (by decide) ?_
          have hE : limR t n p = .inr ((0, 0), q_3) := by simp [limR, sbd_l, sbd_r, lim1, hq_1, hq_3, lq_1, c_2, lq_3, c_4]
          exact W.zret (v := 1) hx hb hr (by decide) (v_end hV ⟨by rw [hE]; rfl, ⟨0, 0, by rw [hE]; rfl, fun z hz9 => by rw [hE] at hz9; cases hz9; exact ⟨rfl, rfl⟩⟩, hz⟩) hV.2.1.2.2 d_Rd_readLimits_83
        · replace c_4 : t q_3 = 33 := (nI_eq (a := t q_3) (b := 33) (by omega) (by omega)).mp c_4
          refine lv_aload_n hx hb d_Rd_readLimits_49 rfl (lv_at hl 0 rfl) ?_
          refine lv_dup hx hb d_Rd_readLimits_50 rfl ?_
          refine u_get hx hb hts inRd hown hK hV hn 0 rfl rfl 2 (by decide) w_fl_Rd_19 rfl rfl d_Rd_readLimits_51 ?_
          refine lv_iconst (v := 1) hx hb d_Rd_readLimits_54 (by decide) ?_
          refine e_iadd (v := nI (q_3 + 1)) hx hb d_Rd_readLimits_55 (nI_add q_3 1) ?_
          refine u_put hx hb hts inRd tyRd tyRd_ok nmRd hown hK hV hn 0 rfl rfl 2 (by decide) w_fl_Rd_19 rfl rfl rfl rfl (Nat.le_of_ble_eq_true rfl) d_Rd_readLimits_56 (fun H locs hV hz9 => ?_)
          have hV : vS G.1 cls lo s H locs (vU V [(rd, eO 3 [.ref tp, .int (nI n), .int (nI (q_3 + 1))]), (tp, eI (gB G) 400 f), (pa, eO 1 [.int i0, .int i1, .int i2, .int i3, .int i4, .int i5, .int i6, .ref x1, .ref x2, .ref x3, .int 0, .int 0, .long j8, .int i9, .int i10])]) := hV
          replace hz := hz9.trans hz
          refine lv_aload_n hx hb d_Rd_readLimits_59 rfl (lv_at hl 1 rfl) ?_
          refine lv_aload_n hx hb d_Rd_readLimits_60 rfl (lv_at hl 0 rfl) ?_
          refine lv_iconst (v := 1) hx hb d_Rd_readLimits_61 (by decide) ?_
          refine lv_bipush (v := 99) hx hb d_Rd_readLimits_62 (by decide) ?_
          refine v_call (va_runV (As := [.int 1, .int 99]) (rest := [.ref pa]) ⟨hx, hb, hml, hown, hts⟩ (c_Rd_readNumber l G lo _ _ rd tp f t n (q_3 + 1) (nd_sub hn [0, 1] (by decide) rfl) hT h4 (by omega) 1 99 (by omega) (by omega)) (kwV 2 hts w_co_Rd_readNumber rfl rfl w_it_Rd w_ml_Rd_61 w_im_Rd_readNumber w_se_Rd__Rd_readNumber (by decide +kernel) ⟨by decide, by decide⟩) (u_preV hK hV hn [0, 1] rfl hz 0 rfl rfl) rfl rfl hl.1 rfl (lv_room (Nat.le_of_ble_eq_true rfl)) d_Rd_readLimits_64 ⟨(Nat.le_of_ble_eq_true rfl), (Nat.le_of_ble_eq_true rfl)⟩) hV (fun r9 V9 H locs hp hV hle => ?_)
          obtain ⟨rfl, rfl, hz⟩ := hp
          replace hV := u_back hV hn [0, 1] rfl
          have hV : vS G.1 cls lo s H locs (vU V [(rd, eO 3 [.ref tp, .int (nI n), .int (nI (rP (num t n 1 99 (q_3 + 1))))]), (tp, eI (gB G) 400 f), (pa, eO 1 [.int i0, .int i1, .int i2, .int i3, .int i4, .int i5, .int i6, .ref x1, .ref x2, .ref x3, .int 0, .int 0, .long j8, .int i9, .int i10])]) := hV
          obtain ⟨x_6, hx_6⟩ : ∃ z, num t n 1 99 (q_3 + 1) = z := ⟨_, rfl⟩
          rw [hx_6] at hV
          rcases x_6 with e_6 | ⟨v_6, q_6⟩
          · have be_6 : e_6 ≤ n := num_er hx_6 (by omega)
            have hV : vS G.1 cls lo s H locs (vU V [(rd, eO 3 [.ref tp, .int (nI n), .int (nI e_6)]), (tp, eI (gB G) 400 f), (pa, eO 1 [.int i0, .int i1, .int i2, .int i3, .int i4, .int i5, .int i6, .ref x1, .ref x2, .ref x3, .int 0, .int 0, .long j8, .int i9, .int i10])]) := hV
            refine W.eq (g2 := F0 mi 67 ls [.int ((-1)), .ref pa]) (by rw [hx_6]; rfl) ?_
            refine u_put hx hb hts inPc tyPc tyPc_ok nmPc hown hK hV hn 2 rfl rfl 11 (by decide) w_fl_Rd_126 rfl rfl rfl rfl (Nat.le_of_ble_eq_true rfl) d_Rd_readLimits_67 (fun H locs hV hz9 => ?_)
            have hV : vS G.1 cls lo s H locs (vU V [(rd, eO 3 [.ref tp, .int (nI n), .int (nI e_6)]), (tp, eI (gB G) 400 f), (pa, eO 1 [.int i0, .int i1, .int i2, .int i3, .int i4, .int i5, .int i6, .ref x1, .ref x2, .ref x3, .int 0, .int ((-1)), .long j8, .int i9, .int i10])]) := hV
            replace hz := hz9.trans hz
            refine lv_aload_n hx hb d_Rd_readLimits_70 rfl (lv_at hl 1 rfl) ?_
            refine u_get hx hb hts inPc hown hK hV hn 2 rfl rfl 11 (by decide) w_fl_Rd_126 rfl rfl d_Rd_readLimits_71 ?_
            refine lv_iconst (v := (-1)) hx hb d_Rd_readLimits_74 (by decide) ?_
            refine lv_icmp_eq (tgt := 82) hx hb d_Rd_readLimits_75 (by decide) (fun _ => ?_) (fun c_7 => absurd c_7 (by decide))
            refine lv_iconst (v := 0) hx hb d_Rd_readLimits_82 (by decide) ?_
            have hE : limR t n p = .inl e_6 := by simp [limR, sbd_l, sbd_r, lim1, hq_1, hq_3, hx_6, lq_1, c_2, lq_3, c_4]
            exact W.zret (v := 0) hx hb hr (by decide) (v_end hV ⟨by rw [hE]; rfl, ⟨0, (-1), by rw [hE]; rfl, fun z hz9 => by rw [hE] at hz9; cases hz9⟩, hz⟩) hV.2.1.2.2 d_Rd_readLimits_83
          · obtain ⟨lv_6, uv_6, gq_6, bq_6⟩ := num_ok hx_6 (by omega)
            have hV : vS G.1 cls lo s H locs (vU V [(rd, eO 3 [.ref tp, .int (nI n), .int (nI q_6)]), (tp, eI (gB G) 400 f), (pa, eO 1 [.int i0, .int i1, .int i2, .int i3, .int i4, .int i5, .int i6, .ref x1, .ref x2, .ref x3, .int 0, .int 0, .long j8, .int i9, .int i10])]) := hV
            refine W.eq (g2 := F0 mi 67 ls [.int (nI v_6), .ref pa]) (by rw [hx_6]; rfl) ?_
            refine u_put hx hb hts inPc tyPc tyPc_ok nmPc hown hK hV hn 2 rfl rfl 11 (by decide) w_fl_Rd_126 rfl rfl rfl rfl (Nat.le_of_ble_eq_true rfl) d_Rd_readLimits_67 (fun H locs hV hz9 => ?_)
            have hV : vS G.1 cls lo s H locs (vU V [(rd, eO 3 [.ref tp, .int (nI n), .int (nI q_6)]), (tp, eI (gB G) 400 f), (pa, eO 1 [.int i0, .int i1, .int i2, .int i3, .int i4, .int i5, .int i6, .ref x1, .ref x2, .ref x3, .int 0, .int (nI v_6), .long j8, .int i9, .int i10])]) := hV
            replace hz := hz9.trans hz
            refine lv_aload_n hx hb d_Rd_readLimits_70 rfl (lv_at hl 1 rfl) ?_
            refine u_get hx hb hts inPc hown hK hV hn 2 rfl rfl 11 (by decide) w_fl_Rd_126 rfl rfl d_Rd_readLimits_71 ?_
            refine lv_iconst (v := (-1)) hx hb d_Rd_readLimits_74 (by decide) ?_
            refine lv_icmp_eq (tgt := 82) hx hb d_Rd_readLimits_75 (by decide) (fun c_8 => absurd c_8 (nI_nem (by omega))) (fun _ => ?_)
            refine lv_iconst (v := 1) hx hb d_Rd_readLimits_78 (by decide) ?_
            refine lv_goto (tgt := 83) hx hb d_Rd_readLimits_79 (by decide) ?_
            have hE : limR t n p = .inr ((0, v_6), q_6) := by simp [limR, sbd_l, sbd_r, lim1, hq_1, hq_3, hx_6, lq_1, c_2, lq_3, c_4]
            exact W.zret (v := 1) hx hb hr (by decide) (v_end hV ⟨by rw [hE]; rfl, ⟨0, nI v_6, by rw [hE]; rfl, fun z hz9 => by rw [hE] at hz9; cases hz9; exact ⟨rfl, rfl⟩⟩, hz⟩) hV.2.1.2.2 d_Rd_readLimits_83
      · have hV : vS G.1 cls lo s H locs (vU V [(rd, eO 3 [.ref tp, .int (nI n), .int (nI q_3)]), (tp, eI (gB G) 400 f), (pa, eO 1 [.int i0, .int i1, .int i2, .int i3, .int i4, .int i5, .int i6, .ref x1, .ref x2, .ref x3, .int 0, .int 0, .long j8, .int i9, .int i10])]) := hV
        refine W.eq (g2 := F0 mi 44 ls [.int ((-1))]) (by rw [hq_3, rK_out (by omega)]; rfl) ?_
        refine lv_bipush (v := 33) hx hb d_Rd_readLimits_44 (by decide) ?_
        refine lv_icmp_ne (tgt := 70) hx hb d_Rd_readLimits_46 (by decide) (fun _ => ?_) (fun c_9 => absurd c_9 (by decide))
        refine lv_aload_n hx hb d_Rd_readLimits_70 rfl (lv_at hl 1 rfl) ?_
        refine u_get hx hb hts inPc hown hK hV hn 2 rfl rfl 11 (by decide) w_fl_Rd_126 rfl rfl d_Rd_readLimits_71 ?_
        refine lv_iconst (v := (-1)) hx hb d_Rd_readLimits_74 (by decide) ?_
        refine lv_icmp_eq (tgt := 82) hx hb d_Rd_readLimits_75 (by decide) (fun c_10 => absurd c_10 (by decide)) (fun _ => ?_)
        refine lv_iconst (v := 1) hx hb d_Rd_readLimits_78 (by decide) ?_
        refine lv_goto (tgt := 83) hx hb d_Rd_readLimits_79 (by decide) ?_
        have hE : limR t n p = .inr ((0, 0), q_3) := by simp [limR, sbd_l, sbd_r, lim1, hq_1, hq_3, lq_1, c_2, Nat.not_lt.mpr lq_3]
        exact W.zret (v := 1) hx hb hr (by decide) (v_end hV ⟨by rw [hE]; rfl, ⟨0, 0, by rw [hE]; rfl, fun z hz9 => by rw [hE] at hz9; cases hz9; exact ⟨rfl, rfl⟩⟩, hz⟩) hV.2.1.2.2 d_Rd_readLimits_83
    · replace c_2 : t q_1 = 94 := (nI_eq (a := t q_1) (b := 94) (by omega) (by omega)).mp c_2
      refine lv_aload_n hx hb d_Rd_readLimits_9 rfl (lv_at hl 0 rfl) ?_
      refine lv_dup hx hb d_Rd_readLimits_10 rfl ?_
      refine u_get hx hb hts inRd hown hK hV hn 0 rfl rfl 2 (by decide) w_fl_Rd_19 rfl rfl d_Rd_readLimits_11 ?_
      refine lv_iconst (v := 1) hx hb d_Rd_readLimits_14 (by decide) ?_
      refine e_iadd (v := nI (q_1 + 1)) hx hb d_Rd_readLimits_15 (nI_add q_1 1) ?_
      refine u_put hx hb hts inRd tyRd tyRd_ok nmRd hown hK hV hn 0 rfl rfl 2 (by decide) w_fl_Rd_19 rfl rfl rfl rfl (Nat.le_of_ble_eq_true rfl) d_Rd_readLimits_16 (fun H locs hV hz9 => ?_)
      have hV : vS G.1 cls lo s H locs (vU V [(rd, eO 3 [.ref tp, .int (nI n), .int (nI (q_1 + 1))]), (tp, eI (gB G) 400 f), (pa, eO 1 [.int i0, .int i1, .int i2, .int i3, .int i4, .int i5, .int i6, .ref x1, .ref x2, .ref x3, .int 0, .int 0, .long j8, .int i9, .int i10])]) := hV
      replace hz := hz9.trans hz
      refine lv_aload_n hx hb d_Rd_readLimits_19 rfl (lv_at hl 1 rfl) ?_
      refine lv_aload_n hx hb d_Rd_readLimits_20 rfl (lv_at hl 0 rfl) ?_
      refine lv_iconst (v := 1) hx hb d_Rd_readLimits_21 (by decide) ?_
      refine lv_bipush (v := 99) hx hb d_Rd_readLimits_22 (by decide) ?_
      refine v_call (va_runV (As := [.int 1, .int 99]) (rest := [.ref pa]) ⟨hx, hb, hml, hown, hts⟩ (c_Rd_readNumber l G lo _ _ rd tp f t n (q_1 + 1) (nd_sub hn [0, 1] (by decide) rfl) hT h4 (by omega) 1 99 (by omega) (by omega)) (kwV 2 hts w_co_Rd_readNumber rfl rfl w_it_Rd w_ml_Rd_61 w_im_Rd_readNumber w_se_Rd__Rd_readNumber (by decide +kernel) ⟨by decide, by decide⟩) (u_preV hK hV hn [0, 1] rfl hz 0 rfl rfl) rfl rfl hl.1 rfl (lv_room (Nat.le_of_ble_eq_true rfl)) d_Rd_readLimits_24 ⟨(Nat.le_of_ble_eq_true rfl), (Nat.le_of_ble_eq_true rfl)⟩) hV (fun r9 V9 H locs hp hV hle => ?_)
      obtain ⟨rfl, rfl, hz⟩ := hp
      replace hV := u_back hV hn [0, 1] rfl
      have hV : vS G.1 cls lo s H locs (vU V [(rd, eO 3 [.ref tp, .int (nI n), .int (nI (rP (num t n 1 99 (q_1 + 1))))]), (tp, eI (gB G) 400 f), (pa, eO 1 [.int i0, .int i1, .int i2, .int i3, .int i4, .int i5, .int i6, .ref x1, .ref x2, .ref x3, .int 0, .int 0, .long j8, .int i9, .int i10])]) := hV
      obtain ⟨x_11, hx_11⟩ : ∃ z, num t n 1 99 (q_1 + 1) = z := ⟨_, rfl⟩
      rw [hx_11] at hV
      rcases x_11 with e_11 | ⟨v_11, q_11⟩
      · have be_11 : e_11 ≤ n := num_er hx_11 (by omega)
        have hV : vS G.1 cls lo s H locs (vU V [(rd, eO 3 [.ref tp, .int (nI n), .int (nI e_11)]), (tp, eI (gB G) 400 f), (pa, eO 1 [.int i0, .int i1, .int i2, .int i3, .int i4, .int i5, .int i6, .ref x1, .ref x2, .ref x3, .int 0, .int 0, .long j8, .int i9, .int i10])]) := hV
        refine W.eq (g2 := F0 mi 27 ls [.int ((-1)), .ref pa]) (by rw [hx_11]; rfl) ?_
        refine u_put hx hb hts inPc tyPc tyPc_ok nmPc hown hK hV hn 2 rfl rfl 10 (by decide) w_fl_Rd_123 rfl rfl rfl rfl (Nat.le_of_ble_eq_true rfl) d_Rd_readLimits_27 (fun H locs hV hz9 => ?_)
        have hV : vS G.1 cls lo s H locs (vU V [(rd, eO 3 [.ref tp, .int (nI n), .int (nI e_11)]), (tp, eI (gB G) 400 f), (pa, eO 1 [.int i0, .int i1, .int i2, .int i3, .int i4, .int i5, .int i6, .ref x1, .ref x2, .ref x3, .int ((-1)), .int 0, .long j8, .int i9, .int i10])]) := hV
        replace hz := hz9.trans hz
        refine lv_aload_n hx hb d_Rd_readLimits_30 rfl (lv_at hl 1 rfl) ?_
        refine u_get hx hb hts inPc hown hK hV hn 2 rfl rfl 10 (by decide) w_fl_Rd_123 rfl rfl d_Rd_readLimits_31 ?_
        refine lv_iconst (v := (-1)) hx hb d_Rd_readLimits_34 (by decide) ?_
        refine lv_icmp_ne (tgt := 40) hx hb d_Rd_readLimits_35 (by decide) (fun c_12 => absurd c_12 (by decide)) (fun _ => ?_)
        refine lv_iconst (v := 0) hx hb d_Rd_readLimits_38 (by decide) ?_
        have hE : limR t n p = .inl e_11 := by simp [limR, sbd_l, sbd_r, lim1, hq_1, hx_11, lq_1, c_2]
        exact W.zret (v := 0) hx hb hr (by decide) (v_end hV ⟨by rw [hE]; rfl, ⟨(-1), 0, by rw [hE]; rfl, fun z hz9 => by rw [hE] at hz9; cases hz9⟩, hz⟩) hV.2.1.2.2 d_Rd_readLimits_39
      · obtain ⟨lv_11, uv_11, gq_11, bq_11⟩ := num_ok hx_11 (by omega)
        have hV : vS G.1 cls lo s H locs (vU V [(rd, eO 3 [.ref tp, .int (nI n), .int (nI q_11)]), (tp, eI (gB G) 400 f), (pa, eO 1 [.int i0, .int i1, .int i2, .int i3, .int i4, .int i5, .int i6, .ref x1, .ref x2, .ref x3, .int 0, .int 0, .long j8, .int i9, .int i10])]) := hV
        refine W.eq (g2 := F0 mi 27 ls [.int (nI v_11), .ref pa]) (by rw [hx_11]; rfl) ?_
        refine u_put hx hb hts inPc tyPc tyPc_ok nmPc hown hK hV hn 2 rfl rfl 10 (by decide) w_fl_Rd_123 rfl rfl rfl rfl (Nat.le_of_ble_eq_true rfl) d_Rd_readLimits_27 (fun H locs hV hz9 => ?_)
        have hV : vS G.1 cls lo s H locs (vU V [(rd, eO 3 [.ref tp, .int (nI n), .int (nI q_11)]), (tp, eI (gB G) 400 f), (pa, eO 1 [.int i0, .int i1, .int i2, .int i3, .int i4, .int i5, .int i6, .ref x1, .ref x2, .ref x3, .int (nI v_11), .int 0, .long j8, .int i9, .int i10])]) := hV
        replace hz := hz9.trans hz
        refine lv_aload_n hx hb d_Rd_readLimits_30 rfl (lv_at hl 1 rfl) ?_
        refine u_get hx hb hts inPc hown hK hV hn 2 rfl rfl 10 (by decide) w_fl_Rd_123 rfl rfl d_Rd_readLimits_31 ?_
        refine lv_iconst (v := (-1)) hx hb d_Rd_readLimits_34 (by decide) ?_
        refine lv_icmp_ne (tgt := 40) hx hb d_Rd_readLimits_35 (by decide) (fun _ => ?_) (fun c_13 => absurd c_13 (nI_nem (by omega)))
        refine lv_aload_n hx hb d_Rd_readLimits_40 rfl (lv_at hl 0 rfl) ?_
        refine v_call (va_runV (As := []) (rest := []) ⟨hx, hb, hml, hown, hts⟩ (c_Rd_peek l G lo _ _ rd tp f t n q_11 (nd_sub hn [0, 1] (by decide) rfl) hT h4 (by omega)) (kwV 0 hts w_co_Rd_peek rfl rfl w_it_Rd w_ml_Rd_22 w_im_Rd_peek w_se_Rd__Rd_peek (by decide +kernel) ⟨by decide, by decide⟩) (u_preV hK hV hn [0, 1] rfl hz 0 rfl rfl) rfl rfl hl.1 rfl (lv_room (Nat.le_of_ble_eq_true rfl)) d_Rd_readLimits_41 ⟨(Nat.le_of_ble_eq_true rfl), (Nat.le_of_ble_eq_true rfl)⟩) hV (fun r9 V9 H locs hp hV hle => ?_)
        obtain ⟨rfl, rfl, hz⟩ := hp
        replace hV := u_back hV hn [0, 1] rfl
        have hV : vS G.1 cls lo s H locs (vU V [(rd, eO 3 [.ref tp, .int (nI n), .int (nI (sk t n q_11))]), (tp, eI (gB G) 400 f), (pa, eO 1 [.int i0, .int i1, .int i2, .int i3, .int i4, .int i5, .int i6, .ref x1, .ref x2, .ref x3, .int (nI v_11), .int 0, .long j8, .int i9, .int i10])]) := hV
        obtain ⟨q_14, hq_14⟩ : ∃ z, sk t n q_11 = z := ⟨_, rfl⟩
        rw [hq_14] at hV
        have bq_14 : q_14 ≤ n := by rw [← hq_14]; exact sk_le (by omega)
        have gq_14 : q_11 ≤ q_14 := by rw [← hq_14]; exact sk_ge t n q_11
        rcases Nat.lt_or_ge q_14 n with lq_14 | lq_14
        · have kq_14 : t q_14 < 256 := (hT q_14 lq_14).1
          have hV : vS G.1 cls lo s H locs (vU V [(rd, eO 3 [.ref tp, .int (nI n), .int (nI q_14)]), (tp, eI (gB G) 400 f), (pa, eO 1 [.int i0, .int i1, .int i2, .int i3, .int i4, .int i5, .int i6, .ref x1, .ref x2, .ref x3, .int (nI v_11), .int 0, .long j8, .int i9, .int i10])]) := hV
          refine W.eq (g2 := F0 mi 44 ls [.int (nI (t q_14))]) (by rw [hq_14, rK_in lq_14]; rfl) ?_
          refine lv_bipush (v := 33) hx hb d_Rd_readLimits_44 (by decide) ?_
          refine lv_icmp_ne (tgt := 70) hx hb d_Rd_readLimits_46 (by decide) (fun c_15 => ?_) (fun c_15 => ?_)
          · replace c_15 : ¬ t q_14 = 33 := fun z9 => c_15 ((nI_eq (a := t q_14) (b := 33) (by omega) (by omega)).mpr z9)
            refine lv_aload_n hx hb d_Rd_readLimits_70 rfl (lv_at hl 1 rfl) ?_
            refine u_get hx hb hts inPc hown hK hV hn 2 rfl rfl 11 (by decide) w_fl_Rd_126 rfl rfl d_Rd_readLimits_71 ?_
            refine lv_iconst (v := (-1)) hx hb d_Rd_readLimits_74 (by decide) ?_
            refine lv_icmp_eq (tgt := 82) hx hb d_Rd_readLimits_75 (by decide) (fun c_16 => absurd c_16 (by decide)) (fun _ => ?_)
            refine lv_iconst (v := 1) hx hb d_Rd_readLimits_78 (by decide) ?_
            refine lv_goto (tgt := 83) hx hb d_Rd_readLimits_79 (by decide) ?_
            have hE : limR t n p = .inr ((v_11, 0), q_14) := by simp [limR, sbd_l, sbd_r, lim1, hq_1, hx_11, hq_14, lq_1, c_2, lq_14, c_15]
            exact W.zret (v := 1) hx hb hr (by decide) (v_end hV ⟨by rw [hE]; rfl, ⟨nI v_11, 0, by rw [hE]; rfl, fun z hz9 => by rw [hE] at hz9; cases hz9; exact ⟨rfl, rfl⟩⟩, hz⟩) hV.2.1.2.2 d_Rd_readLimits_83
          · replace c_15 : t q_14 = 33 := (nI_eq (a := t q_14) (b := 33) (by omega) (by omega)).mp c_15
            refine lv_aload_n hx hb d_Rd_readLimits_49 rfl (lv_at hl 0 rfl) ?_
            refine lv_dup hx hb d_Rd_readLimits_50 rfl ?_
            refine u_get hx hb hts inRd hown hK hV hn 0 rfl rfl 2 (by decide) w_fl_Rd_19 rfl rfl d_Rd_readLimits_51 ?_
            refine lv_iconst (v := 1) hx hb d_Rd_readLimits_54 (by decide) ?_
            refine e_iadd (v := nI (q_14 + 1)) hx hb d_Rd_readLimits_55 (nI_add q_14 1) ?_
            refine u_put hx hb hts inRd tyRd tyRd_ok nmRd hown hK hV hn 0 rfl rfl 2 (by decide) w_fl_Rd_19 rfl rfl rfl rfl (Nat.le_of_ble_eq_true rfl) d_Rd_readLimits_56 (fun H locs hV hz9 => ?_)
            have hV : vS G.1 cls lo s H locs (vU V [(rd, eO 3 [.ref tp, .int (nI n), .int (nI (q_14 + 1))]), (tp, eI (gB G) 400 f), (pa, eO 1 [.int i0, .int i1, .int i2, .int i3, .int i4, .int i5, .int i6, .ref x1, .ref x2, .ref x3, .int (nI v_11), .int 0, .long j8, .int i9, .int i10])]) := hV
            replace hz := hz9.trans hz
            refine lv_aload_n hx hb d_Rd_readLimits_59 rfl (lv_at hl 1 rfl) ?_
            refine lv_aload_n hx hb d_Rd_readLimits_60 rfl (lv_at hl 0 rfl) ?_
            refine lv_iconst (v := 1) hx hb d_Rd_readLimits_61 (by decide) ?_
            refine lv_bipush (v := 99) hx hb d_Rd_readLimits_62 (by decide) ?_
            refine v_call (va_runV (As := [.int 1, .int 99]) (rest := [.ref pa]) ⟨hx, hb, hml, hown, hts⟩ (c_Rd_readNumber l G lo _ _ rd tp f t n (q_14 + 1) (nd_sub hn [0, 1] (by decide) rfl) hT h4 (by omega) 1 99 (by omega) (by omega)) (kwV 2 hts w_co_Rd_readNumber rfl rfl w_it_Rd w_ml_Rd_61 w_im_Rd_readNumber w_se_Rd__Rd_readNumber (by decide +kernel) ⟨by decide, by decide⟩) (u_preV hK hV hn [0, 1] rfl hz 0 rfl rfl) rfl rfl hl.1 rfl (lv_room (Nat.le_of_ble_eq_true rfl)) d_Rd_readLimits_64 ⟨(Nat.le_of_ble_eq_true rfl), (Nat.le_of_ble_eq_true rfl)⟩) hV (fun r9 V9 H locs hp hV hle => ?_)
            obtain ⟨rfl, rfl, hz⟩ := hp
            replace hV := u_back hV hn [0, 1] rfl
            have hV : vS G.1 cls lo s H locs (vU V [(rd, eO 3 [.ref tp, .int (nI n), .int (nI (rP (num t n 1 99 (q_14 + 1))))]), (tp, eI (gB G) 400 f), (pa, eO 1 [.int i0, .int i1, .int i2, .int i3, .int i4, .int i5, .int i6, .ref x1, .ref x2, .ref x3, .int (nI v_11), .int 0, .long j8, .int i9, .int i10])]) := hV
            obtain ⟨x_17, hx_17⟩ : ∃ z, num t n 1 99 (q_14 + 1) = z := ⟨_, rfl⟩
            rw [hx_17] at hV
            rcases x_17 with e_17 | ⟨v_17, q_17⟩
            · have be_17 : e_17 ≤ n := num_er hx_17 (by omega)
              have hV : vS G.1 cls lo s H locs (vU V [(rd, eO 3 [.ref tp, .int (nI n), .int (nI e_17)]), (tp, eI (gB G) 400 f), (pa, eO 1 [.int i0, .int i1, .int i2, .int i3, .int i4, .int i5, .int i6, .ref x1, .ref x2, .ref x3, .int (nI v_11), .int 0, .long j8, .int i9, .int i10])]) := hV
              refine W.eq (g2 := F0 mi 67 ls [.int ((-1)), .ref pa]) (by rw [hx_17]; rfl) ?_
              refine u_put hx hb hts inPc tyPc tyPc_ok nmPc hown hK hV hn 2 rfl rfl 11 (by decide) w_fl_Rd_126 rfl rfl rfl rfl (Nat.le_of_ble_eq_true rfl) d_Rd_readLimits_67 (fun H locs hV hz9 => ?_)
              have hV : vS G.1 cls lo s H locs (vU V [(rd, eO 3 [.ref tp, .int (nI n), .int (nI e_17)]), (tp, eI (gB G) 400 f), (pa, eO 1 [.int i0, .int i1, .int i2, .int i3, .int i4, .int i5, .int i6, .ref x1, .ref x2, .ref x3, .int (nI v_11), .int ((-1)), .long j8, .int i9, .int i10])]) := hV
              replace hz := hz9.trans hz
              refine lv_aload_n hx hb d_Rd_readLimits_70 rfl (lv_at hl 1 rfl) ?_
              refine u_get hx hb hts inPc hown hK hV hn 2 rfl rfl 11 (by decide) w_fl_Rd_126 rfl rfl d_Rd_readLimits_71 ?_
              refine lv_iconst (v := (-1)) hx hb d_Rd_readLimits_74 (by decide) ?_
              refine lv_icmp_eq (tgt := 82) hx hb d_Rd_readLimits_75 (by decide) (fun _ => ?_) (fun c_18 => absurd c_18 (by decide))
              refine lv_iconst (v := 0) hx hb d_Rd_readLimits_82 (by decide) ?_
              have hE : limR t n p = .inl e_17 := by simp [limR, sbd_l, sbd_r, lim1, hq_1, hx_11, hq_14, hx_17, lq_1, c_2, lq_14, c_15]
              exact W.zret (v := 0) hx hb hr (by decide) (v_end hV ⟨by rw [hE]; rfl, ⟨nI v_11, (-1), by rw [hE]; rfl, fun z hz9 => by rw [hE] at hz9; cases hz9⟩, hz⟩) hV.2.1.2.2 d_Rd_readLimits_83
            · obtain ⟨lv_17, uv_17, gq_17, bq_17⟩ := num_ok hx_17 (by omega)
              have hV : vS G.1 cls lo s H locs (vU V [(rd, eO 3 [.ref tp, .int (nI n), .int (nI q_17)]), (tp, eI (gB G) 400 f), (pa, eO 1 [.int i0, .int i1, .int i2, .int i3, .int i4, .int i5, .int i6, .ref x1, .ref x2, .ref x3, .int (nI v_11), .int 0, .long j8, .int i9, .int i10])]) := hV
              refine W.eq (g2 := F0 mi 67 ls [.int (nI v_17), .ref pa]) (by rw [hx_17]; rfl) ?_
              refine u_put hx hb hts inPc tyPc tyPc_ok nmPc hown hK hV hn 2 rfl rfl 11 (by decide) w_fl_Rd_126 rfl rfl rfl rfl (Nat.le_of_ble_eq_true rfl) d_Rd_readLimits_67 (fun H locs hV hz9 => ?_)
              have hV : vS G.1 cls lo s H locs (vU V [(rd, eO 3 [.ref tp, .int (nI n), .int (nI q_17)]), (tp, eI (gB G) 400 f), (pa, eO 1 [.int i0, .int i1, .int i2, .int i3, .int i4, .int i5, .int i6, .ref x1, .ref x2, .ref x3, .int (nI v_11), .int (nI v_17), .long j8, .int i9, .int i10])]) := hV
              replace hz := hz9.trans hz
              refine lv_aload_n hx hb d_Rd_readLimits_70 rfl (lv_at hl 1 rfl) ?_
              refine u_get hx hb hts inPc hown hK hV hn 2 rfl rfl 11 (by decide) w_fl_Rd_126 rfl rfl d_Rd_readLimits_71 ?_
              refine lv_iconst (v := (-1)) hx hb d_Rd_readLimits_74 (by decide) ?_
              refine lv_icmp_eq (tgt := 82) hx hb d_Rd_readLimits_75 (by decide) (fun c_19 => absurd c_19 (nI_nem (by omega))) (fun _ => ?_)
              refine lv_iconst (v := 1) hx hb d_Rd_readLimits_78 (by decide) ?_
              refine lv_goto (tgt := 83) hx hb d_Rd_readLimits_79 (by decide) ?_
              have hE : limR t n p = .inr ((v_11, v_17), q_17) := by simp [limR, sbd_l, sbd_r, lim1, hq_1, hx_11, hq_14, hx_17, lq_1, c_2, lq_14, c_15]
              exact W.zret (v := 1) hx hb hr (by decide) (v_end hV ⟨by rw [hE]; rfl, ⟨nI v_11, nI v_17, by rw [hE]; rfl, fun z hz9 => by rw [hE] at hz9; cases hz9; exact ⟨rfl, rfl⟩⟩, hz⟩) hV.2.1.2.2 d_Rd_readLimits_83
        · have hV : vS G.1 cls lo s H locs (vU V [(rd, eO 3 [.ref tp, .int (nI n), .int (nI q_14)]), (tp, eI (gB G) 400 f), (pa, eO 1 [.int i0, .int i1, .int i2, .int i3, .int i4, .int i5, .int i6, .ref x1, .ref x2, .ref x3, .int (nI v_11), .int 0, .long j8, .int i9, .int i10])]) := hV
          refine W.eq (g2 := F0 mi 44 ls [.int ((-1))]) (by rw [hq_14, rK_out (by omega)]; rfl) ?_
          refine lv_bipush (v := 33) hx hb d_Rd_readLimits_44 (by decide) ?_
          refine lv_icmp_ne (tgt := 70) hx hb d_Rd_readLimits_46 (by decide) (fun _ => ?_) (fun c_20 => absurd c_20 (by decide))
          refine lv_aload_n hx hb d_Rd_readLimits_70 rfl (lv_at hl 1 rfl) ?_
          refine u_get hx hb hts inPc hown hK hV hn 2 rfl rfl 11 (by decide) w_fl_Rd_126 rfl rfl d_Rd_readLimits_71 ?_
          refine lv_iconst (v := (-1)) hx hb d_Rd_readLimits_74 (by decide) ?_
          refine lv_icmp_eq (tgt := 82) hx hb d_Rd_readLimits_75 (by decide) (fun c_21 => absurd c_21 (by decide)) (fun _ => ?_)
          refine lv_iconst (v := 1) hx hb d_Rd_readLimits_78 (by decide) ?_
          refine lv_goto (tgt := 83) hx hb d_Rd_readLimits_79 (by decide) ?_
          have hE : limR t n p = .inr ((v_11, 0), q_14) := by simp [limR, sbd_l, sbd_r, lim1, hq_1, hx_11, hq_14, lq_1, c_2, Nat.not_lt.mpr lq_14]
          exact W.zret (v := 1) hx hb hr (by decide) (v_end hV ⟨by rw [hE]; rfl, ⟨nI v_11, 0, by rw [hE]; rfl, fun z hz9 => by rw [hE] at hz9; cases hz9; exact ⟨rfl, rfl⟩⟩, hz⟩) hV.2.1.2.2 d_Rd_readLimits_83
  · have hV : vS G.1 cls lo s H locs (vU V [(rd, eO 3 [.ref tp, .int (nI n), .int (nI q_1)]), (tp, eI (gB G) 400 f), (pa, eO 1 [.int i0, .int i1, .int i2, .int i3, .int i4, .int i5, .int i6, .ref x1, .ref x2, .ref x3, .int 0, .int 0, .long j8, .int i9, .int i10])]) := hV
    refine W.eq (g2 := F0 mi 4 ls [.int ((-1))]) (by rw [hq_1, rK_out (by omega)]; rfl) ?_
    refine lv_bipush (v := 94) hx hb d_Rd_readLimits_4 (by decide) ?_
    refine lv_icmp_ne (tgt := 40) hx hb d_Rd_readLimits_6 (by decide) (fun _ => ?_) (fun c_22 => absurd c_22 (by decide))
    refine lv_aload_n hx hb d_Rd_readLimits_40 rfl (lv_at hl 0 rfl) ?_
    refine v_call (va_runV (As := []) (rest := []) ⟨hx, hb, hml, hown, hts⟩ (c_Rd_peek l G lo _ _ rd tp f t n q_1 (nd_sub hn [0, 1] (by decide) rfl) hT h4 (by omega)) (kwV 0 hts w_co_Rd_peek rfl rfl w_it_Rd w_ml_Rd_22 w_im_Rd_peek w_se_Rd__Rd_peek (by decide +kernel) ⟨by decide, by decide⟩) (u_preV hK hV hn [0, 1] rfl hz 0 rfl rfl) rfl rfl hl.1 rfl (lv_room (Nat.le_of_ble_eq_true rfl)) d_Rd_readLimits_41 ⟨(Nat.le_of_ble_eq_true rfl), (Nat.le_of_ble_eq_true rfl)⟩) hV (fun r9 V9 H locs hp hV hle => ?_)
    obtain ⟨rfl, rfl, hz⟩ := hp
    replace hV := u_back hV hn [0, 1] rfl
    have hV : vS G.1 cls lo s H locs (vU V [(rd, eO 3 [.ref tp, .int (nI n), .int (nI (sk t n q_1))]), (tp, eI (gB G) 400 f), (pa, eO 1 [.int i0, .int i1, .int i2, .int i3, .int i4, .int i5, .int i6, .ref x1, .ref x2, .ref x3, .int 0, .int 0, .long j8, .int i9, .int i10])]) := hV
    obtain ⟨q_23, hq_23⟩ : ∃ z, sk t n q_1 = z := ⟨_, rfl⟩
    rw [hq_23] at hV
    have bq_23 : q_23 ≤ n := by rw [← hq_23]; exact sk_le (by omega)
    have gq_23 : q_1 ≤ q_23 := by rw [← hq_23]; exact sk_ge t n q_1
    rcases Nat.lt_or_ge q_23 n with lq_23 | lq_23
    · have kq_23 : t q_23 < 256 := (hT q_23 lq_23).1
      have hV : vS G.1 cls lo s H locs (vU V [(rd, eO 3 [.ref tp, .int (nI n), .int (nI q_23)]), (tp, eI (gB G) 400 f), (pa, eO 1 [.int i0, .int i1, .int i2, .int i3, .int i4, .int i5, .int i6, .ref x1, .ref x2, .ref x3, .int 0, .int 0, .long j8, .int i9, .int i10])]) := hV
      refine W.eq (g2 := F0 mi 44 ls [.int (nI (t q_23))]) (by rw [hq_23, rK_in lq_23]; rfl) ?_
      refine lv_bipush (v := 33) hx hb d_Rd_readLimits_44 (by decide) ?_
      refine lv_icmp_ne (tgt := 70) hx hb d_Rd_readLimits_46 (by decide) (fun c_24 => ?_) (fun c_24 => ?_)
      · replace c_24 : ¬ t q_23 = 33 := fun z9 => c_24 ((nI_eq (a := t q_23) (b := 33) (by omega) (by omega)).mpr z9)
        refine lv_aload_n hx hb d_Rd_readLimits_70 rfl (lv_at hl 1 rfl) ?_
        refine u_get hx hb hts inPc hown hK hV hn 2 rfl rfl 11 (by decide) w_fl_Rd_126 rfl rfl d_Rd_readLimits_71 ?_
        refine lv_iconst (v := (-1)) hx hb d_Rd_readLimits_74 (by decide) ?_
        refine lv_icmp_eq (tgt := 82) hx hb d_Rd_readLimits_75 (by decide) (fun c_25 => absurd c_25 (by decide)) (fun _ => ?_)
        refine lv_iconst (v := 1) hx hb d_Rd_readLimits_78 (by decide) ?_
        refine lv_goto (tgt := 83) hx hb d_Rd_readLimits_79 (by decide) ?_
        have hE : limR t n p = .inr ((0, 0), q_23) := by simp [limR, sbd_l, sbd_r, lim1, hq_1, hq_23, Nat.not_lt.mpr lq_1, lq_23, c_24]
        exact W.zret (v := 1) hx hb hr (by decide) (v_end hV ⟨by rw [hE]; rfl, ⟨0, 0, by rw [hE]; rfl, fun z hz9 => by rw [hE] at hz9; cases hz9; exact ⟨rfl, rfl⟩⟩, hz⟩) hV.2.1.2.2 d_Rd_readLimits_83
      · replace c_24 : t q_23 = 33 := (nI_eq (a := t q_23) (b := 33) (by omega) (by omega)).mp c_24
        refine lv_aload_n hx hb d_Rd_readLimits_49 rfl (lv_at hl 0 rfl) ?_
        refine lv_dup hx hb d_Rd_readLimits_50 rfl ?_
        refine u_get hx hb hts inRd hown hK hV hn 0 rfl rfl 2 (by decide) w_fl_Rd_19 rfl rfl d_Rd_readLimits_51 ?_
        refine lv_iconst (v := 1) hx hb d_Rd_readLimits_54 (by decide) ?_
        refine e_iadd (v := nI (q_23 + 1)) hx hb d_Rd_readLimits_55 (nI_add q_23 1) ?_
        refine u_put hx hb hts inRd tyRd tyRd_ok nmRd hown hK hV hn 0 rfl rfl 2 (by decide) w_fl_Rd_19 rfl rfl rfl rfl (Nat.le_of_ble_eq_true rfl) d_Rd_readLimits_56 (fun H locs hV hz9 => ?_)
        have hV : vS G.1 cls lo s H locs (vU V [(rd, eO 3 [.ref tp, .int (nI n), .int (nI (q_23 + 1))]), (tp, eI (gB G) 400 f), (pa, eO 1 [.int i0, .int i1, .int i2, .int i3, .int i4, .int i5, .int i6, .ref x1, .ref x2, .ref x3, .int 0, .int 0, .long j8, .int i9, .int i10])]) := hV
        replace hz := hz9.trans hz
        refine lv_aload_n hx hb d_Rd_readLimits_59 rfl (lv_at hl 1 rfl) ?_
        refine lv_aload_n hx hb d_Rd_readLimits_60 rfl (lv_at hl 0 rfl) ?_
        refine lv_iconst (v := 1) hx hb d_Rd_readLimits_61 (by decide) ?_
        refine lv_bipush (v := 99) hx hb d_Rd_readLimits_62 (by decide) ?_
        refine v_call (va_runV (As := [.int 1, .int 99]) (rest := [.ref pa]) ⟨hx, hb, hml, hown, hts⟩ (c_Rd_readNumber l G lo _ _ rd tp f t n (q_23 + 1) (nd_sub hn [0, 1] (by decide) rfl) hT h4 (by omega) 1 99 (by omega) (by omega)) (kwV 2 hts w_co_Rd_readNumber rfl rfl w_it_Rd w_ml_Rd_61 w_im_Rd_readNumber w_se_Rd__Rd_readNumber (by decide +kernel) ⟨by decide, by decide⟩) (u_preV hK hV hn [0, 1] rfl hz 0 rfl rfl) rfl rfl hl.1 rfl (lv_room (Nat.le_of_ble_eq_true rfl)) d_Rd_readLimits_64 ⟨(Nat.le_of_ble_eq_true rfl), (Nat.le_of_ble_eq_true rfl)⟩) hV (fun r9 V9 H locs hp hV hle => ?_)
        obtain ⟨rfl, rfl, hz⟩ := hp
        replace hV := u_back hV hn [0, 1] rfl
        have hV : vS G.1 cls lo s H locs (vU V [(rd, eO 3 [.ref tp, .int (nI n), .int (nI (rP (num t n 1 99 (q_23 + 1))))]), (tp, eI (gB G) 400 f), (pa, eO 1 [.int i0, .int i1, .int i2, .int i3, .int i4, .int i5, .int i6, .ref x1, .ref x2, .ref x3, .int 0, .int 0, .long j8, .int i9, .int i10])]) := hV
        obtain ⟨x_26, hx_26⟩ : ∃ z, num t n 1 99 (q_23 + 1) = z := ⟨_, rfl⟩
        rw [hx_26] at hV
        rcases x_26 with e_26 | ⟨v_26, q_26⟩
        · have be_26 : e_26 ≤ n := num_er hx_26 (by omega)
          have hV : vS G.1 cls lo s H locs (vU V [(rd, eO 3 [.ref tp, .int (nI n), .int (nI e_26)]), (tp, eI (gB G) 400 f), (pa, eO 1 [.int i0, .int i1, .int i2, .int i3, .int i4, .int i5, .int i6, .ref x1, .ref x2, .ref x3, .int 0, .int 0, .long j8, .int i9, .int i10])]) := hV
          refine W.eq (g2 := F0 mi 67 ls [.int ((-1)), .ref pa]) (by rw [hx_26]; rfl) ?_
          refine u_put hx hb hts inPc tyPc tyPc_ok nmPc hown hK hV hn 2 rfl rfl 11 (by decide) w_fl_Rd_126 rfl rfl rfl rfl (Nat.le_of_ble_eq_true rfl) d_Rd_readLimits_67 (fun H locs hV hz9 => ?_)
          have hV : vS G.1 cls lo s H locs (vU V [(rd, eO 3 [.ref tp, .int (nI n), .int (nI e_26)]), (tp, eI (gB G) 400 f), (pa, eO 1 [.int i0, .int i1, .int i2, .int i3, .int i4, .int i5, .int i6, .ref x1, .ref x2, .ref x3, .int 0, .int ((-1)), .long j8, .int i9, .int i10])]) := hV
          replace hz := hz9.trans hz
          refine lv_aload_n hx hb d_Rd_readLimits_70 rfl (lv_at hl 1 rfl) ?_
          refine u_get hx hb hts inPc hown hK hV hn 2 rfl rfl 11 (by decide) w_fl_Rd_126 rfl rfl d_Rd_readLimits_71 ?_
          refine lv_iconst (v := (-1)) hx hb d_Rd_readLimits_74 (by decide) ?_
          refine lv_icmp_eq (tgt := 82) hx hb d_Rd_readLimits_75 (by decide) (fun _ => ?_) (fun c_27 => absurd c_27 (by decide))
          refine lv_iconst (v := 0) hx hb d_Rd_readLimits_82 (by decide) ?_
          have hE : limR t n p = .inl e_26 := by simp [limR, sbd_l, sbd_r, lim1, hq_1, hq_23, hx_26, Nat.not_lt.mpr lq_1, lq_23, c_24]
          exact W.zret (v := 0) hx hb hr (by decide) (v_end hV ⟨by rw [hE]; rfl, ⟨0, (-1), by rw [hE]; rfl, fun z hz9 => by rw [hE] at hz9; cases hz9⟩, hz⟩) hV.2.1.2.2 d_Rd_readLimits_83
        · obtain ⟨lv_26, uv_26, gq_26, bq_26⟩ := num_ok hx_26 (by omega)
          have hV : vS G.1 cls lo s H locs (vU V [(rd, eO 3 [.ref tp, .int (nI n), .int (nI q_26)]), (tp, eI (gB G) 400 f), (pa, eO 1 [.int i0, .int i1, .int i2, .int i3, .int i4, .int i5, .int i6, .ref x1, .ref x2, .ref x3, .int 0, .int 0, .long j8, .int i9, .int i10])]) := hV
          refine W.eq (g2 := F0 mi 67 ls [.int (nI v_26), .ref pa]) (by rw [hx_26]; rfl) ?_
          refine u_put hx hb hts inPc tyPc tyPc_ok nmPc hown hK hV hn 2 rfl rfl 11 (by decide) w_fl_Rd_126 rfl rfl rfl rfl (Nat.le_of_ble_eq_true rfl) d_Rd_readLimits_67 (fun H locs hV hz9 => ?_)
          have hV : vS G.1 cls lo s H locs (vU V [(rd, eO 3 [.ref tp, .int (nI n), .int (nI q_26)]), (tp, eI (gB G) 400 f), (pa, eO 1 [.int i0, .int i1, .int i2, .int i3, .int i4, .int i5, .int i6, .ref x1, .ref x2, .ref x3, .int 0, .int (nI v_26), .long j8, .int i9, .int i10])]) := hV
          replace hz := hz9.trans hz
          refine lv_aload_n hx hb d_Rd_readLimits_70 rfl (lv_at hl 1 rfl) ?_
          refine u_get hx hb hts inPc hown hK hV hn 2 rfl rfl 11 (by decide) w_fl_Rd_126 rfl rfl d_Rd_readLimits_71 ?_
          refine lv_iconst (v := (-1)) hx hb d_Rd_readLimits_74 (by decide) ?_
          refine lv_icmp_eq (tgt := 82) hx hb d_Rd_readLimits_75 (by decide) (fun c_28 => absurd c_28 (nI_nem (by omega))) (fun _ => ?_)
          refine lv_iconst (v := 1) hx hb d_Rd_readLimits_78 (by decide) ?_
          refine lv_goto (tgt := 83) hx hb d_Rd_readLimits_79 (by decide) ?_
          have hE : limR t n p = .inr ((0, v_26), q_26) := by simp [limR, sbd_l, sbd_r, lim1, hq_1, hq_23, hx_26, Nat.not_lt.mpr lq_1, lq_23, c_24]
          exact W.zret (v := 1) hx hb hr (by decide) (v_end hV ⟨by rw [hE]; rfl, ⟨0, nI v_26, by rw [hE]; rfl, fun z hz9 => by rw [hE] at hz9; cases hz9; exact ⟨rfl, rfl⟩⟩, hz⟩) hV.2.1.2.2 d_Rd_readLimits_83
    · have hV : vS G.1 cls lo s H locs (vU V [(rd, eO 3 [.ref tp, .int (nI n), .int (nI q_23)]), (tp, eI (gB G) 400 f), (pa, eO 1 [.int i0, .int i1, .int i2, .int i3, .int i4, .int i5, .int i6, .ref x1, .ref x2, .ref x3, .int 0, .int 0, .long j8, .int i9, .int i10])]) := hV
      refine W.eq (g2 := F0 mi 44 ls [.int ((-1))]) (by rw [hq_23, rK_out (by omega)]; rfl) ?_
      refine lv_bipush (v := 33) hx hb d_Rd_readLimits_44 (by decide) ?_
      refine lv_icmp_ne (tgt := 70) hx hb d_Rd_readLimits_46 (by decide) (fun _ => ?_) (fun c_29 => absurd c_29 (by decide))
      refine lv_aload_n hx hb d_Rd_readLimits_70 rfl (lv_at hl 1 rfl) ?_
      refine u_get hx hb hts inPc hown hK hV hn 2 rfl rfl 11 (by decide) w_fl_Rd_126 rfl rfl d_Rd_readLimits_71 ?_
      refine lv_iconst (v := (-1)) hx hb d_Rd_readLimits_74 (by decide) ?_
      refine lv_icmp_eq (tgt := 82) hx hb d_Rd_readLimits_75 (by decide) (fun c_30 => absurd c_30 (by decide)) (fun _ => ?_)
      refine lv_iconst (v := 1) hx hb d_Rd_readLimits_78 (by decide) ?_
      refine lv_goto (tgt := 83) hx hb d_Rd_readLimits_79 (by decide) ?_
      have hE : limR t n p = .inr ((0, 0), q_23) := by simp [limR, sbd_l, sbd_r, lim1, hq_1, hq_23, Nat.not_lt.mpr lq_1, Nat.not_lt.mpr lq_23]
      exact W.zret (v := 1) hx hb hr (by decide) (v_end hV ⟨by rw [hE]; rfl, ⟨0, 0, by rw [hE]; rfl, fun z hz9 => by rw [hE] at hz9; cases hz9; exact ⟨rfl, rfl⟩⟩, hz⟩) hV.2.1.2.2 d_Rd_readLimits_83

set_option maxHeartbeats 4000000 in
set_option maxRecDepth 100000 in
/-- Reader.readNodes -/
theorem c_Rd_readNodes (l : Launch) (G : Gx) (lo : Nat) (V : Vw) (sz : Nat) (rd tp : Nat) (f : Nat → Int32) (t : Nat → Nat) (n p : Nat) (pa x1 x2 x3 : Nat) (i3 i4 i5 i6 i7 i8 i9 i10 : Int32) (j8 : Int64) (hn : [rd, tp, pa].Nodup) (hT : tpOk f t n) (h4 : n ≤ 400) (hp : p ≤ n) : Met l y_Rd_readNodes ws_Rd_readNodes ({ frames := 2, cells := 0, slots := 0, locals := 60 } : Room) (vPre G lo [.ref rd, .ref pa] (vU V [(rd, eO 3 [.ref tp, .int (nI n), .int (nI p)]), (tp, eI (gB G) 400 f), (pa, eO 1 [.int 0, .int 0, .int 0, .int i3, .int i4, .int i5, .int i6, .ref x1, .ref x2, .ref x3, .int i7, .int i8, .long j8, .int i9, .int i10])]) sz) (vPost G lo (fun r V' k => r = some (.int (rB (nodesR t n p))) ∧ (∃ y1 y2 y3 : Int32, V' = vU V [(rd, eO 3 [.ref tp, .int (nI n), .int (nI (sR (nodesR t n p)))]), (tp, eI (gB G) 400 f), (pa, eO 1 [.int y1, .int y2, .int y3, .int i3, .int i4, .int i5, .int i6, .ref x1, .ref x2, .ref x3, .int i7, .int i8, .long j8, .int i9, .int i10])] ∧ ∀ z, nodesR t n p = .inr z → y1 = nI z.1.1 ∧ y2 = nI z.1.2.2 ∧ y3 = b2i z.1.2.1) ∧ k = sz)) 0 0 (vL lo) := by
  refine vMet (R := RRd) (by decide) rfl (Nat.le_of_ble_eq_true rfl) ?_
  intro pg ev s mi args below meth cd hx hb hr hml hlk hnm hts hown hK hz hV ls hl
  have hl : lv_has ls 2 [(0, .ref rd), (1, .ref pa)] := hl
  have hV0 := hV
  obtain ⟨H, hH⟩ : ∃ H, H = s.heap := ⟨_, rfl⟩
  obtain ⟨locs, hlocs⟩ : ∃ locs : List Loc, locs = [] := ⟨_, rfl⟩
  rw [← hH, ← hlocs]
  rw [← hH] at hz
  replace hV : vS G.1 cls lo s H locs (vU V [(rd, eO 3 [.ref tp, .int (nI n), .int (nI p)]), (tp, eI (gB G) 400 f), (pa, eO 1 [.int 0, .int 0, .int 0, .int i3, .int i4, .int i5, .int i6, .ref x1, .ref x2, .ref x3, .int i7, .int i8, .long j8, .int i9, .int i10])]) := by rw [hH, hlocs]; exact hV
  clear hH hlocs hV0
  refine lv_aload_n hx hb d_Rd_readNodes_0 rfl (lv_at hl 1 rfl) ?_
  refine lv_aload_n hx hb d_Rd_readNodes_1 rfl (lv_at hl 0 rfl) ?_
  refine lv_iconst (v := 1) hx hb d_Rd_readNodes_2 (by decide) ?_
  refine lv_bipush (v := 40) hx hb d_Rd_readNodes_3 (by decide) ?_
  refine v_call (va_runV (As := [.int 1, .int 40]) (rest := [.ref pa]) ⟨hx, hb, hml, hown, hts⟩ (c_Rd_readNumber l G lo _ _ rd tp f t n p (nd_sub hn [0, 1] (by decide) rfl) hT h4 (by omega) 1 40 (by omega) (by omega)) (kwV 2 hts w_co_Rd_readNumber rfl rfl w_it_Rd w_ml_Rd_61 w_im_Rd_readNumber w_se_Rd__Rd_readNumber (by decide +kernel) ⟨by decide, by decide⟩) (u_preV hK hV hn [0, 1] rfl hz 0 rfl rfl) rfl rfl hl.1 rfl (lv_room (Nat.le_of_ble_eq_true rfl)) d_Rd_readNodes_5 ⟨(Nat.le_of_ble_eq_true rfl), (Nat.le_of_ble_eq_true rfl)⟩) hV (fun r9 V9 H locs hp hV hle => ?_)
  obtain ⟨rfl, rfl, hz⟩ := hp
  replace hV := u_back hV hn [0, 1] rfl
  have hV : vS G.1 cls lo s H locs (vU V [(rd, eO 3 [.ref tp, .int (nI n), .int (nI (rP (num t n 1 40 p)))]), (tp, eI (gB G) 400 f), (pa, eO 1 [.int 0, .int 0, .int 0, .int i3, .int i4, .int i5, .int i6, .ref x1, .ref x2, .ref x3, .int i7, .int i8, .long j8, .int i9, .int i10])]) := hV
  obtain ⟨x_1, hx_1⟩ : ∃ z, num t n 1 40 p = z := ⟨_, rfl⟩
  rw [hx_1] at hV
  rcases x_1 with e_1 | ⟨v_1, q_1⟩
  · have be_1 : e_1 ≤ n := num_er hx_1 (by omega)
    have hV : vS G.1 cls lo s H locs (vU V [(rd, eO 3 [.ref tp, .int (nI n), .int (nI e_1)]), (tp, eI (gB G) 400 f), (pa, eO 1 [.int 0, .int 0, .int 0, .int i3, .int i4, .int i5, .int i6, .ref x1, .ref x2, .ref x3, .int i7, .int i8, .long j8, .int i9, .int i10])]) := hV
    refine W.eq (g2 := F0 mi 8 ls [.int ((-1)), .ref pa]) (by rw [hx_1]; rfl) ?_
    refine u_put hx hb hts inPc tyPc tyPc_ok nmPc hown hK hV hn 2 rfl rfl 0 (by decide) w_fl_Rd_88 rfl rfl rfl rfl (Nat.le_of_ble_eq_true rfl) d_Rd_readNodes_8 (fun H locs hV hz9 => ?_)
    have hV : vS G.1 cls lo s H locs (vU V [(rd, eO 3 [.ref tp, .int (nI n), .int (nI e_1)]), (tp, eI (gB G) 400 f), (pa, eO 1 [.int ((-1)), .int 0, .int 0, .int i3, .int i4, .int i5, .int i6, .ref x1, .ref x2, .ref x3, .int i7, .int i8, .long j8, .int i9, .int i10])]) := hV
    replace hz := hz9.trans hz
    refine lv_aload_n hx hb d_Rd_readNodes_11 rfl (lv_at hl 1 rfl) ?_
    refine u_get hx hb hts inPc hown hK hV hn 2 rfl rfl 0 (by decide) w_fl_Rd_88 rfl rfl d_Rd_readNodes_12 ?_
    refine lv_iconst (v := (-1)) hx hb d_Rd_readNodes_15 (by decide) ?_
    refine lv_icmp_ne (tgt := 21) hx hb d_Rd_readNodes_16 (by decide) (fun c_2 => absurd c_2 (by decide)) (fun _ => ?_)
    refine lv_iconst (v := 0) hx hb d_Rd_readNodes_19 (by decide) ?_
    have hE : nodesR t n p = .inl e_1 := by simp [nodesR, sbd_l, sbd_r, hx_1]
    exact W.zret (v := 0) hx hb hr (by decide) (v_end hV ⟨by rw [hE]; rfl, ⟨(-1), 0, 0, by rw [hE]; rfl, fun z hz9 => by rw [hE] at hz9; cases hz9⟩, hz⟩) hV.2.1.2.2 d_Rd_readNodes_20
  · obtain ⟨lv_1, uv_1, gq_1, bq_1⟩ := num_ok hx_1 (by omega)
    have hV : vS G.1 cls lo s H locs (vU V [(rd, eO 3 [.ref tp, .int (nI n), .int (nI q_1)]), (tp, eI (gB G) 400 f), (pa, eO 1 [.int 0, .int 0, .int 0, .int i3, .int i4, .int i5, .int i6, .ref x1, .ref x2, .ref x3, .int i7, .int i8, .long j8, .int i9, .int i10])]) := hV
    refine W.eq (g2 := F0 mi 8 ls [.int (nI v_1), .ref pa]) (by rw [hx_1]; rfl) ?_
    refine u_put hx hb hts inPc tyPc tyPc_ok nmPc hown hK hV hn 2 rfl rfl 0 (by decide) w_fl_Rd_88 rfl rfl rfl rfl (Nat.le_of_ble_eq_true rfl) d_Rd_readNodes_8 (fun H locs hV hz9 => ?_)
    have hV : vS G.1 cls lo s H locs (vU V [(rd, eO 3 [.ref tp, .int (nI n), .int (nI q_1)]), (tp, eI (gB G) 400 f), (pa, eO 1 [.int (nI v_1), .int 0, .int 0, .int i3, .int i4, .int i5, .int i6, .ref x1, .ref x2, .ref x3, .int i7, .int i8, .long j8, .int i9, .int i10])]) := hV
    replace hz := hz9.trans hz
    refine lv_aload_n hx hb d_Rd_readNodes_11 rfl (lv_at hl 1 rfl) ?_
    refine u_get hx hb hts inPc hown hK hV hn 2 rfl rfl 0 (by decide) w_fl_Rd_88 rfl rfl d_Rd_readNodes_12 ?_
    refine lv_iconst (v := (-1)) hx hb d_Rd_readNodes_15 (by decide) ?_
    refine lv_icmp_ne (tgt := 21) hx hb d_Rd_readNodes_16 (by decide) (fun _ => ?_) (fun c_3 => absurd c_3 (nI_nem (by omega)))
    refine lv_aload_n hx hb d_Rd_readNodes_21 rfl (lv_at hl 1 rfl) ?_
    refine lv_aload_n hx hb d_Rd_readNodes_22 rfl (lv_at hl 0 rfl) ?_
    refine v_call (va_runV (As := []) (rest := [.ref pa]) ⟨hx, hb, hml, hown, hts⟩ (c_Rd_peek l G lo _ _ rd tp f t n q_1 (nd_sub hn [0, 1] (by decide) rfl) hT h4 (by omega)) (kwV 0 hts w_co_Rd_peek rfl rfl w_it_Rd w_ml_Rd_22 w_im_Rd_peek w_se_Rd__Rd_peek (by decide +kernel) ⟨by decide, by decide⟩) (u_preV hK hV hn [0, 1] rfl hz 0 rfl rfl) rfl rfl hl.1 rfl (lv_room (Nat.le_of_ble_eq_true rfl)) d_Rd_readNodes_23 ⟨(Nat.le_of_ble_eq_true rfl), (Nat.le_of_ble_eq_true rfl)⟩) hV (fun r9 V9 H locs hp hV hle => ?_)
    obtain ⟨rfl, rfl, hz⟩ := hp
    replace hV := u_back hV hn [0, 1] rfl
    have hV : vS G.1 cls lo s H locs (vU V [(rd, eO 3 [.ref tp, .int (nI n), .int (nI (sk t n q_1))]), (tp, eI (gB G) 400 f), (pa, eO 1 [.int (nI v_1), .int 0, .int 0, .int i3, .int i4, .int i5, .int i6, .ref x1, .ref x2, .ref x3, .int i7, .int i8, .long j8, .int i9, .int i10])]) := hV
    obtain ⟨q_4, hq_4⟩ : ∃ z, sk t n q_1 = z := ⟨_, rfl⟩
    rw [hq_4] at hV
    have bq_4 : q_4 ≤ n := by rw [← hq_4]; exact sk_le (by omega)
    have gq_4 : q_1 ≤ q_4 := by rw [← hq_4]; exact sk_ge t n q_1
    rcases Nat.lt_or_ge q_4 n with lq_4 | lq_4
    · have kq_4 : t q_4 < 256 := (hT q_4 lq_4).1
      have hV : vS G.1 cls lo s H locs (vU V [(rd, eO 3 [.ref tp, .int (nI n), .int (nI q_4)]), (tp, eI (gB G) 400 f), (pa, eO 1 [.int (nI v_1), .int 0, .int 0, .int i3, .int i4, .int i5, .int i6, .ref x1, .ref x2, .ref x3, .int i7, .int i8, .long j8, .int i9, .int i10])]) := hV
      refine W.eq (g2 := F0 mi 26 ls [.int (nI (t q_4)), .ref pa]) (by rw [hq_4, rK_in lq_4]; rfl) ?_
      refine lv_bipush (v := 62) hx hb d_Rd_readNodes_26 (by decide) ?_
      refine lv_icmp_ne (tgt := 35) hx hb d_Rd_readNodes_28 (by decide) (fun c_5 => ?_) (fun c_5 => ?_)
      · replace c_5 : ¬ t q_4 = 62 := fun z9 => c_5 ((nI_eq (a := t q_4) (b := 62) (by omega) (by omega)).mpr z9)
        refine lv_iconst (v := 0) hx hb d_Rd_readNodes_35 (by decide) ?_
        refine u_put hx hb hts inPc tyPc tyPc_ok nmPc hown hK hV hn 2 rfl rfl 2 (by decide) w_fl_Rd_91 rfl rfl rfl rfl (Nat.le_of_ble_eq_true rfl) d_Rd_readNodes_36 (fun H locs hV hz9 => ?_)
        have hV : vS G.1 cls lo s H locs (vU V [(rd, eO 3 [.ref tp, .int (nI n), .int (nI q_4)]), (tp, eI (gB G) 400 f), (pa, eO 1 [.int (nI v_1), .int 0, .int 0, .int i3, .int i4, .int i5, .int i6, .ref x1, .ref x2, .ref x3, .int i7, .int i8, .long j8, .int i9, .int i10])]) := hV
        replace hz := hz9.trans hz
        refine lv_aload_n hx hb d_Rd_readNodes_39 rfl (lv_at hl 0 rfl) ?_
        refine lv_aload_n hx hb d_Rd_readNodes_40 rfl (lv_at hl 1 rfl) ?_
        refine u_get hx hb hts inPc hown hK hV hn 2 rfl rfl 2 (by decide) w_fl_Rd_91 rfl rfl d_Rd_readNodes_41 ?_
        refine lv_if_eq (tgt := 52) hx hb d_Rd_readNodes_44 (by decide) (fun _ => ?_) (fun c_6 => absurd c_6 (by decide))
        refine lv_bipush (v := 45) hx hb d_Rd_readNodes_52 (by decide) ?_
        refine v_call (va_runV (As := [.int 45]) (rest := []) ⟨hx, hb, hml, hown, hts⟩ (c_Rd_take l G lo _ _ rd tp f t n q_4 (nd_sub hn [0, 1] (by decide) rfl) hT h4 (by omega) 45 (by decide)) (kwV 1 hts w_co_Rd_take rfl rfl w_it_Rd w_ml_Rd_30 w_im_Rd_take w_se_Rd__Rd_take (by decide +kernel) ⟨by decide, by decide⟩) (u_preV hK hV hn [0, 1] rfl hz 0 rfl rfl) rfl rfl hl.1 rfl (lv_room (Nat.le_of_ble_eq_true rfl)) d_Rd_readNodes_54 ⟨(Nat.le_of_ble_eq_true rfl), (Nat.le_of_ble_eq_true rfl)⟩) hV (fun r9 V9 H locs hp hV hle => ?_)
        obtain ⟨rfl, rfl, hz⟩ := hp
        replace hV := u_back hV hn [0, 1] rfl
        have hV : vS G.1 cls lo s H locs (vU V [(rd, eO 3 [.ref tp, .int (nI n), .int (nI (rQ (tk t n 45 q_4)))]), (tp, eI (gB G) 400 f), (pa, eO 1 [.int (nI v_1), .int 0, .int 0, .int i3, .int i4, .int i5, .int i6, .ref x1, .ref x2, .ref x3, .int i7, .int i8, .long j8, .int i9, .int i10])]) := hV
        obtain ⟨x_7, hx_7⟩ : ∃ z, tk t n 45 q_4 = z := ⟨_, rfl⟩
        rw [hx_7] at hV
        rcases x_7 with e_7 | q_7
        · have be_7 : e_7 ≤ n := tk_er hx_7 (by omega)
          have hV : vS G.1 cls lo s H locs (vU V [(rd, eO 3 [.ref tp, .int (nI n), .int (nI e_7)]), (tp, eI (gB G) 400 f), (pa, eO 1 [.int (nI v_1), .int 0, .int 0, .int i3, .int i4, .int i5, .int i6, .ref x1, .ref x2, .ref x3, .int i7, .int i8, .long j8, .int i9, .int i10])]) := hV
          refine W.eq (g2 := F0 mi 57 ls [.int 0]) (by rw [hx_7]; rfl) ?_
          refine lv_if_ne (tgt := 62) hx hb d_Rd_readNodes_57 (by decide) (fun c_8 => absurd c_8 (by decide)) (fun _ => ?_)
          refine lv_iconst (v := 0) hx hb d_Rd_readNodes_60 (by decide) ?_
          have hE : nodesR t n p = .inl e_7 := by simp [nodesR, sbd_l, sbd_r, hx_1, hq_4, hx_7, lq_4, c_5]
          exact W.zret (v := 0) hx hb hr (by decide) (v_end hV ⟨by rw [hE]; rfl, ⟨nI v_1, 0, 0, by rw [hE]; rfl, fun z hz9 => by rw [hE] at hz9; cases hz9⟩, hz⟩) hV.2.1.2.2 d_Rd_readNodes_61
        · obtain ⟨gq_7, bq_7⟩ := tk_ok hx_7
          have hV : vS G.1 cls lo s H locs (vU V [(rd, eO 3 [.ref tp, .int (nI n), .int (nI q_7)]), (tp, eI (gB G) 400 f), (pa, eO 1 [.int (nI v_1), .int 0, .int 0, .int i3, .int i4, .int i5, .int i6, .ref x1, .ref x2, .ref x3, .int i7, .int i8, .long j8, .int i9, .int i10])]) := hV
          refine W.eq (g2 := F0 mi 57 ls [.int 1]) (by rw [hx_7]; rfl) ?_
          refine lv_if_ne (tgt := 62) hx hb d_Rd_readNodes_57 (by decide) (fun _ => ?_) (fun c_9 => absurd c_9 (by decide))
          refine lv_aload_n hx hb d_Rd_readNodes_62 rfl (lv_at hl 1 rfl) ?_
          refine lv_aload_n hx hb d_Rd_readNodes_63 rfl (lv_at hl 0 rfl) ?_
          refine lv_iconst (v := 1) hx hb d_Rd_readNodes_64 (by decide) ?_
          refine lv_bipush (v := 40) hx hb d_Rd_readNodes_65 (by decide) ?_
          refine v_call (va_runV (As := [.int 1, .int 40]) (rest := [.ref pa]) ⟨hx, hb, hml, hown, hts⟩ (c_Rd_readNumber l G lo _ _ rd tp f t n q_7 (nd_sub hn [0, 1] (by decide) rfl) hT h4 (by omega) 1 40 (by omega) (by omega)) (kwV 2 hts w_co_Rd_readNumber rfl rfl w_it_Rd w_ml_Rd_61 w_im_Rd_readNumber w_se_Rd__Rd_readNumber (by decide +kernel) ⟨by decide, by decide⟩) (u_preV hK hV hn [0, 1] rfl hz 0 rfl rfl) rfl rfl hl.1 rfl (lv_room (Nat.le_of_ble_eq_true rfl)) d_Rd_readNodes_67 ⟨(Nat.le_of_ble_eq_true rfl), (Nat.le_of_ble_eq_true rfl)⟩) hV (fun r9 V9 H locs hp hV hle => ?_)
          obtain ⟨rfl, rfl, hz⟩ := hp
          replace hV := u_back hV hn [0, 1] rfl
          have hV : vS G.1 cls lo s H locs (vU V [(rd, eO 3 [.ref tp, .int (nI n), .int (nI (rP (num t n 1 40 q_7)))]), (tp, eI (gB G) 400 f), (pa, eO 1 [.int (nI v_1), .int 0, .int 0, .int i3, .int i4, .int i5, .int i6, .ref x1, .ref x2, .ref x3, .int i7, .int i8, .long j8, .int i9, .int i10])]) := hV
          obtain ⟨x_10, hx_10⟩ : ∃ z, num t n 1 40 q_7 = z := ⟨_, rfl⟩
          rw [hx_10] at hV
          rcases x_10 with e_10 | ⟨v_10, q_10⟩
          · have be_10 : e_10 ≤ n := num_er hx_10 (by omega)
            have hV : vS G.1 cls lo s H locs (vU V [(rd, eO 3 [.ref tp, .int (nI n), .int (nI e_10)]), (tp, eI (gB G) 400 f), (pa, eO 1 [.int (nI v_1), .int 0, .int 0, .int i3, .int i4, .int i5, .int i6, .ref x1, .ref x2, .ref x3, .int i7, .int i8, .long j8, .int i9, .int i10])]) := hV
            refine W.eq (g2 := F0 mi 70 ls [.int ((-1)), .ref pa]) (by rw [hx_10]; rfl) ?_
            refine u_put hx hb hts inPc tyPc tyPc_ok nmPc hown hK hV hn 2 rfl rfl 1 (by decide) w_fl_Rd_95 rfl rfl rfl rfl (Nat.le_of_ble_eq_true rfl) d_Rd_readNodes_70 (fun H locs hV hz9 => ?_)
            have hV : vS G.1 cls lo s H locs (vU V [(rd, eO 3 [.ref tp, .int (nI n), .int (nI e_10)]), (tp, eI (gB G) 400 f), (pa, eO 1 [.int (nI v_1), .int ((-1)), .int 0, .int i3, .int i4, .int i5, .int i6, .ref x1, .ref x2, .ref x3, .int i7, .int i8, .long j8, .int i9, .int i10])]) := hV
            replace hz := hz9.trans hz
            refine lv_aload_n hx hb d_Rd_readNodes_73 rfl (lv_at hl 1 rfl) ?_
            refine u_get hx hb hts inPc hown hK hV hn 2 rfl rfl 1 (by decide) w_fl_Rd_95 rfl rfl d_Rd_readNodes_74 ?_
            refine lv_aload_n hx hb d_Rd_readNodes_77 rfl (lv_at hl 1 rfl) ?_
            refine u_get hx hb hts inPc hown hK hV hn 2 rfl rfl 0 (by decide) w_fl_Rd_88 rfl rfl d_Rd_readNodes_78 ?_
            refine lv_icmp_ne (tgt := 96) hx hb d_Rd_readNodes_81 (by decide) (fun _ => ?_) (fun c_11 => absurd c_11.symm (nI_nem (by omega)))
            refine lv_aload_n hx hb d_Rd_readNodes_96 rfl (lv_at hl 1 rfl) ?_
            refine u_get hx hb hts inPc hown hK hV hn 2 rfl rfl 1 (by decide) w_fl_Rd_95 rfl rfl d_Rd_readNodes_97 ?_
            refine lv_iconst (v := (-1)) hx hb d_Rd_readNodes_100 (by decide) ?_
            refine lv_icmp_eq (tgt := 108) hx hb d_Rd_readNodes_101 (by decide) (fun _ => ?_) (fun c_12 => absurd c_12 (by decide))
            refine lv_iconst (v := 0) hx hb d_Rd_readNodes_108 (by decide) ?_
            have hE : nodesR t n p = .inl e_10 := by simp [nodesR, sbd_l, sbd_r, hx_1, hq_4, hx_7, hx_10, lq_4, c_5]
            exact W.zret (v := 0) hx hb hr (by decide) (v_end hV ⟨by rw [hE]; rfl, ⟨nI v_1, (-1), 0, by rw [hE]; rfl, fun z hz9 => by rw [hE] at hz9; cases hz9⟩, hz⟩) hV.2.1.2.2 d_Rd_readNodes_109
          · obtain ⟨lv_10, uv_10, gq_10, bq_10⟩ := num_ok hx_10 (by omega)
            have hV : vS G.1 cls lo s H locs (vU V [(rd, eO 3 [.ref tp, .int (nI n), .int (nI q_10)]), (tp, eI (gB G) 400 f), (pa, eO 1 [.int (nI v_1), .int 0, .int 0, .int i3, .int i4, .int i5, .int i6, .ref x1, .ref x2, .ref x3, .int i7, .int i8, .long j8, .int i9, .int i10])]) := hV
            refine W.eq (g2 := F0 mi 70 ls [.int (nI v_10), .ref pa]) (by rw [hx_10]; rfl) ?_
            refine u_put hx hb hts inPc tyPc tyPc_ok nmPc hown hK hV hn 2 rfl rfl 1 (by decide) w_fl_Rd_95 rfl rfl rfl rfl (Nat.le_of_ble_eq_true rfl) d_Rd_readNodes_70 (fun H locs hV hz9 => ?_)
            have hV : vS G.1 cls lo s H locs (vU V [(rd, eO 3 [.ref tp, .int (nI n), .int (nI q_10)]), (tp, eI (gB G) 400 f), (pa, eO 1 [.int (nI v_1), .int (nI v_10), .int 0, .int i3, .int i4, .int i5, .int i6, .ref x1, .ref x2, .ref x3, .int i7, .int i8, .long j8, .int i9, .int i10])]) := hV
            replace hz := hz9.trans hz
            refine lv_aload_n hx hb d_Rd_readNodes_73 rfl (lv_at hl 1 rfl) ?_
            refine u_get hx hb hts inPc hown hK hV hn 2 rfl rfl 1 (by decide) w_fl_Rd_95 rfl rfl d_Rd_readNodes_74 ?_
            refine lv_aload_n hx hb d_Rd_readNodes_77 rfl (lv_at hl 1 rfl) ?_
            refine u_get hx hb hts inPc hown hK hV hn 2 rfl rfl 0 (by decide) w_fl_Rd_88 rfl rfl d_Rd_readNodes_78 ?_
            refine lv_icmp_ne (tgt := 96) hx hb d_Rd_readNodes_81 (by decide) (fun c_13 => ?_) (fun c_13 => ?_)
            · replace c_13 : ¬ v_10 = v_1 := fun z9 => c_13 ((nI_eq (a := v_10) (b := v_1) (by omega) (by omega)).mpr z9)
              refine lv_aload_n hx hb d_Rd_readNodes_96 rfl (lv_at hl 1 rfl) ?_
              refine u_get hx hb hts inPc hown hK hV hn 2 rfl rfl 1 (by decide) w_fl_Rd_95 rfl rfl d_Rd_readNodes_97 ?_
              refine lv_iconst (v := (-1)) hx hb d_Rd_readNodes_100 (by decide) ?_
              refine lv_icmp_eq (tgt := 108) hx hb d_Rd_readNodes_101 (by decide) (fun c_14 => absurd c_14 (nI_nem (by omega))) (fun _ => ?_)
              refine lv_iconst (v := 1) hx hb d_Rd_readNodes_104 (by decide) ?_
              refine lv_goto (tgt := 109) hx hb d_Rd_readNodes_105 (by decide) ?_
              have hE : nodesR t n p = .inr ((v_1, false, v_10), q_10) := by simp [nodesR, sbd_l, sbd_r, hx_1, hq_4, hx_7, hx_10, lq_4, c_5, c_13]
              exact W.zret (v := 1) hx hb hr (by decide) (v_end hV ⟨by rw [hE]; rfl, ⟨nI v_1, nI v_10, 0, by rw [hE]; rfl, fun z hz9 => by rw [hE] at hz9; cases hz9; exact ⟨rfl, rfl, rfl⟩⟩, hz⟩) hV.2.1.2.2 d_Rd_readNodes_109
            · replace c_13 : v_10 = v_1 := (nI_eq (a := v_10) (b := v_1) (by omega) (by omega)).mp c_13
              refine lv_aload_n hx hb d_Rd_readNodes_84 rfl (lv_at hl 0 rfl) ?_
              refine lv_dup hx hb d_Rd_readNodes_85 rfl ?_
              refine u_get hx hb hts inRd hown hK hV hn 0 rfl rfl 2 (by decide) w_fl_Rd_19 rfl rfl d_Rd_readNodes_86 ?_
              refine lv_iconst (v := 1) hx hb d_Rd_readNodes_89 (by decide) ?_
              refine e_isub (v := nI (q_10 - 1)) hx hb d_Rd_readNodes_90 (pk_sub (a := q_10) (b := 1) (by omega)) ?_
              refine u_put hx hb hts inRd tyRd tyRd_ok nmRd hown hK hV hn 0 rfl rfl 2 (by decide) w_fl_Rd_19 rfl rfl rfl rfl (Nat.le_of_ble_eq_true rfl) d_Rd_readNodes_91 (fun H locs hV hz9 => ?_)
              have hV : vS G.1 cls lo s H locs (vU V [(rd, eO 3 [.ref tp, .int (nI n), .int (nI (q_10 - 1))]), (tp, eI (gB G) 400 f), (pa, eO 1 [.int (nI v_1), .int (nI v_10), .int 0, .int i3, .int i4, .int i5, .int i6, .ref x1, .ref x2, .ref x3, .int i7, .int i8, .long j8, .int i9, .int i10])]) := hV
              replace hz := hz9.trans hz
              refine lv_iconst (v := 0) hx hb d_Rd_readNodes_94 (by decide) ?_
              have hE : nodesR t n p = .inl (q_10 - 1) := by simp [nodesR, sbd_l, sbd_r, hx_1, hq_4, hx_7, hx_10, lq_4, c_5, c_13]
              exact W.zret (v := 0) hx hb hr (by decide) (v_end hV ⟨by rw [hE]; rfl, ⟨nI v_1, nI v_10, 0, by rw [hE]; rfl, fun z hz9 => by rw [hE] at hz9; cases hz9⟩, hz⟩) hV.2.1.2.2 d_Rd_readNodes_95
      · replace c_5 : t q_4 = 62 := (nI_eq (a := t q_4) (b := 62) (by omega) (by omega)).mp c_5
        refine lv_iconst (v := 1) hx hb d_Rd_readNodes_31 (by decide) ?_
        refine lv_goto (tgt := 36) hx hb d_Rd_readNodes_32 (by decide) ?_
        refine u_put hx hb hts inPc tyPc tyPc_ok nmPc hown hK hV hn 2 rfl rfl 2 (by decide) w_fl_Rd_91 rfl rfl rfl rfl (Nat.le_of_ble_eq_true rfl) d_Rd_readNodes_36 (fun H locs hV hz9 => ?_)
        have hV : vS G.1 cls lo s H locs (vU V [(rd, eO 3 [.ref tp, .int (nI n), .int (nI q_4)]), (tp, eI (gB G) 400 f), (pa, eO 1 [.int (nI v_1), .int 0, .int 1, .int i3, .int i4, .int i5, .int i6, .ref x1, .ref x2, .ref x3, .int i7, .int i8, .long j8, .int i9, .int i10])]) := hV
        replace hz := hz9.trans hz
        refine lv_aload_n hx hb d_Rd_readNodes_39 rfl (lv_at hl 0 rfl) ?_
        refine lv_aload_n hx hb d_Rd_readNodes_40 rfl (lv_at hl 1 rfl) ?_
        refine u_get hx hb hts inPc hown hK hV hn 2 rfl rfl 2 (by decide) w_fl_Rd_91 rfl rfl d_Rd_readNodes_41 ?_
        refine lv_if_eq (tgt := 52) hx hb d_Rd_readNodes_44 (by decide) (fun c_15 => absurd c_15 (by decide)) (fun _ => ?_)
        refine lv_bipush (v := 62) hx hb d_Rd_readNodes_47 (by decide) ?_
        refine lv_goto (tgt := 54) hx hb d_Rd_readNodes_49 (by decide) ?_
        refine v_call (va_runV (As := [.int 62]) (rest := []) ⟨hx, hb, hml, hown, hts⟩ (c_Rd_take l G lo _ _ rd tp f t n q_4 (nd_sub hn [0, 1] (by decide) rfl) hT h4 (by omega) 62 (by decide)) (kwV 1 hts w_co_Rd_take rfl rfl w_it_Rd w_ml_Rd_30 w_im_Rd_take w_se_Rd__Rd_take (by decide +kernel) ⟨by decide, by decide⟩) (u_preV hK hV hn [0, 1] rfl hz 0 rfl rfl) rfl rfl hl.1 rfl (lv_room (Nat.le_of_ble_eq_true rfl)) d_Rd_readNodes_54 ⟨(Nat.le_of_ble_eq_true rfl), (Nat.le_of_ble_eq_true rfl)⟩) hV (fun r9 V9 H locs hp hV hle => ?_)
        obtain ⟨rfl, rfl, hz⟩ := hp
        replace hV := u_back hV hn [0, 1] rfl
        have hV : vS G.1 cls lo s H locs (vU V [(rd, eO 3 [.ref tp, .int (nI n), .int (nI (rQ (tk t n 62 q_4)))]), (tp, eI (gB G) 400 f), (pa, eO 1 [.int (nI v_1), .int 0, .int 1, .int i3, .int i4, .int i5, .int i6, .ref x1, .ref x2, .ref x3, .int i7, .int i8, .long j8, .int i9, .int i10])]) := hV
        obtain ⟨x_16, hx_16⟩ : ∃ z, tk t n 62 q_4 = z := ⟨_, rfl⟩
        rw [hx_16] at hV
        rcases x_16 with e_16 | q_16
        · have be_16 : e_16 ≤ n := tk_er hx_16 (by omega)
          have hV : vS G.1 cls lo s H locs (vU V [(rd, eO 3 [.ref tp, .int (nI n), .int (nI e_16)]), (tp, eI (gB G) 400 f), (pa, eO 1 [.int (nI v_1), .int 0, .int 1, .int i3, .int i4, .int i5, .int i6, .ref x1, .ref x2, .ref x3, .int i7, .int i8, .long j8, .int i9, .int i10])]) := hV
          refine W.eq (g2 := F0 mi 57 ls [.int 0]) (by rw [hx_16]; rfl) ?_
          refine lv_if_ne (tgt := 62) hx hb d_Rd_readNodes_57 (by decide) (fun c_17 => absurd c_17 (by decide)) (fun _ => ?_)
          refine lv_iconst (v := 0) hx hb d_Rd_readNodes_60 (by decide) ?_
          have hE : nodesR t n p = .inl e_16 := by simp [nodesR, sbd_l, sbd_r, hx_1, hq_4, hx_16, lq_4, c_5]
          exact W.zret (v := 0) hx hb hr (by decide) (v_end hV ⟨by rw [hE]; rfl, ⟨nI v_1, 0, 1, by rw [hE]; rfl, fun z hz9 => by rw [hE] at hz9; cases hz9⟩, hz⟩) hV.2.1.2.2 d_Rd_readNodes_61
        · obtain ⟨gq_16, bq_16⟩ := tk_ok hx_16
          have hV : vS G.1 cls lo s H locs (vU V [(rd, eO 3 [.ref tp, .int (nI n), .int (nI q_16)]), (tp, eI (gB G) 400 f), (pa, eO 1 [.int (nI v_1), .int 0, .int 1, .int i3, .int i4, .int i5, .int i6, .ref x1, .ref x2, .ref x3, .int i7, .int i8, .long j8, .int i9, .int i10])]) := hV
          refine W.eq (g2 := F0 mi 57 ls [.int 1]) (by rw [hx_16]; rfl) ?_
          refine lv_if_ne (tgt := 62) hx hb d_Rd_readNodes_57 (by decide) (fun _ => ?_) (fun c_18 => absurd c_18 (by decide))
          refine lv_aload_n hx hb d_Rd_readNodes_62 rfl (lv_at hl 1 rfl) ?_
          refine lv_aload_n hx hb d_Rd_readNodes_63 rfl (lv_at hl 0 rfl) ?_
          refine lv_iconst (v := 1) hx hb d_Rd_readNodes_64 (by decide) ?_
          refine lv_bipush (v := 40) hx hb d_Rd_readNodes_65 (by decide) ?_
          refine v_call (va_runV (As := [.int 1, .int 40]) (rest := [.ref pa]) ⟨hx, hb, hml, hown, hts⟩ (c_Rd_readNumber l G lo _ _ rd tp f t n q_16 (nd_sub hn [0, 1] (by decide) rfl) hT h4 (by omega) 1 40 (by omega) (by omega)) (kwV 2 hts w_co_Rd_readNumber rfl rfl w_it_Rd w_ml_Rd_61 w_im_Rd_readNumber w_se_Rd__Rd_readNumber (by decide +kernel) ⟨by decide, by decide⟩) (u_preV hK hV hn [0, 1] rfl hz 0 rfl rfl) rfl rfl hl.1 rfl (lv_room (Nat.le_of_ble_eq_true rfl)) d_Rd_readNodes_67 ⟨(Nat.le_of_ble_eq_true rfl), (Nat.le_of_ble_eq_true rfl)⟩) hV (fun r9 V9 H locs hp hV hle => ?_)
          obtain ⟨rfl, rfl, hz⟩ := hp
          replace hV := u_back hV hn [0, 1] rfl
          have hV : vS G.1 cls lo s H locs (vU V [(rd, eO 3 [.ref tp, .int (nI n), .int (nI (rP (num t n 1 40 q_16)))]), (tp, eI (gB G) 400 f), (pa, eO 1 [.int (nI v_1), .int 0, .int 1, .int i3, .int i4, .int i5, .int i6, .ref x1, .ref x2, .ref x3, .int i7, .int i8, .long j8, .int i9, .int i10])]) := hV
          obtain ⟨x_19, hx_19⟩ : ∃ z, num t n 1 40 q_16 = z := ⟨_, rfl⟩
          rw [hx_19] at hV
          rcases x_19 with e_19 | ⟨v_19, q_19⟩
          · have be_19 : e_19 ≤ n := num_er hx_19 (by omega)
            have hV : vS G.1 cls lo s H locs (vU V [(rd, eO 3 [.ref tp, .int (nI n), .int (nI e_19)]), (tp, eI (gB G) 400 f), (pa, eO 1 [.int (nI v_1), .int 0, .int 1, .int i3, .int i4, .int i5, .int i6, .ref x1, .ref x2, .ref x3, .int i7, .int i8, .long j8, .int i9, .int i10])]) := hV
            refine W.eq (g2 := F0 mi 70 ls [.int ((-1)), .ref pa]) (by rw [hx_19]; rfl) ?_
            refine u_put hx hb hts inPc tyPc tyPc_ok nmPc hown hK hV hn 2 rfl rfl 1 (by decide) w_fl_Rd_95 rfl rfl rfl rfl (Nat.le_of_ble_eq_true rfl) d_Rd_readNodes_70 (fun H locs hV hz9 => ?_)
            have hV : vS G.1 cls lo s H locs (vU V [(rd, eO 3 [.ref tp, .int (nI n), .int (nI e_19)]), (tp, eI (gB G) 400 f), (pa, eO 1 [.int (nI v_1), .int ((-1)), .int 1, .int i3, .int i4, .int i5, .int i6, .ref x1, .ref x2, .ref x3, .int i7, .int i8, .long j8, .int i9, .int i10])]) := hV
            replace hz := hz9.trans hz
            refine lv_aload_n hx hb d_Rd_readNodes_73 rfl (lv_at hl 1 rfl) ?_
            refine u_get hx hb hts inPc hown hK hV hn 2 rfl rfl 1 (by decide) w_fl_Rd_95 rfl rfl d_Rd_readNodes_74 ?_
            refine lv_aload_n hx hb d_Rd_readNodes_77 rfl (lv_at hl 1 rfl) ?_
            refine u_get hx hb hts inPc hown hK hV hn 2 rfl rfl 0 (by decide) w_fl_Rd_88 rfl rfl d_Rd_readNodes_78 ?_
            refine lv_icmp_ne (tgt := 96) hx hb d_Rd_readNodes_81 (by decide) (fun _ => ?_) (fun c_20 => absurd c_20.symm (nI_nem (by omega)))
            refine lv_aload_n hx hb d_Rd_readNodes_96 rfl (lv_at hl 1 rfl) ?_
            refine u_get hx hb hts inPc hown hK hV hn 2 rfl rfl 1 (by decide) w_fl_Rd_95 rfl rfl d_Rd_readNodes_97 ?_
            refine lv_iconst (v := (-1)) hx hb d_Rd_readNodes_100 (by decide) ?_
            refine lv_icmp_eq (tgt := 108) hx hb d_Rd_readNodes_101 (by decide) (fun _ => ?_) (fun c_21 => absurd c_21 (by decide))
            refine lv_iconst (v := 0) hx hb d_Rd_readNodes_108 (by decide) ?_
            have hE : nodesR t n p = .inl e_19 := by simp [nodesR, sbd_l, sbd_r, hx_1, hq_4, hx_16, hx_19, lq_4, c_5]
            exact W.zret (v := 0) hx hb hr (by decide) (v_end hV ⟨by rw [hE]; rfl, ⟨nI v_1, (-1), 1, by rw [hE]; rfl, fun z hz9 => by rw [hE] at hz9; cases hz9⟩, hz⟩) hV.2.1.2.2 d_Rd_readNodes_109
          · obtain ⟨lv_19, uv_19, gq_19, bq_19⟩ := num_ok hx_19 (by omega)
            have hV : vS G.1 cls lo s H locs (vU V [(rd, eO 3 [.ref tp, .int (nI n), .int (nI q_19)]), (tp, eI (gB G) 400 f), (pa, eO 1 [.int (nI v_1), .int 0, .int 1, .int i3, .int i4, .int i5, .int i6, .ref x1, .ref x2, .ref x3, .int i7, .int i8, .long j8, .int i9, .int i10])]) := hV
            refine W.eq (g2 := F0 mi 70 ls [.int (nI v_19), .ref pa]) (by rw [hx_19]; rfl) ?_
            refine u_put hx hb hts inPc tyPc tyPc_ok nmPc hown hK hV hn 2 rfl rfl 1 (by decide) w_fl_Rd_95 rfl rfl rfl rfl (Nat.le_of_ble_eq_true rfl) d_Rd_readNodes_70 (fun H locs hV hz9 => ?_)
            have hV : vS G.1 cls lo s H locs (vU V [(rd, eO 3 [.ref tp, .int (nI n), .int (nI q_19)]), (tp, eI (gB G) 400 f), (pa, eO 1 [.int (nI v_1), .int (nI v_19), .int 1, .int i3, .int i4, .int i5, .int i6, .ref x1, .ref x2, .ref x3, .int i7, .int i8, .long j8, .int i9, .int i10])]) := hV
            replace hz := hz9.trans hz
            refine lv_aload_n hx hb d_Rd_readNodes_73 rfl (lv_at hl 1 rfl) ?_
            refine u_get hx hb hts inPc hown hK hV hn 2 rfl rfl 1 (by decide) w_fl_Rd_95 rfl rfl d_Rd_readNodes_74 ?_
            refine lv_aload_n hx hb d_Rd_readNodes_77 rfl (lv_at hl 1 rfl) ?_
            refine u_get hx hb hts inPc hown hK hV hn 2 rfl rfl 0 (by decide) w_fl_Rd_88 rfl rfl d_Rd_readNodes_78 ?_
            refine lv_icmp_ne (tgt := 96) hx hb d_Rd_readNodes_81 (by decide) (fun c_22 => ?_) (fun c_22 => ?_)
            · replace c_22 : ¬ v_19 = v_1 := fun z9 => c_22 ((nI_eq (a := v_19) (b := v_1) (by omega) (by omega)).mpr z9)
              refine lv_aload_n hx hb d_Rd_readNodes_96 rfl (lv_at hl 1 rfl) ?_
              refine u_get hx hb hts inPc hown hK hV hn 2 rfl rfl 1 (by decide) w_fl_Rd_95 rfl rfl d_Rd_readNodes_97 ?_
              refine lv_iconst (v := (-1)) hx hb d_Rd_readNodes_100 (by decide) ?_
              refine lv_icmp_eq (tgt := 108) hx hb d_Rd_readNodes_101 (by decide) (fun c_23 => absurd c_23 (nI_nem (by omega))) (fun _ => ?_)
              refine lv_iconst (v := 1) hx hb d_Rd_readNodes_104 (by decide) ?_
              refine lv_goto (tgt := 109) hx hb d_Rd_readNodes_105 (by decide) ?_
              have hE : nodesR t n p = .inr ((v_1, true, v_19), q_19) := by simp [nodesR, sbd_l, sbd_r, hx_1, hq_4, hx_16, hx_19, lq_4, c_5, c_22]
              exact W.zret (v := 1) hx hb hr (by decide) (v_end hV ⟨by rw [hE]; rfl, ⟨nI v_1, nI v_19, 1, by rw [hE]; rfl, fun z hz9 => by rw [hE] at hz9; cases hz9; exact ⟨rfl, rfl, rfl⟩⟩, hz⟩) hV.2.1.2.2 d_Rd_readNodes_109
            · replace c_22 : v_19 = v_1 := (nI_eq (a := v_19) (b := v_1) (by omega) (by omega)).mp c_22
              refine lv_aload_n hx hb d_Rd_readNodes_84 rfl (lv_at hl 0 rfl) ?_
              refine lv_dup hx hb d_Rd_readNodes_85 rfl ?_
              refine u_get hx hb hts inRd hown hK hV hn 0 rfl rfl 2 (by decide) w_fl_Rd_19 rfl rfl d_Rd_readNodes_86 ?_
              refine lv_iconst (v := 1) hx hb d_Rd_readNodes_89 (by decide) ?_
              refine e_isub (v := nI (q_19 - 1)) hx hb d_Rd_readNodes_90 (pk_sub (a := q_19) (b := 1) (by omega)) ?_
              refine u_put hx hb hts inRd tyRd tyRd_ok nmRd hown hK hV hn 0 rfl rfl 2 (by decide) w_fl_Rd_19 rfl rfl rfl rfl (Nat.le_of_ble_eq_true rfl) d_Rd_readNodes_91 (fun H locs hV hz9 => ?_)
              have hV : vS G.1 cls lo s H locs (vU V [(rd, eO 3 [.ref tp, .int (nI n), .int (nI (q_19 - 1))]), (tp, eI (gB G) 400 f), (pa, eO 1 [.int (nI v_1), .int (nI v_19), .int 1, .int i3, .int i4, .int i5, .int i6, .ref x1, .ref x2, .ref x3, .int i7, .int i8, .long j8, .int i9, .int i10])]) := hV
              replace hz := hz9.trans hz
              refine lv_iconst (v := 0) hx hb d_Rd_readNodes_94 (by decide) ?_
              have hE : nodesR t n p = .inl (q_19 - 1) := by simp [nodesR, sbd_l, sbd_r, hx_1, hq_4, hx_16, hx_19, lq_4, c_5, c_22]
              exact W.zret (v := 0) hx hb hr (by decide) (v_end hV ⟨by rw [hE]; rfl, ⟨nI v_1, nI v_19, 1, by rw [hE]; rfl, fun z hz9 => by rw [hE] at hz9; cases hz9⟩, hz⟩) hV.2.1.2.2 d_Rd_readNodes_95
    · have hV : vS G.1 cls lo s H locs (vU V [(rd, eO 3 [.ref tp, .int (nI n), .int (nI q_4)]), (tp, eI (gB G) 400 f), (pa, eO 1 [.int (nI v_1), .int 0, .int 0, .int i3, .int i4, .int i5, .int i6, .ref x1, .ref x2, .ref x3, .int i7, .int i8, .long j8, .int i9, .int i10])]) := hV
      refine W.eq (g2 := F0 mi 26 ls [.int ((-1)), .ref pa]) (by rw [hq_4, rK_out (by omega)]; rfl) ?_
      refine lv_bipush (v := 62) hx hb d_Rd_readNodes_26 (by decide) ?_
      refine lv_icmp_ne (tgt := 35) hx hb d_Rd_readNodes_28 (by decide) (fun _ => ?_) (fun c_24 => absurd c_24 (by decide))
      refine lv_iconst (v := 0) hx hb d_Rd_readNodes_35 (by decide) ?_
      refine u_put hx hb hts inPc tyPc tyPc_ok nmPc hown hK hV hn 2 rfl rfl 2 (by decide) w_fl_Rd_91 rfl rfl rfl rfl (Nat.le_of_ble_eq_true rfl) d_Rd_readNodes_36 (fun H locs hV hz9 => ?_)
      have hV : vS G.1 cls lo s H locs (vU V [(rd, eO 3 [.ref tp, .int (nI n), .int (nI q_4)]), (tp, eI (gB G) 400 f), (pa, eO 1 [.int (nI v_1), .int 0, .int 0, .int i3, .int i4, .int i5, .int i6, .ref x1, .ref x2, .ref x3, .int i7, .int i8, .long j8, .int i9, .int i10])]) := hV
      replace hz := hz9.trans hz
      refine lv_aload_n hx hb d_Rd_readNodes_39 rfl (lv_at hl 0 rfl) ?_
      refine lv_aload_n hx hb d_Rd_readNodes_40 rfl (lv_at hl 1 rfl) ?_
      refine u_get hx hb hts inPc hown hK hV hn 2 rfl rfl 2 (by decide) w_fl_Rd_91 rfl rfl d_Rd_readNodes_41 ?_
      refine lv_if_eq (tgt := 52) hx hb d_Rd_readNodes_44 (by decide) (fun _ => ?_) (fun c_25 => absurd c_25 (by decide))
      refine lv_bipush (v := 45) hx hb d_Rd_readNodes_52 (by decide) ?_
      refine v_call (va_runV (As := [.int 45]) (rest := []) ⟨hx, hb, hml, hown, hts⟩ (c_Rd_take l G lo _ _ rd tp f t n q_4 (nd_sub hn [0, 1] (by decide) rfl) hT h4 (by omega) 45 (by decide)) (kwV 1 hts w_co_Rd_take rfl rfl w_it_Rd w_ml_Rd_30 w_im_Rd_take w_se_Rd__Rd_take (by decide +kernel) ⟨by decide, by decide⟩) (u_preV hK hV hn [0, 1] rfl hz 0 rfl rfl) rfl rfl hl.1 rfl (lv_room (Nat.le_of_ble_eq_true rfl)) d_Rd_readNodes_54 ⟨(Nat.le_of_ble_eq_true rfl), (Nat.le_of_ble_eq_true rfl)⟩) hV (fun r9 V9 H locs hp hV hle => ?_)
      obtain ⟨rfl, rfl, hz⟩ := hp
      replace hV := u_back hV hn [0, 1] rfl
      have hV : vS G.1 cls lo s H locs (vU V [(rd, eO 3 [.ref tp, .int (nI n), .int (nI (rQ (tk t n 45 q_4)))]), (tp, eI (gB G) 400 f), (pa, eO 1 [.int (nI v_1), .int 0, .int 0, .int i3, .int i4, .int i5, .int i6, .ref x1, .ref x2, .ref x3, .int i7, .int i8, .long j8, .int i9, .int i10])]) := hV
      obtain ⟨x_26, hx_26⟩ : ∃ z, tk t n 45 q_4 = z := ⟨_, rfl⟩
      rw [hx_26] at hV
      rcases x_26 with e_26 | q_26
      · have be_26 : e_26 ≤ n := tk_er hx_26 (by omega)
        have hV : vS G.1 cls lo s H locs (vU V [(rd, eO 3 [.ref tp, .int (nI n), .int (nI e_26)]), (tp, eI (gB G) 400 f), (pa, eO 1 [.int (nI v_1), .int 0, .int 0, .int i3, .int i4, .int i5, .int i6, .ref x1, .ref x2, .ref x3, .int i7, .int i8, .long j8, .int i9, .int i10])]) := hV
        refine W.eq (g2 := F0 mi 57 ls [.int 0]) (by rw [hx_26]; rfl) ?_
        refine lv_if_ne (tgt := 62) hx hb d_Rd_readNodes_57 (by decide) (fun c_27 => absurd c_27 (by decide)) (fun _ => ?_)
        refine lv_iconst (v := 0) hx hb d_Rd_readNodes_60 (by decide) ?_
        have hE : nodesR t n p = .inl e_26 := by simp [nodesR, sbd_l, sbd_r, hx_1, hq_4, hx_26, Nat.not_lt.mpr lq_4]
        exact W.zret (v := 0) hx hb hr (by decide) (v_end hV ⟨by rw [hE]; rfl, ⟨nI v_1, 0, 0, by rw [hE]; rfl, fun z hz9 => by rw [hE] at hz9; cases hz9⟩, hz⟩) hV.2.1.2.2 d_Rd_readNodes_61
      · obtain ⟨gq_26, bq_26⟩ := tk_ok hx_26
        have hV : vS G.1 cls lo s H locs (vU V [(rd, eO 3 [.ref tp, .int (nI n), .int (nI q_26)]), (tp, eI (gB G) 400 f), (pa, eO 1 [.int (nI v_1), .int 0, .int 0, .int i3, .int i4, .int i5, .int i6, .ref x1, .ref x2, .ref x3, .int i7, .int i8, .long j8, .int i9, .int i10])]) := hV
        refine W.eq (g2 := F0 mi 57 ls [.int 1]) (by rw [hx_26]; rfl) ?_
        refine lv_if_ne (tgt := 62) hx hb d_Rd_readNodes_57 (by decide) (fun _ => ?_) (fun c_28 => absurd c_28 (by decide))
        refine lv_aload_n hx hb d_Rd_readNodes_62 rfl (lv_at hl 1 rfl) ?_
        refine lv_aload_n hx hb d_Rd_readNodes_63 rfl (lv_at hl 0 rfl) ?_
        refine lv_iconst (v := 1) hx hb d_Rd_readNodes_64 (by decide) ?_
        refine lv_bipush (v := 40) hx hb d_Rd_readNodes_65 (by decide) ?_
        refine v_call (va_runV (As := [.int 1, .int 40]) (rest := [.ref pa]) ⟨hx, hb, hml, hown, hts⟩ (c_Rd_readNumber l G lo _ _ rd tp f t n q_26 (nd_sub hn [0, 1] (by decide) rfl) hT h4 (by omega) 1 40 (by omega) (by omega)) (kwV 2 hts w_co_Rd_readNumber rfl rfl w_it_Rd w_ml_Rd_61 w_im_Rd_readNumber w_se_Rd__Rd_readNumber (by decide +kernel) ⟨by decide, by decide⟩) (u_preV hK hV hn [0, 1] rfl hz 0 rfl rfl) rfl rfl hl.1 rfl (lv_room (Nat.le_of_ble_eq_true rfl)) d_Rd_readNodes_67 ⟨(Nat.le_of_ble_eq_true rfl), (Nat.le_of_ble_eq_true rfl)⟩) hV (fun r9 V9 H locs hp hV hle => ?_)
        obtain ⟨rfl, rfl, hz⟩ := hp
        replace hV := u_back hV hn [0, 1] rfl
        have hV : vS G.1 cls lo s H locs (vU V [(rd, eO 3 [.ref tp, .int (nI n), .int (nI (rP (num t n 1 40 q_26)))]), (tp, eI (gB G) 400 f), (pa, eO 1 [.int (nI v_1), .int 0, .int 0, .int i3, .int i4, .int i5, .int i6, .ref x1, .ref x2, .ref x3, .int i7, .int i8, .long j8, .int i9, .int i10])]) := hV
        obtain ⟨x_29, hx_29⟩ : ∃ z, num t n 1 40 q_26 = z := ⟨_, rfl⟩
        rw [hx_29] at hV
        rcases x_29 with e_29 | ⟨v_29, q_29⟩
        · have be_29 : e_29 ≤ n := num_er hx_29 (by omega)
          have hV : vS G.1 cls lo s H locs (vU V [(rd, eO 3 [.ref tp, .int (nI n), .int (nI e_29)]), (tp, eI (gB G) 400 f), (pa, eO 1 [.int (nI v_1), .int 0, .int 0, .int i3, .int i4, .int i5, .int i6, .ref x1, .ref x2, .ref x3, .int i7, .int i8, .long j8, .int i9, .int i10])]) := hV
          refine W.eq (g2 := F0 mi 70 ls [.int ((-1)), .ref pa]) (by rw [hx_29]; rfl) ?_
          refine u_put hx hb hts inPc tyPc tyPc_ok nmPc hown hK hV hn 2 rfl rfl 1 (by decide) w_fl_Rd_95 rfl rfl rfl rfl (Nat.le_of_ble_eq_true rfl) d_Rd_readNodes_70 (fun H locs hV hz9 => ?_)
          have hV : vS G.1 cls lo s H locs (vU V [(rd, eO 3 [.ref tp, .int (nI n), .int (nI e_29)]), (tp, eI (gB G) 400 f), (pa, eO 1 [.int (nI v_1), .int ((-1)), .int 0, .int i3, .int i4, .int i5, .int i6, .ref x1, .ref x2, .ref x3, .int i7, .int i8, .long j8, .int i9, .int i10])]) := hV
          replace hz := hz9.trans hz
          refine lv_aload_n hx hb d_Rd_readNodes_73 rfl (lv_at hl 1 rfl) ?_
          refine u_get hx hb hts inPc hown hK hV hn 2 rfl rfl 1 (by decide) w_fl_Rd_95 rfl rfl d_Rd_readNodes_74 ?_
          refine lv_aload_n hx hb d_Rd_readNodes_77 rfl (lv_at hl 1 rfl) ?_
          refine u_get hx hb hts inPc hown hK hV hn 2 rfl rfl 0 (by decide) w_fl_Rd_88 rfl rfl d_Rd_readNodes_78 ?_
          refine lv_icmp_ne (tgt := 96) hx hb d_Rd_readNodes_81 (by decide) (fun _ => ?_) (fun c_30 => absurd c_30.symm (nI_nem (by omega)))
          refine lv_aload_n hx hb d_Rd_readNodes_96 rfl (lv_at hl 1 rfl) ?_
          refine u_get hx hb hts inPc hown hK hV hn 2 rfl rfl 1 (by decide) w_fl_Rd_95 rfl rfl d_Rd_readNodes_97 ?_
          refine lv_iconst (v := (-1)) hx hb d_Rd_readNodes_100 (by decide) ?_
          refine lv_icmp_eq (tgt := 108) hx hb d_Rd_readNodes_101 (by decide) (fun _ => ?_) (fun c_31 => absurd c_31 (by decide))
          refine lv_iconst (v := 0) hx hb d_Rd_readNodes_108 (by decide) ?_
          have hE : nodesR t n p = .inl e_29 := by simp [nodesR, sbd_l, sbd_r, hx_1, hq_4, hx_26, hx_29, Nat.not_lt.mpr lq_4]
          exact W.zret (v := 0) hx hb hr (by decide) (v_end hV ⟨by rw [hE]; rfl, ⟨nI v_1, (-1), 0, by rw [hE]; rfl, fun z hz9 => by rw [hE] at hz9; cases hz9⟩, hz⟩) hV.2.1.2.2 d_Rd_readNodes_109
        · obtain ⟨lv_29, uv_29, gq_29, bq_29⟩ := num_ok hx_29 (by omega)
          have hV : vS G.1 cls lo s H locs (vU V [(rd, eO 3 [.ref tp, .int (nI n), .int (nI q_29)]), (tp, eI (gB G) 400 f), (pa, eO 1 [.int (nI v_1), .int 0, .int 0, .int i3, .int i4, .int i5, .int i6, .ref x1, .ref x2, .ref x3, .int i7, .int i8, .long j8, .int i9, .int i10])]) := hV
          refine W.eq (g2 := F0 mi 70 ls [.int (nI v_29), .ref pa]) (by rw [hx_29]; rfl) ?_
          refine u_put hx hb hts inPc tyPc tyPc_ok nmPc hown hK hV hn 2 rfl rfl 1 (by decide) w_fl_Rd_95 rfl rfl rfl rfl (Nat.le_of_ble_eq_true rfl) d_Rd_readNodes_70 (fun H locs hV hz9 => ?_)
          have hV : vS G.1 cls lo s H locs (vU V [(rd, eO 3 [.ref tp, .int (nI n), .int (nI q_29)]), (tp, eI (gB G) 400 f), (pa, eO 1 [.int (nI v_1), .int (nI v_29), .int 0, .int i3, .int i4, .int i5, .int i6, .ref x1, .ref x2, .ref x3, .int i7, .int i8, .long j8, .int i9, .int i10])]) := hV
          replace hz := hz9.trans hz
          refine lv_aload_n hx hb d_Rd_readNodes_73 rfl (lv_at hl 1 rfl) ?_
          refine u_get hx hb hts inPc hown hK hV hn 2 rfl rfl 1 (by decide) w_fl_Rd_95 rfl rfl d_Rd_readNodes_74 ?_
          refine lv_aload_n hx hb d_Rd_readNodes_77 rfl (lv_at hl 1 rfl) ?_
          refine u_get hx hb hts inPc hown hK hV hn 2 rfl rfl 0 (by decide) w_fl_Rd_88 rfl rfl d_Rd_readNodes_78 ?_
          refine lv_icmp_ne (tgt := 96) hx hb d_Rd_readNodes_81 (by decide) (fun c_32 => ?_) (fun c_32 => ?_)
          · replace c_32 : ¬ v_29 = v_1 := fun z9 => c_32 ((nI_eq (a := v_29) (b := v_1) (by omega) (by omega)).mpr z9)
            refine lv_aload_n hx hb d_Rd_readNodes_96 rfl (lv_at hl 1 rfl) ?_
            refine u_get hx hb hts inPc hown hK hV hn 2 rfl rfl 1 (by decide) w_fl_Rd_95 rfl rfl d_Rd_readNodes_97 ?_
            refine lv_iconst (v := (-1)) hx hb d_Rd_readNodes_100 (by decide) ?_
            refine lv_icmp_eq (tgt := 108) hx hb d_Rd_readNodes_101 (by decide) (fun c_33 => absurd c_33 (nI_nem (by omega))) (fun _ => ?_)
            refine lv_iconst (v := 1) hx hb d_Rd_readNodes_104 (by decide) ?_
            refine lv_goto (tgt := 109) hx hb d_Rd_readNodes_105 (by decide) ?_
            have hE : nodesR t n p = .inr ((v_1, false, v_29), q_29) := by simp [nodesR, sbd_l, sbd_r, hx_1, hq_4, hx_26, hx_29, Nat.not_lt.mpr lq_4, c_32]
            exact W.zret (v := 1) hx hb hr (by decide) (v_end hV ⟨by rw [hE]; rfl, ⟨nI v_1, nI v_29, 0, by rw [hE]; rfl, fun z hz9 => by rw [hE] at hz9; cases hz9; exact ⟨rfl, rfl, rfl⟩⟩, hz⟩) hV.2.1.2.2 d_Rd_readNodes_109
          · replace c_32 : v_29 = v_1 := (nI_eq (a := v_29) (b := v_1) (by omega) (by omega)).mp c_32
            refine lv_aload_n hx hb d_Rd_readNodes_84 rfl (lv_at hl 0 rfl) ?_
            refine lv_dup hx hb d_Rd_readNodes_85 rfl ?_
            refine u_get hx hb hts inRd hown hK hV hn 0 rfl rfl 2 (by decide) w_fl_Rd_19 rfl rfl d_Rd_readNodes_86 ?_
            refine lv_iconst (v := 1) hx hb d_Rd_readNodes_89 (by decide) ?_
            refine e_isub (v := nI (q_29 - 1)) hx hb d_Rd_readNodes_90 (pk_sub (a := q_29) (b := 1) (by omega)) ?_
            refine u_put hx hb hts inRd tyRd tyRd_ok nmRd hown hK hV hn 0 rfl rfl 2 (by decide) w_fl_Rd_19 rfl rfl rfl rfl (Nat.le_of_ble_eq_true rfl) d_Rd_readNodes_91 (fun H locs hV hz9 => ?_)
            have hV : vS G.1 cls lo s H locs (vU V [(rd, eO 3 [.ref tp, .int (nI n), .int (nI (q_29 - 1))]), (tp, eI (gB G) 400 f), (pa, eO 1 [.int (nI v_1), .int (nI v_29), .int 0, .int i3, .int i4, .int i5, .int i6, .ref x1, .ref x2, .ref x3, .int i7, .int i8, .long j8, .int i9, .int i10])]) := hV
            replace hz := hz9.trans hz
            refine lv_iconst (v := 0) hx hb d_Rd_readNodes_94 (by decide) ?_
            have hE : nodesR t n p = .inl (q_29 - 1) := by simp [nodesR, sbd_l, sbd_r, hx_1, hq_4, hx_26, hx_29, Nat.not_lt.mpr lq_4, c_32]
            exact W.zret (v := 0) hx hb hr (by decide) (v_end hV ⟨by rw [hE]; rfl, ⟨nI v_1, nI v_29, 0, by rw [hE]; rfl, fun z hz9 => by rw [hE] at hz9; cases hz9⟩, hz⟩) hV.2.1.2.2 d_Rd_readNodes_95

set_option maxHeartbeats 4000000 in
set_option maxRecDepth 100000 in
/-- Reader.readGone -/
theorem c_Rd_readGone (l : Launch) (G : Gx) (lo : Nat) (V : Vw) (sz : Nat) (rd tp : Nat) (f : Nat → Int32) (t : Nat → Nat) (n p : Nat) (tw ps bl b1 b2 sn s1 s2 tu : Nat) (pf : Nat → Option Nat) (fb fc fs fd : Nat → Int32) (hn : [rd, tp, tw, ps, bl, b1, b2, sn, s1, s2].Nodup) (hT : tpOk f t n) (h4 : n ≤ 400) (hp : p ≤ n) : Met l y_Rd_readGone ws_Rd_readGone ({ frames := 2, cells := 0, slots := 0, locals := 60 } : Room) (vPre G lo [.ref rd, .ref tw] (vU V [(rd, eO 3 [.ref tp, .int (nI n), .int (nI p)]), (tp, eI (gB G) 400 f), (tw, eO 5 [.ref ps, .ref bl, .ref sn, .ref tu]), (ps, eQ (gP G) 61 pf), (bl, eO 4 [.ref b1, .ref b2]), (b1, eI (gI G) 31 fb), (b2, eI (gI G) 31 fc), (sn, eO 4 [.ref s1, .ref s2]), (s1, eI (gI G) 31 fs), (s2, eI (gI G) 31 fd)]) sz) (vPost G lo (fun r V' k => r = some (.int (rB (goneR t n p))) ∧ V' = vU V [(rd, eO 3 [.ref tp, .int (nI n), .int (nI (sR (goneR t n p)))]), (tp, eI (gB G) 400 f), (tw, eO 5 [.ref ps, .ref bl, .ref sn, .ref tu]), (ps, eQ (gP G) 61 (gnP pf (goneR t n p))), (bl, eO 4 [.ref b1, .ref b2]), (b1, eI (gI G) 31 (gnS 104 fb (goneR t n p))), (b2, eI (gI G) 31 (gnS 104 fc (goneR t n p))), (sn, eO 4 [.ref s1, .ref s2]), (s1, eI (gI G) 31 (gnS 115 fs (goneR t n p))), (s2, eI (gI G) 31 (gnS 115 fd (goneR t n p)))] ∧ k = sz)) 0 0 (vL lo) := by
  refine vMet (R := RRd) (by decide) rfl (Nat.le_of_ble_eq_true rfl) ?_
  intro pg ev s mi args below meth cd hx hb hr hml hlk hnm hts hown hK hz hV ls hl
  have hl : lv_has ls 4 [(0, .ref rd), (1, .ref tw)] := hl
  have hV0 := hV
  obtain ⟨H, hH⟩ : ∃ H, H = s.heap := ⟨_, rfl⟩
  obtain ⟨locs, hlocs⟩ : ∃ locs : List Loc, locs = [] := ⟨_, rfl⟩
  rw [← hH, ← hlocs]
  rw [← hH] at hz
  replace hV : vS G.1 cls lo s H locs (vU V [(rd, eO 3 [.ref tp, .int (nI n), .int (nI p)]), (tp, eI (gB G) 400 f), (tw, eO 5 [.ref ps, .ref bl, .ref sn, .ref tu]), (ps, eQ (gP G) 61 pf), (bl, eO 4 [.ref b1, .ref b2]), (b1, eI (gI G) 31 fb), (b2, eI (gI G) 31 fc), (sn, eO 4 [.ref s1, .ref s2]), (s1, eI (gI G) 31 fs), (s2, eI (gI G) 31 fd)]) := by rw [hH, hlocs]; exact hV
  clear hH hlocs hV0
  refine lv_aload_n hx hb d_Rd_readGone_0 rfl (lv_at hl 0 rfl) ?_
  refine v_call (va_runV (As := []) (rest := []) ⟨hx, hb, hml, hown, hts⟩ (c_Rd_peek l G lo _ _ rd tp f t n p (nd_sub hn [0, 1] (by decide) rfl) hT h4 (by omega)) (kwV 0 hts w_co_Rd_peek rfl rfl w_it_Rd w_ml_Rd_22 w_im_Rd_peek w_se_Rd__Rd_peek (by decide +kernel) ⟨by decide, by decide⟩) (u_preV hK hV hn [0, 1] rfl hz 0 rfl rfl) rfl rfl hl.1 rfl (lv_room (Nat.le_of_ble_eq_true rfl)) d_Rd_readGone_1 ⟨(Nat.le_of_ble_eq_true rfl), (Nat.le_of_ble_eq_true rfl)⟩) hV (fun r9 V9 H locs hp hV hle => ?_)
  obtain ⟨rfl, rfl, hz⟩ := hp
  replace hV := u_back hV hn [0, 1] rfl
  have hV : vS G.1 cls lo s H locs (vU V [(rd, eO 3 [.ref tp, .int (nI n), .int (nI (sk t n p))]), (tp, eI (gB G) 400 f), (tw, eO 5 [.ref ps, .ref bl, .ref sn, .ref tu]), (ps, eQ (gP G) 61 pf), (bl, eO 4 [.ref b1, .ref b2]), (b1, eI (gI G) 31 fb), (b2, eI (gI G) 31 fc), (sn, eO 4 [.ref s1, .ref s2]), (s1, eI (gI G) 31 fs), (s2, eI (gI G) 31 fd)]) := hV
  obtain ⟨q_1, hq_1⟩ : ∃ z, sk t n p = z := ⟨_, rfl⟩
  rw [hq_1] at hV
  have bq_1 : q_1 ≤ n := by rw [← hq_1]; exact sk_le (by omega)
  have gq_1 : p ≤ q_1 := by rw [← hq_1]; exact sk_ge t n p
  rcases Nat.lt_or_ge q_1 n with lq_1 | lq_1
  · have kq_1 : t q_1 < 256 := (hT q_1 lq_1).1
    have hV : vS G.1 cls lo s H locs (vU V [(rd, eO 3 [.ref tp, .int (nI n), .int (nI q_1)]), (tp, eI (gB G) 400 f), (tw, eO 5 [.ref ps, .ref bl, .ref sn, .ref tu]), (ps, eQ (gP G) 61 pf), (bl, eO 4 [.ref b1, .ref b2]), (b1, eI (gI G) 31 fb), (b2, eI (gI G) 31 fc), (sn, eO 4 [.ref s1, .ref s2]), (s1, eI (gI G) 31 fs), (s2, eI (gI G) 31 fd)]) := hV
    refine W.eq (g2 := F0 mi 4 ls [.int (nI (t q_1))]) (by rw [hq_1, rK_in lq_1]; rfl) ?_
    refine lv_istore_n (lv' := [(2, .int (nI (t q_1))), (0, .ref rd), (1, .ref tw)]) hx hb d_Rd_readGone_4 rfl hl (by decide) rfl (fun ls hl => ?_)
    refine lv_iload_n hx hb d_Rd_readGone_5 rfl (lv_at hl 0 rfl) ?_
    refine lv_bipush (v := 112) hx hb d_Rd_readGone_6 (by decide) ?_
    refine lv_icmp_eq (tgt := 25) hx hb d_Rd_readGone_8 (by decide) (fun c_2 => ?_) (fun c_2 => ?_)
    · replace c_2 : t q_1 = 112 := (nI_eq (a := t q_1) (b := 112) (by omega) (by omega)).mp c_2
      refine lv_aload_n hx hb d_Rd_readGone_25 rfl (lv_at hl 1 rfl) ?_
      refine lv_dup hx hb d_Rd_readGone_26 rfl ?_
      refine u_get hx hb hts inRd hown hK hV hn 0 rfl rfl 2 (by decide) w_fl_Rd_19 rfl rfl d_Rd_readGone_27 ?_
      refine lv_iconst (v := 1) hx hb d_Rd_readGone_30 (by decide) ?_
      refine e_iadd (v := nI (q_1 + 1)) hx hb d_Rd_readGone_31 (nI_add q_1 1) ?_
      refine u_put hx hb hts inRd tyRd tyRd_ok nmRd hown hK hV hn 0 rfl rfl 2 (by decide) w_fl_Rd_19 rfl rfl rfl rfl (Nat.le_of_ble_eq_true rfl) d_Rd_readGone_32 (fun H locs hV hz9 => ?_)
      have hV : vS G.1 cls lo s H locs (vU V [(rd, eO 3 [.ref tp, .int (nI n), .int (nI (q_1 + 1))]), (tp, eI (gB G) 400 f), (tw, eO 5 [.ref ps, .ref bl, .ref sn, .ref tu]), (ps, eQ (gP G) 61 pf), (bl, eO 4 [.ref b1, .ref b2]), (b1, eI (gI G) 31 fb), (b2, eI (gI G) 31 fc), (sn, eO 4 [.ref s1, .ref s2]), (s1, eI (gI G) 31 fs), (s2, eI (gI G) 31 fd)]) := hV
      replace hz := hz9.trans hz
      refine lv_aload_n hx hb d_Rd_readGone_35 rfl (lv_at hl 1 rfl) ?_
      refine lv_iconst (v := 1) hx hb d_Rd_readGone_36 (by decide) ?_
      refine lv_iload_n hx hb d_Rd_readGone_37 rfl (lv_at hl 0 rfl) ?_
      refine lv_bipush (v := 112) hx hb d_Rd_readGone_38 (by decide) ?_
      refine lv_icmp_ne (tgt := 48) hx hb d_Rd_readGone_40 (by decide) (fun c_3 => absurd ((nI_eq (a := t q_1) (b := 112) (by omega) (by omega)).mpr (by omega)) c_3) (fun _ => ?_)
      refine lv_bipush (v := 60) hx hb d_Rd_readGone_43 (by decide) ?_
      refine lv_goto (tgt := 50) hx hb d_Rd_readGone_45 (by decide) ?_
      refine v_call (va_runV (As := [.int 1, .int 60]) (rest := []) ⟨hx, hb, hml, hown, hts⟩ (c_Rd_readNumber l G lo _ _ rd tp f t n (q_1 + 1) (nd_sub hn [0, 1] (by decide) rfl) hT h4 (by omega) 1 60 (by omega) (by omega)) (kwV 2 hts w_co_Rd_readNumber rfl rfl w_it_Rd w_ml_Rd_61 w_im_Rd_readNumber w_se_Rd__Rd_readNumber (by decide +kernel) ⟨by decide, by decide⟩) (u_preV hK hV hn [0, 1] rfl hz 0 rfl rfl) rfl rfl hl.1 rfl (lv_room (Nat.le_of_ble_eq_true rfl)) d_Rd_readGone_50 ⟨(Nat.le_of_ble_eq_true rfl), (Nat.le_of_ble_eq_true rfl)⟩) hV (fun r9 V9 H locs hp hV hle => ?_)
      obtain ⟨rfl, rfl, hz⟩ := hp
      replace hV := u_back hV hn [0, 1] rfl
      have hV : vS G.1 cls lo s H locs (vU V [(rd, eO 3 [.ref tp, .int (nI n), .int (nI (rP (num t n 1 60 (q_1 + 1))))]), (tp, eI (gB G) 400 f), (tw, eO 5 [.ref ps, .ref bl, .ref sn, .ref tu]), (ps, eQ (gP G) 61 pf), (bl, eO 4 [.ref b1, .ref b2]), (b1, eI (gI G) 31 fb), (b2, eI (gI G) 31 fc), (sn, eO 4 [.ref s1, .ref s2]), (s1, eI (gI G) 31 fs), (s2, eI (gI G) 31 fd)]) := hV
      obtain ⟨x_4, hx_4⟩ : ∃ z, num t n 1 60 (q_1 + 1) = z := ⟨_, rfl⟩
      rw [hx_4] at hV
      rcases x_4 with e_4 | ⟨v_4, q_4⟩
      · have be_4 : e_4 ≤ n := num_er hx_4 (by omega)
        have hV : vS G.1 cls lo s H locs (vU V [(rd, eO 3 [.ref tp, .int (nI n), .int (nI e_4)]), (tp, eI (gB G) 400 f), (tw, eO 5 [.ref ps, .ref bl, .ref sn, .ref tu]), (ps, eQ (gP G) 61 pf), (bl, eO 4 [.ref b1, .ref b2]), (b1, eI (gI G) 31 fb), (b2, eI (gI G) 31 fc), (sn, eO 4 [.ref s1, .ref s2]), (s1, eI (gI G) 31 fs), (s2, eI (gI G) 31 fd)]) := hV
        refine W.eq (g2 := F0 mi 53 ls [.int ((-1))]) (by rw [hx_4]; rfl) ?_
        refine lv_istore_n (lv' := [(3, .int ((-1))), (2, .int (nI (t q_1))), (0, .ref rd), (1, .ref tw)]) hx hb d_Rd_readGone_53 rfl hl (by decide) rfl (fun ls hl => ?_)
        refine lv_iload_n hx hb d_Rd_readGone_54 rfl (lv_at hl 0 rfl) ?_
        refine lv_iconst (v := (-1)) hx hb d_Rd_readGone_55 (by decide) ?_
        refine lv_icmp_ne (tgt := 61) hx hb d_Rd_readGone_56 (by decide) (fun c_5 => absurd c_5 (by decide)) (fun _ => ?_)
        refine lv_iconst (v := 0) hx hb d_Rd_readGone_59 (by decide) ?_
        have hE : goneR t n p = .inl e_4 := by simp [goneR, sbd_l, sbd_r, hq_1, hx_4, lq_1, c_2]
        exact W.zret (v := 0) hx hb hr (by decide) (v_end hV ⟨by rw [hE]; rfl, by rw [hE]; rfl, hz⟩) hV.2.1.2.2 d_Rd_readGone_60
      · obtain ⟨lv_4, uv_4, gq_4, bq_4⟩ := num_ok hx_4 (by omega)
        have hV : vS G.1 cls lo s H locs (vU V [(rd, eO 3 [.ref tp, .int (nI n), .int (nI q_4)]), (tp, eI (gB G) 400 f), (tw, eO 5 [.ref ps, .ref bl, .ref sn, .ref tu]), (ps, eQ (gP G) 61 pf), (bl, eO 4 [.ref b1, .ref b2]), (b1, eI (gI G) 31 fb), (b2, eI (gI G) 31 fc), (sn, eO 4 [.ref s1, .ref s2]), (s1, eI (gI G) 31 fs), (s2, eI (gI G) 31 fd)]) := hV
        refine W.eq (g2 := F0 mi 53 ls [.int (nI v_4)]) (by rw [hx_4]; rfl) ?_
        refine lv_istore_n (lv' := [(3, .int (nI v_4)), (2, .int (nI (t q_1))), (0, .ref rd), (1, .ref tw)]) hx hb d_Rd_readGone_53 rfl hl (by decide) rfl (fun ls hl => ?_)
        refine lv_iload_n hx hb d_Rd_readGone_54 rfl (lv_at hl 0 rfl) ?_
        refine lv_iconst (v := (-1)) hx hb d_Rd_readGone_55 (by decide) ?_
        refine lv_icmp_ne (tgt := 61) hx hb d_Rd_readGone_56 (by decide) (fun _ => ?_) (fun c_6 => absurd c_6 (nI_nem (by omega)))
        refine lv_iload_n hx hb d_Rd_readGone_61 rfl (lv_at hl 1 rfl) ?_
        refine lv_bipush (v := 112) hx hb d_Rd_readGone_62 (by decide) ?_
        refine lv_icmp_ne (tgt := 76) hx hb d_Rd_readGone_64 (by decide) (fun c_7 => absurd ((nI_eq (a := t q_1) (b := 112) (by omega) (by omega)).mpr (by omega)) c_7) (fun _ => ?_)
        refine lv_aload_n hx hb d_Rd_readGone_67 rfl (lv_at hl 3 rfl) ?_
        refine lv_iload_n hx hb d_Rd_readGone_68 rfl (lv_at hl 0 rfl) ?_
        refine lv_null hx hb d_Rd_readGone_69 ?_
        refine v_call (va_runV (As := [.int (nI v_4), .null]) (rest := []) ⟨hx, hb, hml, hown, hts⟩ (c_Tw_putN l G lo _ _ tw ps bl sn tu pf (nd_sub hn [2, 3] (by decide) rfl) v_4 (by omega) (by omega)) (kwV 2 hts w_co_Tw_put rfl rfl w_it_Tw w_ml_Rd_84 w_im_Tw_put w_se_Tw__Tw_put (by decide +kernel) ⟨by decide, by decide⟩) (u_preV hK hV hn [2, 3] rfl hz 2 rfl rfl) rfl rfl hl.1 rfl (lv_room (Nat.le_of_ble_eq_true rfl)) d_Rd_readGone_70 ⟨(Nat.le_of_ble_eq_true rfl), (Nat.le_of_ble_eq_true rfl)⟩) hV (fun r9 V9 H locs hp hV hle => ?_)
        obtain ⟨rfl, rfl, hz⟩ := hp
        replace hV := u_back hV hn [2, 3] rfl
        have hV : vS G.1 cls lo s H locs (vU V [(rd, eO 3 [.ref tp, .int (nI n), .int (nI q_4)]), (tp, eI (gB G) 400 f), (tw, eO 5 [.ref ps, .ref bl, .ref sn, .ref tu]), (ps, eQ (gP G) 61 (va_up pf v_4 none)), (bl, eO 4 [.ref b1, .ref b2]), (b1, eI (gI G) 31 fb), (b2, eI (gI G) 31 fc), (sn, eO 4 [.ref s1, .ref s2]), (s1, eI (gI G) 31 fs), (s2, eI (gI G) 31 fd)]) := hV
        refine lv_goto (tgt := 105) hx hb d_Rd_readGone_73 (by decide) ?_
        refine lv_iconst (v := 1) hx hb d_Rd_readGone_105 (by decide) ?_
        have hE : goneR t n p = .inr ((t q_1, v_4), q_4) := by simp [goneR, sbd_l, sbd_r, hq_1, hx_4, lq_1, c_2]
        simp only [hE]
        exact W.zret (v := 1) hx hb hr (by decide) (v_end hV ⟨rfl, by simp [gnP, gnS, sR, c_2], hz⟩) hV.2.1.2.2 d_Rd_readGone_106
    · replace c_2 : ¬ t q_1 = 112 := fun z9 => c_2 ((nI_eq (a := t q_1) (b := 112) (by omega) (by omega)).mpr z9)
      refine lv_iload_n hx hb d_Rd_readGone_11 rfl (lv_at hl 0 rfl) ?_
      refine lv_bipush (v := 104) hx hb d_Rd_readGone_12 (by decide) ?_
      refine lv_icmp_eq (tgt := 25) hx hb d_Rd_readGone_14 (by decide) (fun c_8 => ?_) (fun c_8 => ?_)
      · replace c_8 : t q_1 = 104 := (nI_eq (a := t q_1) (b := 104) (by omega) (by omega)).mp c_8
        refine lv_aload_n hx hb d_Rd_readGone_25 rfl (lv_at hl 1 rfl) ?_
        refine lv_dup hx hb d_Rd_readGone_26 rfl ?_
        refine u_get hx hb hts inRd hown hK hV hn 0 rfl rfl 2 (by decide) w_fl_Rd_19 rfl rfl d_Rd_readGone_27 ?_
        refine lv_iconst (v := 1) hx hb d_Rd_readGone_30 (by decide) ?_
        refine e_iadd (v := nI (q_1 + 1)) hx hb d_Rd_readGone_31 (nI_add q_1 1) ?_
        refine u_put hx hb hts inRd tyRd tyRd_ok nmRd hown hK hV hn 0 rfl rfl 2 (by decide) w_fl_Rd_19 rfl rfl rfl rfl (Nat.le_of_ble_eq_true rfl) d_Rd_readGone_32 (fun H locs hV hz9 => ?_)
        have hV : vS G.1 cls lo s H locs (vU V [(rd, eO 3 [.ref tp, .int (nI n), .int (nI (q_1 + 1))]), (tp, eI (gB G) 400 f), (tw, eO 5 [.ref ps, .ref bl, .ref sn, .ref tu]), (ps, eQ (gP G) 61 pf), (bl, eO 4 [.ref b1, .ref b2]), (b1, eI (gI G) 31 fb), (b2, eI (gI G) 31 fc), (sn, eO 4 [.ref s1, .ref s2]), (s1, eI (gI G) 31 fs), (s2, eI (gI G) 31 fd)]) := hV
        replace hz := hz9.trans hz
        refine lv_aload_n hx hb d_Rd_readGone_35 rfl (lv_at hl 1 rfl) ?_
        refine lv_iconst (v := 1) hx hb d_Rd_readGone_36 (by decide) ?_
        refine lv_iload_n hx hb d_Rd_readGone_37 rfl (lv_at hl 0 rfl) ?_
        refine lv_bipush (v := 112) hx hb d_Rd_readGone_38 (by decide) ?_
        refine lv_icmp_ne (tgt := 48) hx hb d_Rd_readGone_40 (by decide) (fun _ => ?_) (fun c_9 => absurd ((nI_eq (a := t q_1) (b := 112) (by omega) (by omega)).mp c_9) (by omega))
        refine lv_bipush (v := 30) hx hb d_Rd_readGone_48 (by decide) ?_
        refine v_call (va_runV (As := [.int 1, .int 30]) (rest := []) ⟨hx, hb, hml, hown, hts⟩ (c_Rd_readNumber l G lo _ _ rd tp f t n (q_1 + 1) (nd_sub hn [0, 1] (by decide) rfl) hT h4 (by omega) 1 30 (by omega) (by omega)) (kwV 2 hts w_co_Rd_readNumber rfl rfl w_it_Rd w_ml_Rd_61 w_im_Rd_readNumber w_se_Rd__Rd_readNumber (by decide +kernel) ⟨by decide, by decide⟩) (u_preV hK hV hn [0, 1] rfl hz 0 rfl rfl) rfl rfl hl.1 rfl (lv_room (Nat.le_of_ble_eq_true rfl)) d_Rd_readGone_50 ⟨(Nat.le_of_ble_eq_true rfl), (Nat.le_of_ble_eq_true rfl)⟩) hV (fun r9 V9 H locs hp hV hle => ?_)
        obtain ⟨rfl, rfl, hz⟩ := hp
        replace hV := u_back hV hn [0, 1] rfl
        have hV : vS G.1 cls lo s H locs (vU V [(rd, eO 3 [.ref tp, .int (nI n), .int (nI (rP (num t n 1 30 (q_1 + 1))))]), (tp, eI (gB G) 400 f), (tw, eO 5 [.ref ps, .ref bl, .ref sn, .ref tu]), (ps, eQ (gP G) 61 pf), (bl, eO 4 [.ref b1, .ref b2]), (b1, eI (gI G) 31 fb), (b2, eI (gI G) 31 fc), (sn, eO 4 [.ref s1, .ref s2]), (s1, eI (gI G) 31 fs), (s2, eI (gI G) 31 fd)]) := hV
        obtain ⟨x_10, hx_10⟩ : ∃ z, num t n 1 30 (q_1 + 1) = z := ⟨_, rfl⟩
        rw [hx_10] at hV
        rcases x_10 with e_10 | ⟨v_10, q_10⟩
        · have be_10 : e_10 ≤ n := num_er hx_10 (by omega)
          have hV : vS G.1 cls lo s H locs (vU V [(rd, eO 3 [.ref tp, .int (nI n), .int (nI e_10)]), (tp, eI (gB G) 400 f), (tw, eO 5 [.ref ps, .ref bl, .ref sn, .ref tu]), (ps, eQ (gP G) 61 pf), (bl, eO 4 [.ref b1, .ref b2]), (b1, eI (gI G) 31 fb), (b2, eI (gI G) 31 fc), (sn, eO 4 [.ref s1, .ref s2]), (s1, eI (gI G) 31 fs), (s2, eI (gI G) 31 fd)]) := hV
          refine W.eq (g2 := F0 mi 53 ls [.int ((-1))]) (by rw [hx_10]; rfl) ?_
          refine lv_istore_n (lv' := [(3, .int ((-1))), (2, .int (nI (t q_1))), (0, .ref rd), (1, .ref tw)]) hx hb d_Rd_readGone_53 rfl hl (by decide) rfl (fun ls hl => ?_)
          refine lv_iload_n hx hb d_Rd_readGone_54 rfl (lv_at hl 0 rfl) ?_
          refine lv_iconst (v := (-1)) hx hb d_Rd_readGone_55 (by decide) ?_
          refine lv_icmp_ne (tgt := 61) hx hb d_Rd_readGone_56 (by decide) (fun c_11 => absurd c_11 (by decide)) (fun _ => ?_)
          refine lv_iconst (v := 0) hx hb d_Rd_readGone_59 (by decide) ?_
          have hE : goneR t n p = .inl e_10 := by simp [goneR, sbd_l, sbd_r, hq_1, hx_10, lq_1, c_2, c_8]
          exact W.zret (v := 0) hx hb hr (by decide) (v_end hV ⟨by rw [hE]; rfl, by rw [hE]; rfl, hz⟩) hV.2.1.2.2 d_Rd_readGone_60
        · obtain ⟨lv_10, uv_10, gq_10, bq_10⟩ := num_ok hx_10 (by omega)
          have hV : vS G.1 cls lo s H locs (vU V [(rd, eO 3 [.ref tp, .int (nI n), .int (nI q_10)]), (tp, eI (gB G) 400 f), (tw, eO 5 [.ref ps, .ref bl, .ref sn, .ref tu]), (ps, eQ (gP G) 61 pf), (bl, eO 4 [.ref b1, .ref b2]), (b1, eI (gI G) 31 fb), (b2, eI (gI G) 31 fc), (sn, eO 4 [.ref s1, .ref s2]), (s1, eI (gI G) 31 fs), (s2, eI (gI G) 31 fd)]) := hV
          refine W.eq (g2 := F0 mi 53 ls [.int (nI v_10)]) (by rw [hx_10]; rfl) ?_
          refine lv_istore_n (lv' := [(3, .int (nI v_10)), (2, .int (nI (t q_1))), (0, .ref rd), (1, .ref tw)]) hx hb d_Rd_readGone_53 rfl hl (by decide) rfl (fun ls hl => ?_)
          refine lv_iload_n hx hb d_Rd_readGone_54 rfl (lv_at hl 0 rfl) ?_
          refine lv_iconst (v := (-1)) hx hb d_Rd_readGone_55 (by decide) ?_
          refine lv_icmp_ne (tgt := 61) hx hb d_Rd_readGone_56 (by decide) (fun _ => ?_) (fun c_12 => absurd c_12 (nI_nem (by omega)))
          refine lv_iload_n hx hb d_Rd_readGone_61 rfl (lv_at hl 1 rfl) ?_
          refine lv_bipush (v := 112) hx hb d_Rd_readGone_62 (by decide) ?_
          refine lv_icmp_ne (tgt := 76) hx hb d_Rd_readGone_64 (by decide) (fun _ => ?_) (fun c_13 => absurd ((nI_eq (a := t q_1) (b := 112) (by omega) (by omega)).mp c_13) (by omega))
          refine lv_iload_n hx hb d_Rd_readGone_76 rfl (lv_at hl 1 rfl) ?_
          refine lv_bipush (v := 104) hx hb d_Rd_readGone_77 (by decide) ?_
          refine lv_icmp_ne (tgt := 95) hx hb d_Rd_readGone_79 (by decide) (fun c_14 => absurd ((nI_eq (a := t q_1) (b := 104) (by omega) (by omega)).mpr (by omega)) c_14) (fun _ => ?_)
          refine lv_aload_n hx hb d_Rd_readGone_82 rfl (lv_at hl 3 rfl) ?_
          refine u_get hx hb hts inTw hown hK hV hn 2 rfl rfl 1 (by decide) w_fl_Rd_47 rfl rfl d_Rd_readGone_83 ?_
          refine lv_iload_n hx hb d_Rd_readGone_86 rfl (lv_at hl 0 rfl) ?_
          refine lv_iconst (v := 0) hx hb d_Rd_readGone_87 (by decide) ?_
          refine lv_iconst (v := 0) hx hb d_Rd_readGone_88 (by decide) ?_
          refine v_call (va_runV (As := [.int (nI v_10), .int 0, .int 0]) (rest := []) ⟨hx, hb, hml, hown, hts⟩ (c_Sp_put l G lo _ _ bl b1 b2 fb fc v_10 0 0 (nd_sub hn [4, 5, 6] (by decide) rfl) (by omega) (by omega)) (kwV 3 hts w_co_Sp_put rfl rfl w_it_Sp w_ml_Rd_148 w_im_Sp_put w_se_Sp__Sp_put (by decide +kernel) ⟨by decide, by decide⟩) (u_preV hK hV hn [4, 5, 6] rfl hz 4 rfl rfl) rfl rfl hl.1 rfl (lv_room (Nat.le_of_ble_eq_true rfl)) d_Rd_readGone_89 ⟨(Nat.le_of_ble_eq_true rfl), (Nat.le_of_ble_eq_true rfl)⟩) hV (fun r9 V9 H locs hp hV hle => ?_)
          obtain ⟨rfl, rfl, hz⟩ := hp
          replace hV := u_back hV hn [4, 5, 6] rfl
          have hV : vS G.1 cls lo s H locs (vU V [(rd, eO 3 [.ref tp, .int (nI n), .int (nI q_10)]), (tp, eI (gB G) 400 f), (tw, eO 5 [.ref ps, .ref bl, .ref sn, .ref tu]), (ps, eQ (gP G) 61 pf), (bl, eO 4 [.ref b1, .ref b2]), (b1, eI (gI G) 31 (upd fb v_10 0)), (b2, eI (gI G) 31 (upd fc v_10 0)), (sn, eO 4 [.ref s1, .ref s2]), (s1, eI (gI G) 31 fs), (s2, eI (gI G) 31 fd)]) := hV
          refine lv_goto (tgt := 105) hx hb d_Rd_readGone_92 (by decide) ?_
          refine lv_iconst (v := 1) hx hb d_Rd_readGone_105 (by decide) ?_
          have hE : goneR t n p = .inr ((t q_1, v_10), q_10) := by simp [goneR, sbd_l, sbd_r, hq_1, hx_10, lq_1, c_2, c_8]
          simp only [hE]
          exact W.zret (v := 1) hx hb hr (by decide) (v_end hV ⟨rfl, by simp [gnP, gnS, sR, c_2, c_8], hz⟩) hV.2.1.2.2 d_Rd_readGone_106
      · replace c_8 : ¬ t q_1 = 104 := fun z9 => c_8 ((nI_eq (a := t q_1) (b := 104) (by omega) (by omega)).mpr z9)
        refine lv_iload_n hx hb d_Rd_readGone_17 rfl (lv_at hl 0 rfl) ?_
        refine lv_bipush (v := 115) hx hb d_Rd_readGone_18 (by decide) ?_
        refine lv_icmp_eq (tgt := 25) hx hb d_Rd_readGone_20 (by decide) (fun c_15 => ?_) (fun c_15 => ?_)
        · replace c_15 : t q_1 = 115 := (nI_eq (a := t q_1) (b := 115) (by omega) (by omega)).mp c_15
          refine lv_aload_n hx hb d_Rd_readGone_25 rfl (lv_at hl 1 rfl) ?_
          refine lv_dup hx hb d_Rd_readGone_26 rfl ?_
          refine u_get hx hb hts inRd hown hK hV hn 0 rfl rfl 2 (by decide) w_fl_Rd_19 rfl rfl d_Rd_readGone_27 ?_
          refine lv_iconst (v := 1) hx hb d_Rd_readGone_30 (by decide) ?_
          refine e_iadd (v := nI (q_1 + 1)) hx hb d_Rd_readGone_31 (nI_add q_1 1) ?_
          refine u_put hx hb hts inRd tyRd tyRd_ok nmRd hown hK hV hn 0 rfl rfl 2 (by decide) w_fl_Rd_19 rfl rfl rfl rfl (Nat.le_of_ble_eq_true rfl) d_Rd_readGone_32 (fun H locs hV hz9 => ?_)
          have hV : vS G.1 cls lo s H locs (vU V [(rd, eO 3 [.ref tp, .int (nI n), .int (nI (q_1 + 1))]), (tp, eI (gB G) 400 f), (tw, eO 5 [.ref ps, .ref bl, .ref sn, .ref tu]), (ps, eQ (gP G) 61 pf), (bl, eO 4 [.ref b1, .ref b2]), (b1, eI (gI G) 31 fb), (b2, eI (gI G) 31 fc), (sn, eO 4 [.ref s1, .ref s2]), (s1, eI (gI G) 31 fs), (s2, eI (gI G) 31 fd)]) := hV
          replace hz := hz9.trans hz
          refine lv_aload_n hx hb d_Rd_readGone_35 rfl (lv_at hl 1 rfl) ?_
          refine lv_iconst (v := 1) hx hb d_Rd_readGone_36 (by decide) ?_
          refine lv_iload_n hx hb d_Rd_readGone_37 rfl (lv_at hl 0 rfl) ?_
          refine lv_bipush (v := 112) hx hb d_Rd_readGone_38 (by decide) ?_
          refine lv_icmp_ne (tgt := 48) hx hb d_Rd_readGone_40 (by decide) (fun _ => ?_) (fun c_16 => absurd ((nI_eq (a := t q_1) (b := 112) (by omega) (by omega)).mp c_16) (by omega))
          refine lv_bipush (v := 30) hx hb d_Rd_readGone_48 (by decide) ?_
          refine v_call (va_runV (As := [.int 1, .int 30]) (rest := []) ⟨hx, hb, hml, hown, hts⟩ (c_Rd_readNumber l G lo _ _ rd tp f t n (q_1 + 1) (nd_sub hn [0, 1] (by decide) rfl) hT h4 (by omega) 1 30 (by omega) (by omega)) (kwV 2 hts w_co_Rd_readNumber rfl rfl w_it_Rd w_ml_Rd_61 w_im_Rd_readNumber w_se_Rd__Rd_readNumber (by decide +kernel) ⟨by decide, by decide⟩) (u_preV hK hV hn [0, 1] rfl hz 0 rfl rfl) rfl rfl hl.1 rfl (lv_room (Nat.le_of_ble_eq_true rfl)) d_Rd_readGone_50 ⟨(Nat.le_of_ble_eq_true rfl), (Nat.le_of_ble_eq_true rfl)⟩) hV (fun r9 V9 H locs hp hV hle => ?_)
          obtain ⟨rfl, rfl, hz⟩ := hp
          replace hV := u_back hV hn [0, 1] rfl
          have hV : vS G.1 cls lo s H locs (vU V [(rd, eO 3 [.ref tp, .int (nI n), .int (nI (rP (num t n 1 30 (q_1 + 1))))]), (tp, eI (gB G) 400 f), (tw, eO 5 [.ref ps, .ref bl, .ref sn, .ref tu]), (ps, eQ (gP G) 61 pf), (bl, eO 4 [.ref b1, .ref b2]), (b1, eI (gI G) 31 fb), (b2, eI (gI G) 31 fc), (sn, eO 4 [.ref s1, .ref s2]), (s1, eI (gI G) 31 fs), (s2, eI (gI G) 31 fd)]) := hV
          obtain ⟨x_17, hx_17⟩ : ∃ z, num t n 1 30 (q_1 + 1) = z := ⟨_, rfl⟩
          rw [hx_17] at hV
          rcases x_17 with e_17 | ⟨v_17, q_17⟩
          · have be_17 : e_17 ≤ n := num_er hx_17 (by omega)
            have hV : vS G.1 cls lo s H locs (vU V [(rd, eO 3 [.ref tp, .int (nI n), .int (nI e_17)]), (tp, eI (gB G) 400 f), (tw, eO 5 [.ref ps, .ref bl, .ref sn, .ref tu]), (ps, eQ (gP G) 61 pf), (bl, eO 4 [.ref b1, .ref b2]), (b1, eI (gI G) 31 fb), (b2, eI (gI G) 31 fc), (sn, eO 4 [.ref s1, .ref s2]), (s1, eI (gI G) 31 fs), (s2, eI (gI G) 31 fd)]) := hV
            refine W.eq (g2 := F0 mi 53 ls [.int ((-1))]) (by rw [hx_17]; rfl) ?_
            refine lv_istore_n (lv' := [(3, .int ((-1))), (2, .int (nI (t q_1))), (0, .ref rd), (1, .ref tw)]) hx hb d_Rd_readGone_53 rfl hl (by decide) rfl (fun ls hl => ?_)
            refine lv_iload_n hx hb d_Rd_readGone_54 rfl (lv_at hl 0 rfl) ?_
            refine lv_iconst (v := (-1)) hx hb d_Rd_readGone_55 (by decide) ?_
            refine lv_icmp_ne (tgt := 61) hx hb d_Rd_readGone_56 (by decide) (fun c_18 => absurd c_18 (by decide)) (fun _ => ?_)
            refine lv_iconst (v := 0) hx hb d_Rd_readGone_59 (by decide) ?_
            have hE : goneR t n p = .inl e_17 := by simp [goneR, sbd_l, sbd_r, hq_1, hx_17, lq_1, c_2, c_8, c_15]
            exact W.zret (v := 0) hx hb hr (by decide) (v_end hV ⟨by rw [hE]; rfl, by rw [hE]; rfl, hz⟩) hV.2.1.2.2 d_Rd_readGone_60
          · obtain ⟨lv_17, uv_17, gq_17, bq_17⟩ := num_ok hx_17 (by omega)
            have hV : vS G.1 cls lo s H locs (vU V [(rd, eO 3 [.ref tp, .int (nI n), .int (nI q_17)]), (tp, eI (gB G) 400 f), (tw, eO 5 [.ref ps, .ref bl, .ref sn, .ref tu]), (ps, eQ (gP G) 61 pf), (bl, eO 4 [.ref b1, .ref b2]), (b1, eI (gI G) 31 fb), (b2, eI (gI G) 31 fc), (sn, eO 4 [.ref s1, .ref s2]), (s1, eI (gI G) 31 fs), (s2, eI (gI G) 31 fd)]) := hV
            refine W.eq (g2 := F0 mi 53 ls [.int (nI v_17)]) (by rw [hx_17]; rfl) ?_
            refine lv_istore_n (lv' := [(3, .int (nI v_17)), (2, .int (nI (t q_1))), (0, .ref rd), (1, .ref tw)]) hx hb d_Rd_readGone_53 rfl hl (by decide) rfl (fun ls hl => ?_)
            refine lv_iload_n hx hb d_Rd_readGone_54 rfl (lv_at hl 0 rfl) ?_
            refine lv_iconst (v := (-1)) hx hb d_Rd_readGone_55 (by decide) ?_
            refine lv_icmp_ne (tgt := 61) hx hb d_Rd_readGone_56 (by decide) (fun _ => ?_) (fun c_19 => absurd c_19 (nI_nem (by omega)))
            refine lv_iload_n hx hb d_Rd_readGone_61 rfl (lv_at hl 1 rfl) ?_
            refine lv_bipush (v := 112) hx hb d_Rd_readGone_62 (by decide) ?_
            refine lv_icmp_ne (tgt := 76) hx hb d_Rd_readGone_64 (by decide) (fun _ => ?_) (fun c_20 => absurd ((nI_eq (a := t q_1) (b := 112) (by omega) (by omega)).mp c_20) (by omega))
            refine lv_iload_n hx hb d_Rd_readGone_76 rfl (lv_at hl 1 rfl) ?_
            refine lv_bipush (v := 104) hx hb d_Rd_readGone_77 (by decide) ?_
            refine lv_icmp_ne (tgt := 95) hx hb d_Rd_readGone_79 (by decide) (fun _ => ?_) (fun c_21 => absurd ((nI_eq (a := t q_1) (b := 104) (by omega) (by omega)).mp c_21) (by omega))
            refine lv_aload_n hx hb d_Rd_readGone_95 rfl (lv_at hl 3 rfl) ?_
            refine u_get hx hb hts inTw hown hK hV hn 2 rfl rfl 2 (by decide) w_fl_Rd_55 rfl rfl d_Rd_readGone_96 ?_
            refine lv_iload_n hx hb d_Rd_readGone_99 rfl (lv_at hl 0 rfl) ?_
            refine lv_iconst (v := 0) hx hb d_Rd_readGone_100 (by decide) ?_
            refine lv_iconst (v := 0) hx hb d_Rd_readGone_101 (by decide) ?_
            refine v_call (va_runV (As := [.int (nI v_17), .int 0, .int 0]) (rest := []) ⟨hx, hb, hml, hown, hts⟩ (c_Sp_put l G lo _ _ sn s1 s2 fs fd v_17 0 0 (nd_sub hn [7, 8, 9] (by decide) rfl) (by omega) (by omega)) (kwV 3 hts w_co_Sp_put rfl rfl w_it_Sp w_ml_Rd_148 w_im_Sp_put w_se_Sp__Sp_put (by decide +kernel) ⟨by decide, by decide⟩) (u_preV hK hV hn [7, 8, 9] rfl hz 7 rfl rfl) rfl rfl hl.1 rfl (lv_room (Nat.le_of_ble_eq_true rfl)) d_Rd_readGone_102 ⟨(Nat.le_of_ble_eq_true rfl), (Nat.le_of_ble_eq_true rfl)⟩) hV (fun r9 V9 H locs hp hV hle => ?_)
            obtain ⟨rfl, rfl, hz⟩ := hp
            replace hV := u_back hV hn [7, 8, 9] rfl
            have hV : vS G.1 cls lo s H locs (vU V [(rd, eO 3 [.ref tp, .int (nI n), .int (nI q_17)]), (tp, eI (gB G) 400 f), (tw, eO 5 [.ref ps, .ref bl, .ref sn, .ref tu]), (ps, eQ (gP G) 61 pf), (bl, eO 4 [.ref b1, .ref b2]), (b1, eI (gI G) 31 fb), (b2, eI (gI G) 31 fc), (sn, eO 4 [.ref s1, .ref s2]), (s1, eI (gI G) 31 (upd fs v_17 0)), (s2, eI (gI G) 31 (upd fd v_17 0))]) := hV
            refine lv_iconst (v := 1) hx hb d_Rd_readGone_105 (by decide) ?_
            have hE : goneR t n p = .inr ((t q_1, v_17), q_17) := by simp [goneR, sbd_l, sbd_r, hq_1, hx_17, lq_1, c_2, c_8, c_15]
            simp only [hE]
            exact W.zret (v := 1) hx hb hr (by decide) (v_end hV ⟨rfl, by simp [gnP, gnS, sR, c_2, c_8, c_15], hz⟩) hV.2.1.2.2 d_Rd_readGone_106
        · replace c_15 : ¬ t q_1 = 115 := fun z9 => c_15 ((nI_eq (a := t q_1) (b := 115) (by omega) (by omega)).mpr z9)
          refine lv_iconst (v := 0) hx hb d_Rd_readGone_23 (by decide) ?_
          have hE : goneR t n p = .inl q_1 := by simp [goneR, sbd_l, sbd_r, hq_1, lq_1, c_2, c_8, c_15]
          exact W.zret (v := 0) hx hb hr (by decide) (v_end hV ⟨by rw [hE]; rfl, by rw [hE]; rfl, hz⟩) hV.2.1.2.2 d_Rd_readGone_24
  · have hV : vS G.1 cls lo s H locs (vU V [(rd, eO 3 [.ref tp, .int (nI n), .int (nI q_1)]), (tp, eI (gB G) 400 f), (tw, eO 5 [.ref ps, .ref bl, .ref sn, .ref tu]), (ps, eQ (gP G) 61 pf), (bl, eO 4 [.ref b1, .ref b2]), (b1, eI (gI G) 31 fb), (b2, eI (gI G) 31 fc), (sn, eO 4 [.ref s1, .ref s2]), (s1, eI (gI G) 31 fs), (s2, eI (gI G) 31 fd)]) := hV
    refine W.eq (g2 := F0 mi 4 ls [.int ((-1))]) (by rw [hq_1, rK_out (by omega)]; rfl) ?_
    refine lv_istore_n (lv' := [(2, .int ((-1))), (0, .ref rd), (1, .ref tw)]) hx hb d_Rd_readGone_4 rfl hl (by decide) rfl (fun ls hl => ?_)
    refine lv_iload_n hx hb d_Rd_readGone_5 rfl (lv_at hl 0 rfl) ?_
    refine lv_bipush (v := 112) hx hb d_Rd_readGone_6 (by decide) ?_
    refine lv_icmp_eq (tgt := 25) hx hb d_Rd_readGone_8 (by decide) (fun c_22 => absurd c_22 (by decide)) (fun _ => ?_)
    refine lv_iload_n hx hb d_Rd_readGone_11 rfl (lv_at hl 0 rfl) ?_
    refine lv_bipush (v := 104) hx hb d_Rd_readGone_12 (by decide) ?_
    refine lv_icmp_eq (tgt := 25) hx hb d_Rd_readGone_14 (by decide) (fun c_23 => absurd c_23 (by decide)) (fun _ => ?_)
    refine lv_iload_n hx hb d_Rd_readGone_17 rfl (lv_at hl 0 rfl) ?_
    refine lv_bipush (v := 115) hx hb d_Rd_readGone_18 (by decide) ?_
    refine lv_icmp_eq (tgt := 25) hx hb d_Rd_readGone_20 (by decide) (fun c_24 => absurd c_24 (by decide)) (fun _ => ?_)
    refine lv_iconst (v := 0) hx hb d_Rd_readGone_23 (by decide) ?_
    have hE : goneR t n p = .inl q_1 := by simp [goneR, sbd_l, sbd_r, hq_1, Nat.not_lt.mpr lq_1]
    exact W.zret (v := 0) hx hb hr (by decide) (v_end hV ⟨by rw [hE]; rfl, by rw [hE]; rfl, hz⟩) hV.2.1.2.2 d_Rd_readGone_24
