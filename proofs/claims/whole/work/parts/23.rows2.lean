theorem d_Rd_readNameAndArea_0 : decode b_Rd_readNameAndArea 0 = .ok (.aload_n 0, 1) := by decide +kernel
theorem d_Rd_readNameAndArea_1 : decode b_Rd_readNameAndArea 1 = .ok (.invokevirtual 22, 3) := by decide +kernel
theorem d_Rd_readNameAndArea_4 : decode b_Rd_readNameAndArea 4 = .ok (.bipush 34, 2) := by decide +kernel
theorem d_Rd_readNameAndArea_6 : decode b_Rd_readNameAndArea 6 = .ok (.if_icmp .eq 5, 3) := by decide +kernel
theorem d_Rd_readNameAndArea_9 : decode b_Rd_readNameAndArea 9 = .ok (.iconst 1, 1) := by decide +kernel
theorem d_Rd_readNameAndArea_10 : decode b_Rd_readNameAndArea 10 = .ok (.ireturn, 1) := by decide +kernel
theorem d_Rd_readNameAndArea_11 : decode b_Rd_readNameAndArea 11 = .ok (.aload_n 0, 1) := by decide +kernel
theorem d_Rd_readNameAndArea_12 : decode b_Rd_readNameAndArea 12 = .ok (.dup, 1) := by decide +kernel
theorem d_Rd_readNameAndArea_13 : decode b_Rd_readNameAndArea 13 = .ok (.getfield 19, 3) := by decide +kernel
theorem d_Rd_readNameAndArea_16 : decode b_Rd_readNameAndArea 16 = .ok (.iconst 1, 1) := by decide +kernel
theorem d_Rd_readNameAndArea_17 : decode b_Rd_readNameAndArea 17 = .ok (.iadd, 1) := by decide +kernel
theorem d_Rd_readNameAndArea_18 : decode b_Rd_readNameAndArea 18 = .ok (.putfield 19, 3) := by decide +kernel
theorem d_Rd_readNameAndArea_21 : decode b_Rd_readNameAndArea 21 = .ok (.iconst 0, 1) := by decide +kernel
theorem d_Rd_readNameAndArea_22 : decode b_Rd_readNameAndArea 22 = .ok (.istore_n 2, 1) := by decide +kernel
theorem d_Rd_readNameAndArea_23 : decode b_Rd_readNameAndArea 23 = .ok (.iload_n 2, 1) := by decide +kernel
theorem d_Rd_readNameAndArea_24 : decode b_Rd_readNameAndArea 24 = .ok (.bipush 8, 2) := by decide +kernel
theorem d_Rd_readNameAndArea_26 : decode b_Rd_readNameAndArea 26 = .ok (.if_icmp .ge 39, 3) := by decide +kernel
theorem d_Rd_readNameAndArea_29 : decode b_Rd_readNameAndArea 29 = .ok (.aload_n 0, 1) := by decide +kernel
theorem d_Rd_readNameAndArea_30 : decode b_Rd_readNameAndArea 30 = .ok (.invokevirtual 129, 3) := by decide +kernel
theorem d_Rd_readNameAndArea_33 : decode b_Rd_readNameAndArea 33 = .ok (.ifCond .eq 32, 3) := by decide +kernel
theorem d_Rd_readNameAndArea_36 : decode b_Rd_readNameAndArea 36 = .ok (.aload_n 1, 1) := by decide +kernel
theorem d_Rd_readNameAndArea_37 : decode b_Rd_readNameAndArea 37 = .ok (.aload_n 0, 1) := by decide +kernel
theorem d_Rd_readNameAndArea_38 : decode b_Rd_readNameAndArea 38 = .ok (.getfield 9, 3) := by decide +kernel
theorem d_Rd_readNameAndArea_41 : decode b_Rd_readNameAndArea 41 = .ok (.aload_n 0, 1) := by decide +kernel
theorem d_Rd_readNameAndArea_42 : decode b_Rd_readNameAndArea 42 = .ok (.getfield 19, 3) := by decide +kernel
theorem d_Rd_readNameAndArea_45 : decode b_Rd_readNameAndArea 45 = .ok (.baload, 1) := by decide +kernel
theorem d_Rd_readNameAndArea_46 : decode b_Rd_readNameAndArea 46 = .ok (.invokevirtual 133, 3) := by decide +kernel
theorem d_Rd_readNameAndArea_49 : decode b_Rd_readNameAndArea 49 = .ok (.aload_n 0, 1) := by decide +kernel
theorem d_Rd_readNameAndArea_50 : decode b_Rd_readNameAndArea 50 = .ok (.dup, 1) := by decide +kernel
theorem d_Rd_readNameAndArea_51 : decode b_Rd_readNameAndArea 51 = .ok (.getfield 19, 3) := by decide +kernel
theorem d_Rd_readNameAndArea_54 : decode b_Rd_readNameAndArea 54 = .ok (.iconst 1, 1) := by decide +kernel
theorem d_Rd_readNameAndArea_55 : decode b_Rd_readNameAndArea 55 = .ok (.iadd, 1) := by decide +kernel
theorem d_Rd_readNameAndArea_56 : decode b_Rd_readNameAndArea 56 = .ok (.putfield 19, 3) := by decide +kernel
theorem d_Rd_readNameAndArea_59 : decode b_Rd_readNameAndArea 59 = .ok (.iinc 2 1, 3) := by decide +kernel
theorem d_Rd_readNameAndArea_62 : decode b_Rd_readNameAndArea 62 = .ok (.goto (-39), 3) := by decide +kernel
theorem d_Rd_readNameAndArea_65 : decode b_Rd_readNameAndArea 65 = .ok (.aload_n 1, 1) := by decide +kernel
theorem d_Rd_readNameAndArea_66 : decode b_Rd_readNameAndArea 66 = .ok (.getfield 137, 3) := by decide +kernel
theorem d_Rd_readNameAndArea_69 : decode b_Rd_readNameAndArea 69 = .ok (.ifCond .eq 28, 3) := by decide +kernel
theorem d_Rd_readNameAndArea_72 : decode b_Rd_readNameAndArea 72 = .ok (.aload_n 0, 1) := by decide +kernel
theorem d_Rd_readNameAndArea_73 : decode b_Rd_readNameAndArea 73 = .ok (.getfield 19, 3) := by decide +kernel
theorem d_Rd_readNameAndArea_76 : decode b_Rd_readNameAndArea 76 = .ok (.aload_n 0, 1) := by decide +kernel
theorem d_Rd_readNameAndArea_77 : decode b_Rd_readNameAndArea 77 = .ok (.getfield 15, 3) := by decide +kernel
theorem d_Rd_readNameAndArea_80 : decode b_Rd_readNameAndArea 80 = .ok (.if_icmp .ge 17, 3) := by decide +kernel
theorem d_Rd_readNameAndArea_83 : decode b_Rd_readNameAndArea 83 = .ok (.aload_n 0, 1) := by decide +kernel
theorem d_Rd_readNameAndArea_84 : decode b_Rd_readNameAndArea 84 = .ok (.getfield 9, 3) := by decide +kernel
theorem d_Rd_readNameAndArea_87 : decode b_Rd_readNameAndArea 87 = .ok (.aload_n 0, 1) := by decide +kernel
theorem d_Rd_readNameAndArea_88 : decode b_Rd_readNameAndArea 88 = .ok (.getfield 19, 3) := by decide +kernel
theorem d_Rd_readNameAndArea_91 : decode b_Rd_readNameAndArea 91 = .ok (.baload, 1) := by decide +kernel
theorem d_Rd_readNameAndArea_92 : decode b_Rd_readNameAndArea 92 = .ok (.bipush 34, 2) := by decide +kernel
theorem d_Rd_readNameAndArea_94 : decode b_Rd_readNameAndArea 94 = .ok (.if_icmp .eq 5, 3) := by decide +kernel
theorem d_Rd_readNameAndArea_97 : decode b_Rd_readNameAndArea 97 = .ok (.iconst 0, 1) := by decide +kernel
theorem d_Rd_readNameAndArea_98 : decode b_Rd_readNameAndArea 98 = .ok (.ireturn, 1) := by decide +kernel
theorem d_Rd_readNameAndArea_99 : decode b_Rd_readNameAndArea 99 = .ok (.aload_n 0, 1) := by decide +kernel
theorem d_Rd_readNameAndArea_100 : decode b_Rd_readNameAndArea 100 = .ok (.dup, 1) := by decide +kernel
theorem d_Rd_readNameAndArea_101 : decode b_Rd_readNameAndArea 101 = .ok (.getfield 19, 3) := by decide +kernel
theorem d_Rd_readNameAndArea_104 : decode b_Rd_readNameAndArea 104 = .ok (.iconst 1, 1) := by decide +kernel
theorem d_Rd_readNameAndArea_105 : decode b_Rd_readNameAndArea 105 = .ok (.iadd, 1) := by decide +kernel
theorem d_Rd_readNameAndArea_106 : decode b_Rd_readNameAndArea 106 = .ok (.putfield 19, 3) := by decide +kernel
theorem d_Rd_readNameAndArea_109 : decode b_Rd_readNameAndArea 109 = .ok (.aload_n 0, 1) := by decide +kernel
theorem d_Rd_readNameAndArea_110 : decode b_Rd_readNameAndArea 110 = .ok (.bipush 35, 2) := by decide +kernel
theorem d_Rd_readNameAndArea_112 : decode b_Rd_readNameAndArea 112 = .ok (.invokevirtual 30, 3) := by decide +kernel
theorem d_Rd_readNameAndArea_115 : decode b_Rd_readNameAndArea 115 = .ok (.ifCond .ne 5, 3) := by decide +kernel
theorem d_Rd_readNameAndArea_118 : decode b_Rd_readNameAndArea 118 = .ok (.iconst 0, 1) := by decide +kernel
theorem d_Rd_readNameAndArea_119 : decode b_Rd_readNameAndArea 119 = .ok (.ireturn, 1) := by decide +kernel
theorem d_Rd_readNameAndArea_120 : decode b_Rd_readNameAndArea 120 = .ok (.aload_n 1, 1) := by decide +kernel
theorem d_Rd_readNameAndArea_121 : decode b_Rd_readNameAndArea 121 = .ok (.aload_n 0, 1) := by decide +kernel
theorem d_Rd_readNameAndArea_122 : decode b_Rd_readNameAndArea 122 = .ok (.iconst 0, 1) := by decide +kernel
theorem d_Rd_readNameAndArea_123 : decode b_Rd_readNameAndArea 123 = .ok (.bipush 9, 2) := by decide +kernel
theorem d_Rd_readNameAndArea_125 : decode b_Rd_readNameAndArea 125 = .ok (.invokevirtual 61, 3) := by decide +kernel
theorem d_Rd_readNameAndArea_128 : decode b_Rd_readNameAndArea 128 = .ok (.putfield 140, 3) := by decide +kernel
theorem d_Rd_readNameAndArea_131 : decode b_Rd_readNameAndArea 131 = .ok (.aload_n 1, 1) := by decide +kernel
theorem d_Rd_readNameAndArea_132 : decode b_Rd_readNameAndArea 132 = .ok (.getfield 140, 3) := by decide +kernel
theorem d_Rd_readNameAndArea_135 : decode b_Rd_readNameAndArea 135 = .ok (.iconst (-1), 1) := by decide +kernel
theorem d_Rd_readNameAndArea_136 : decode b_Rd_readNameAndArea 136 = .ok (.if_icmp .eq 7, 3) := by decide +kernel
theorem d_Rd_readNameAndArea_139 : decode b_Rd_readNameAndArea 139 = .ok (.iconst 1, 1) := by decide +kernel
theorem d_Rd_readNameAndArea_140 : decode b_Rd_readNameAndArea 140 = .ok (.goto 4, 3) := by decide +kernel
theorem d_Rd_readNameAndArea_143 : decode b_Rd_readNameAndArea 143 = .ok (.iconst 0, 1) := by decide +kernel
theorem d_Rd_readNameAndArea_144 : decode b_Rd_readNameAndArea 144 = .ok (.ireturn, 1) := by decide +kernel
theorem d_Rd_readLengthKindSpeed_0 : decode b_Rd_readLengthKindSpeed 0 = .ok (.aload_n 0, 1) := by decide +kernel
theorem d_Rd_readLengthKindSpeed_1 : decode b_Rd_readLengthKindSpeed 1 = .ok (.bipush 58, 2) := by decide +kernel
theorem d_Rd_readLengthKindSpeed_3 : decode b_Rd_readLengthKindSpeed 3 = .ok (.invokevirtual 30, 3) := by decide +kernel
theorem d_Rd_readLengthKindSpeed_6 : decode b_Rd_readLengthKindSpeed 6 = .ok (.ifCond .ne 5, 3) := by decide +kernel
theorem d_Rd_readLengthKindSpeed_9 : decode b_Rd_readLengthKindSpeed 9 = .ok (.iconst 0, 1) := by decide +kernel
theorem d_Rd_readLengthKindSpeed_10 : decode b_Rd_readLengthKindSpeed 10 = .ok (.ireturn, 1) := by decide +kernel
theorem d_Rd_readLengthKindSpeed_11 : decode b_Rd_readLengthKindSpeed 11 = .ok (.aload_n 1, 1) := by decide +kernel
theorem d_Rd_readLengthKindSpeed_12 : decode b_Rd_readLengthKindSpeed 12 = .ok (.aload_n 0, 1) := by decide +kernel
theorem d_Rd_readLengthKindSpeed_13 : decode b_Rd_readLengthKindSpeed 13 = .ok (.iconst 1, 1) := by decide +kernel
theorem d_Rd_readLengthKindSpeed_14 : decode b_Rd_readLengthKindSpeed 14 = .ok (.sipush 9999, 3) := by decide +kernel
theorem d_Rd_readLengthKindSpeed_17 : decode b_Rd_readLengthKindSpeed 17 = .ok (.invokevirtual 61, 3) := by decide +kernel
theorem d_Rd_readLengthKindSpeed_20 : decode b_Rd_readLengthKindSpeed 20 = .ok (.putfield 98, 3) := by decide +kernel
theorem d_Rd_readLengthKindSpeed_23 : decode b_Rd_readLengthKindSpeed 23 = .ok (.aload_n 1, 1) := by decide +kernel
theorem d_Rd_readLengthKindSpeed_24 : decode b_Rd_readLengthKindSpeed 24 = .ok (.getfield 98, 3) := by decide +kernel
theorem d_Rd_readLengthKindSpeed_27 : decode b_Rd_readLengthKindSpeed 27 = .ok (.iconst (-1), 1) := by decide +kernel
theorem d_Rd_readLengthKindSpeed_28 : decode b_Rd_readLengthKindSpeed 28 = .ok (.if_icmp .ne 5, 3) := by decide +kernel
theorem d_Rd_readLengthKindSpeed_31 : decode b_Rd_readLengthKindSpeed 31 = .ok (.iconst 0, 1) := by decide +kernel
theorem d_Rd_readLengthKindSpeed_32 : decode b_Rd_readLengthKindSpeed 32 = .ok (.ireturn, 1) := by decide +kernel
theorem d_Rd_readLengthKindSpeed_33 : decode b_Rd_readLengthKindSpeed 33 = .ok (.aload_n 1, 1) := by decide +kernel
theorem d_Rd_readLengthKindSpeed_34 : decode b_Rd_readLengthKindSpeed 34 = .ok (.aload_n 0, 1) := by decide +kernel
theorem d_Rd_readLengthKindSpeed_35 : decode b_Rd_readLengthKindSpeed 35 = .ok (.invokevirtual 22, 3) := by decide +kernel
theorem d_Rd_readLengthKindSpeed_38 : decode b_Rd_readLengthKindSpeed 38 = .ok (.invokestatic 99, 3) := by decide +kernel
theorem d_Rd_readLengthKindSpeed_41 : decode b_Rd_readLengthKindSpeed 41 = .ok (.putfield 103, 3) := by decide +kernel
theorem d_Rd_readLengthKindSpeed_44 : decode b_Rd_readLengthKindSpeed 44 = .ok (.aload_n 1, 1) := by decide +kernel
theorem d_Rd_readLengthKindSpeed_45 : decode b_Rd_readLengthKindSpeed 45 = .ok (.getfield 103, 3) := by decide +kernel
theorem d_Rd_readLengthKindSpeed_48 : decode b_Rd_readLengthKindSpeed 48 = .ok (.iconst (-1), 1) := by decide +kernel
theorem d_Rd_readLengthKindSpeed_49 : decode b_Rd_readLengthKindSpeed 49 = .ok (.if_icmp .ne 5, 3) := by decide +kernel
theorem d_Rd_readLengthKindSpeed_52 : decode b_Rd_readLengthKindSpeed 52 = .ok (.iconst 0, 1) := by decide +kernel
theorem d_Rd_readLengthKindSpeed_53 : decode b_Rd_readLengthKindSpeed 53 = .ok (.ireturn, 1) := by decide +kernel
theorem d_Rd_readLengthKindSpeed_54 : decode b_Rd_readLengthKindSpeed 54 = .ok (.aload_n 0, 1) := by decide +kernel
theorem d_Rd_readLengthKindSpeed_55 : decode b_Rd_readLengthKindSpeed 55 = .ok (.dup, 1) := by decide +kernel
theorem d_Rd_readLengthKindSpeed_56 : decode b_Rd_readLengthKindSpeed 56 = .ok (.getfield 19, 3) := by decide +kernel
theorem d_Rd_readLengthKindSpeed_59 : decode b_Rd_readLengthKindSpeed 59 = .ok (.iconst 1, 1) := by decide +kernel
theorem d_Rd_readLengthKindSpeed_60 : decode b_Rd_readLengthKindSpeed 60 = .ok (.iadd, 1) := by decide +kernel
theorem d_Rd_readLengthKindSpeed_61 : decode b_Rd_readLengthKindSpeed 61 = .ok (.putfield 19, 3) := by decide +kernel
theorem d_Rd_readLengthKindSpeed_64 : decode b_Rd_readLengthKindSpeed 64 = .ok (.aload_n 1, 1) := by decide +kernel
theorem d_Rd_readLengthKindSpeed_65 : decode b_Rd_readLengthKindSpeed 65 = .ok (.aload_n 0, 1) := by decide +kernel
theorem d_Rd_readLengthKindSpeed_66 : decode b_Rd_readLengthKindSpeed 66 = .ok (.iconst 1, 1) := by decide +kernel
theorem d_Rd_readLengthKindSpeed_67 : decode b_Rd_readLengthKindSpeed 67 = .ok (.bipush 99, 2) := by decide +kernel
theorem d_Rd_readLengthKindSpeed_69 : decode b_Rd_readLengthKindSpeed 69 = .ok (.invokevirtual 61, 3) := by decide +kernel
theorem d_Rd_readLengthKindSpeed_72 : decode b_Rd_readLengthKindSpeed 72 = .ok (.putfield 106, 3) := by decide +kernel
theorem d_Rd_readLengthKindSpeed_75 : decode b_Rd_readLengthKindSpeed 75 = .ok (.aload_n 1, 1) := by decide +kernel
theorem d_Rd_readLengthKindSpeed_76 : decode b_Rd_readLengthKindSpeed 76 = .ok (.getfield 106, 3) := by decide +kernel
theorem d_Rd_readLengthKindSpeed_79 : decode b_Rd_readLengthKindSpeed 79 = .ok (.iconst (-1), 1) := by decide +kernel
theorem d_Rd_readLengthKindSpeed_80 : decode b_Rd_readLengthKindSpeed 80 = .ok (.if_icmp .eq 7, 3) := by decide +kernel
theorem d_Rd_readLengthKindSpeed_83 : decode b_Rd_readLengthKindSpeed 83 = .ok (.iconst 1, 1) := by decide +kernel
theorem d_Rd_readLengthKindSpeed_84 : decode b_Rd_readLengthKindSpeed 84 = .ok (.goto 4, 3) := by decide +kernel
theorem d_Rd_readLengthKindSpeed_87 : decode b_Rd_readLengthKindSpeed 87 = .ok (.iconst 0, 1) := by decide +kernel
theorem d_Rd_readLengthKindSpeed_88 : decode b_Rd_readLengthKindSpeed 88 = .ok (.ireturn, 1) := by decide +kernel
theorem d_Rd_readPiece_0 : decode b_Rd_readPiece 0 = .ok (.aload_n 0, 1) := by decide +kernel
theorem d_Rd_readPiece_1 : decode b_Rd_readPiece 1 = .ok (.iconst 1, 1) := by decide +kernel
theorem d_Rd_readPiece_2 : decode b_Rd_readPiece 2 = .ok (.bipush 60, 2) := by decide +kernel
theorem d_Rd_readPiece_4 : decode b_Rd_readPiece 4 = .ok (.invokevirtual 61, 3) := by decide +kernel
theorem d_Rd_readPiece_7 : decode b_Rd_readPiece 7 = .ok (.istore_n 2, 1) := by decide +kernel
theorem d_Rd_readPiece_8 : decode b_Rd_readPiece 8 = .ok (.iload_n 2, 1) := by decide +kernel
theorem d_Rd_readPiece_9 : decode b_Rd_readPiece 9 = .ok (.iconst (-1), 1) := by decide +kernel
theorem d_Rd_readPiece_10 : decode b_Rd_readPiece 10 = .ok (.if_icmp .eq 12, 3) := by decide +kernel
theorem d_Rd_readPiece_13 : decode b_Rd_readPiece 13 = .ok (.aload_n 0, 1) := by decide +kernel
theorem d_Rd_readPiece_14 : decode b_Rd_readPiece 14 = .ok (.bipush 61, 2) := by decide +kernel
theorem d_Rd_readPiece_16 : decode b_Rd_readPiece 16 = .ok (.invokevirtual 30, 3) := by decide +kernel
theorem d_Rd_readPiece_19 : decode b_Rd_readPiece 19 = .ok (.ifCond .ne 5, 3) := by decide +kernel
theorem d_Rd_readPiece_22 : decode b_Rd_readPiece 22 = .ok (.iconst 0, 1) := by decide +kernel
theorem d_Rd_readPiece_23 : decode b_Rd_readPiece 23 = .ok (.ireturn, 1) := by decide +kernel
theorem d_Rd_readPiece_24 : decode b_Rd_readPiece 24 = .ok (.new 65, 3) := by decide +kernel
theorem d_Rd_readPiece_27 : decode b_Rd_readPiece 27 = .ok (.dup, 1) := by decide +kernel
theorem d_Rd_readPiece_28 : decode b_Rd_readPiece 28 = .ok (.invokespecial 67, 3) := by decide +kernel
theorem d_Rd_readPiece_31 : decode b_Rd_readPiece 31 = .ok (.astore_n 3, 1) := by decide +kernel
theorem d_Rd_readPiece_32 : decode b_Rd_readPiece 32 = .ok (.aload_n 0, 1) := by decide +kernel
theorem d_Rd_readPiece_33 : decode b_Rd_readPiece 33 = .ok (.aload_n 3, 1) := by decide +kernel
theorem d_Rd_readPiece_34 : decode b_Rd_readPiece 34 = .ok (.invokevirtual 68, 3) := by decide +kernel
theorem d_Rd_readPiece_37 : decode b_Rd_readPiece 37 = .ok (.ifCond .eq 35, 3) := by decide +kernel
theorem d_Rd_readPiece_40 : decode b_Rd_readPiece 40 = .ok (.aload_n 0, 1) := by decide +kernel
theorem d_Rd_readPiece_41 : decode b_Rd_readPiece 41 = .ok (.aload_n 3, 1) := by decide +kernel
theorem d_Rd_readPiece_42 : decode b_Rd_readPiece 42 = .ok (.invokevirtual 72, 3) := by decide +kernel
theorem d_Rd_readPiece_45 : decode b_Rd_readPiece 45 = .ok (.ifCond .eq 27, 3) := by decide +kernel
theorem d_Rd_readPiece_48 : decode b_Rd_readPiece 48 = .ok (.aload_n 0, 1) := by decide +kernel
theorem d_Rd_readPiece_49 : decode b_Rd_readPiece 49 = .ok (.aload_n 3, 1) := by decide +kernel
theorem d_Rd_readPiece_50 : decode b_Rd_readPiece 50 = .ok (.invokevirtual 75, 3) := by decide +kernel
theorem d_Rd_readPiece_53 : decode b_Rd_readPiece 53 = .ok (.ifCond .eq 19, 3) := by decide +kernel
theorem d_Rd_readPiece_56 : decode b_Rd_readPiece 56 = .ok (.aload_n 0, 1) := by decide +kernel
theorem d_Rd_readPiece_57 : decode b_Rd_readPiece 57 = .ok (.aload_n 3, 1) := by decide +kernel
theorem d_Rd_readPiece_58 : decode b_Rd_readPiece 58 = .ok (.invokevirtual 78, 3) := by decide +kernel
theorem d_Rd_readPiece_61 : decode b_Rd_readPiece 61 = .ok (.ifCond .eq 11, 3) := by decide +kernel
theorem d_Rd_readPiece_64 : decode b_Rd_readPiece 64 = .ok (.aload_n 0, 1) := by decide +kernel
theorem d_Rd_readPiece_65 : decode b_Rd_readPiece 65 = .ok (.aload_n 3, 1) := by decide +kernel
theorem d_Rd_readPiece_66 : decode b_Rd_readPiece 66 = .ok (.invokevirtual 81, 3) := by decide +kernel
theorem d_Rd_readPiece_69 : decode b_Rd_readPiece 69 = .ok (.ifCond .ne 5, 3) := by decide +kernel
theorem d_Rd_readPiece_72 : decode b_Rd_readPiece 72 = .ok (.iconst 0, 1) := by decide +kernel
theorem d_Rd_readPiece_73 : decode b_Rd_readPiece 73 = .ok (.ireturn, 1) := by decide +kernel
theorem d_Rd_readPiece_74 : decode b_Rd_readPiece 74 = .ok (.aload_n 1, 1) := by decide +kernel
theorem d_Rd_readPiece_75 : decode b_Rd_readPiece 75 = .ok (.iload_n 2, 1) := by decide +kernel
theorem d_Rd_readPiece_76 : decode b_Rd_readPiece 76 = .ok (.aload_n 3, 1) := by decide +kernel
theorem d_Rd_readPiece_77 : decode b_Rd_readPiece 77 = .ok (.invokevirtual 84, 3) := by decide +kernel
theorem d_Rd_readPiece_80 : decode b_Rd_readPiece 80 = .ok (.iconst 1, 1) := by decide +kernel
theorem d_Rd_readPiece_81 : decode b_Rd_readPiece 81 = .ok (.ireturn, 1) := by decide +kernel
theorem d_Rd_readRow_0 : decode b_Rd_readRow 0 = .ok (.aload_n 0, 1) := by decide +kernel
theorem d_Rd_readRow_1 : decode b_Rd_readRow 1 = .ok (.invokevirtual 22, 3) := by decide +kernel
theorem d_Rd_readRow_4 : decode b_Rd_readRow 4 = .ok (.lookupswitch 141 #[(103, 125), (104, 87), (112, 52), (115, 106), (120, 68)], 52) := by decide +kernel
theorem d_Rd_readRow_56 : decode b_Rd_readRow 56 = .ok (.aload_n 0, 1) := by decide +kernel
theorem d_Rd_readRow_57 : decode b_Rd_readRow 57 = .ok (.dup, 1) := by decide +kernel
theorem d_Rd_readRow_58 : decode b_Rd_readRow 58 = .ok (.getfield 19, 3) := by decide +kernel
theorem d_Rd_readRow_61 : decode b_Rd_readRow 61 = .ok (.iconst 1, 1) := by decide +kernel
theorem d_Rd_readRow_62 : decode b_Rd_readRow 62 = .ok (.iadd, 1) := by decide +kernel
theorem d_Rd_readRow_63 : decode b_Rd_readRow 63 = .ok (.putfield 19, 3) := by decide +kernel
theorem d_Rd_readRow_66 : decode b_Rd_readRow 66 = .ok (.aload_n 0, 1) := by decide +kernel
theorem d_Rd_readRow_67 : decode b_Rd_readRow 67 = .ok (.aload_n 1, 1) := by decide +kernel
theorem d_Rd_readRow_68 : decode b_Rd_readRow 68 = .ok (.invokevirtual 34, 3) := by decide +kernel
theorem d_Rd_readRow_71 : decode b_Rd_readRow 71 = .ok (.ireturn, 1) := by decide +kernel
theorem d_Rd_readRow_72 : decode b_Rd_readRow 72 = .ok (.aload_n 0, 1) := by decide +kernel
theorem d_Rd_readRow_73 : decode b_Rd_readRow 73 = .ok (.dup, 1) := by decide +kernel
theorem d_Rd_readRow_74 : decode b_Rd_readRow 74 = .ok (.getfield 19, 3) := by decide +kernel
theorem d_Rd_readRow_77 : decode b_Rd_readRow 77 = .ok (.iconst 1, 1) := by decide +kernel
theorem d_Rd_readRow_78 : decode b_Rd_readRow 78 = .ok (.iadd, 1) := by decide +kernel
theorem d_Rd_readRow_79 : decode b_Rd_readRow 79 = .ok (.putfield 19, 3) := by decide +kernel
theorem d_Rd_readRow_82 : decode b_Rd_readRow 82 = .ok (.aload_n 0, 1) := by decide +kernel
theorem d_Rd_readRow_83 : decode b_Rd_readRow 83 = .ok (.aload_n 1, 1) := by decide +kernel
theorem d_Rd_readRow_84 : decode b_Rd_readRow 84 = .ok (.getfield 37, 3) := by decide +kernel
theorem d_Rd_readRow_87 : decode b_Rd_readRow 87 = .ok (.invokevirtual 43, 3) := by decide +kernel
theorem d_Rd_readRow_90 : decode b_Rd_readRow 90 = .ok (.ireturn, 1) := by decide +kernel
theorem d_Rd_readRow_91 : decode b_Rd_readRow 91 = .ok (.aload_n 0, 1) := by decide +kernel
theorem d_Rd_readRow_92 : decode b_Rd_readRow 92 = .ok (.dup, 1) := by decide +kernel
theorem d_Rd_readRow_93 : decode b_Rd_readRow 93 = .ok (.getfield 19, 3) := by decide +kernel
theorem d_Rd_readRow_96 : decode b_Rd_readRow 96 = .ok (.iconst 1, 1) := by decide +kernel
theorem d_Rd_readRow_97 : decode b_Rd_readRow 97 = .ok (.iadd, 1) := by decide +kernel
theorem d_Rd_readRow_98 : decode b_Rd_readRow 98 = .ok (.putfield 19, 3) := by decide +kernel
theorem d_Rd_readRow_101 : decode b_Rd_readRow 101 = .ok (.aload_n 0, 1) := by decide +kernel
theorem d_Rd_readRow_102 : decode b_Rd_readRow 102 = .ok (.aload_n 1, 1) := by decide +kernel
theorem d_Rd_readRow_103 : decode b_Rd_readRow 103 = .ok (.getfield 47, 3) := by decide +kernel
theorem d_Rd_readRow_106 : decode b_Rd_readRow 106 = .ok (.invokevirtual 51, 3) := by decide +kernel
theorem d_Rd_readRow_109 : decode b_Rd_readRow 109 = .ok (.ireturn, 1) := by decide +kernel
theorem d_Rd_readRow_110 : decode b_Rd_readRow 110 = .ok (.aload_n 0, 1) := by decide +kernel
theorem d_Rd_readRow_111 : decode b_Rd_readRow 111 = .ok (.dup, 1) := by decide +kernel
theorem d_Rd_readRow_112 : decode b_Rd_readRow 112 = .ok (.getfield 19, 3) := by decide +kernel
theorem d_Rd_readRow_115 : decode b_Rd_readRow 115 = .ok (.iconst 1, 1) := by decide +kernel
theorem d_Rd_readRow_116 : decode b_Rd_readRow 116 = .ok (.iadd, 1) := by decide +kernel
theorem d_Rd_readRow_117 : decode b_Rd_readRow 117 = .ok (.putfield 19, 3) := by decide +kernel
theorem d_Rd_readRow_120 : decode b_Rd_readRow 120 = .ok (.aload_n 0, 1) := by decide +kernel
theorem d_Rd_readRow_121 : decode b_Rd_readRow 121 = .ok (.aload_n 1, 1) := by decide +kernel
theorem d_Rd_readRow_122 : decode b_Rd_readRow 122 = .ok (.getfield 55, 3) := by decide +kernel
theorem d_Rd_readRow_125 : decode b_Rd_readRow 125 = .ok (.invokevirtual 51, 3) := by decide +kernel
theorem d_Rd_readRow_128 : decode b_Rd_readRow 128 = .ok (.ireturn, 1) := by decide +kernel
theorem d_Rd_readRow_129 : decode b_Rd_readRow 129 = .ok (.aload_n 0, 1) := by decide +kernel
theorem d_Rd_readRow_130 : decode b_Rd_readRow 130 = .ok (.dup, 1) := by decide +kernel
theorem d_Rd_readRow_131 : decode b_Rd_readRow 131 = .ok (.getfield 19, 3) := by decide +kernel
theorem d_Rd_readRow_134 : decode b_Rd_readRow 134 = .ok (.iconst 1, 1) := by decide +kernel
theorem d_Rd_readRow_135 : decode b_Rd_readRow 135 = .ok (.iadd, 1) := by decide +kernel
theorem d_Rd_readRow_136 : decode b_Rd_readRow 136 = .ok (.putfield 19, 3) := by decide +kernel
theorem d_Rd_readRow_139 : decode b_Rd_readRow 139 = .ok (.aload_n 0, 1) := by decide +kernel
theorem d_Rd_readRow_140 : decode b_Rd_readRow 140 = .ok (.aload_n 1, 1) := by decide +kernel
theorem d_Rd_readRow_141 : decode b_Rd_readRow 141 = .ok (.invokevirtual 58, 3) := by decide +kernel
theorem d_Rd_readRow_144 : decode b_Rd_readRow 144 = .ok (.ireturn, 1) := by decide +kernel
theorem d_Rd_readRow_145 : decode b_Rd_readRow 145 = .ok (.iconst 0, 1) := by decide +kernel
theorem d_Rd_readRow_146 : decode b_Rd_readRow 146 = .ok (.ireturn, 1) := by decide +kernel
theorem d_Rd_readInto_0 : decode b_Rd_readInto 0 = .ok (.aload_n 0, 1) := by decide +kernel
theorem d_Rd_readInto_1 : decode b_Rd_readInto 1 = .ok (.iconst 0, 1) := by decide +kernel
theorem d_Rd_readInto_2 : decode b_Rd_readInto 2 = .ok (.putfield 19, 3) := by decide +kernel
theorem d_Rd_readInto_5 : decode b_Rd_readInto 5 = .ok (.iconst 1, 1) := by decide +kernel
theorem d_Rd_readInto_6 : decode b_Rd_readInto 6 = .ok (.istore_n 2, 1) := by decide +kernel
theorem d_Rd_readInto_7 : decode b_Rd_readInto 7 = .ok (.iconst 0, 1) := by decide +kernel
theorem d_Rd_readInto_8 : decode b_Rd_readInto 8 = .ok (.istore_n 3, 1) := by decide +kernel
theorem d_Rd_readInto_9 : decode b_Rd_readInto 9 = .ok (.iload_n 3, 1) := by decide +kernel
theorem d_Rd_readInto_10 : decode b_Rd_readInto 10 = .ok (.sipush 400, 3) := by decide +kernel
theorem d_Rd_readInto_13 : decode b_Rd_readInto 13 = .ok (.if_icmp .ge 44, 3) := by decide +kernel
theorem d_Rd_readInto_16 : decode b_Rd_readInto 16 = .ok (.iload_n 2, 1) := by decide +kernel
theorem d_Rd_readInto_17 : decode b_Rd_readInto 17 = .ok (.ifCond .eq 40, 3) := by decide +kernel
theorem d_Rd_readInto_20 : decode b_Rd_readInto 20 = .ok (.aload_n 0, 1) := by decide +kernel
theorem d_Rd_readInto_21 : decode b_Rd_readInto 21 = .ok (.invokevirtual 22, 3) := by decide +kernel
theorem d_Rd_readInto_24 : decode b_Rd_readInto 24 = .ok (.iconst (-1), 1) := by decide +kernel
theorem d_Rd_readInto_25 : decode b_Rd_readInto 25 = .ok (.if_icmp .eq 32, 3) := by decide +kernel
theorem d_Rd_readInto_28 : decode b_Rd_readInto 28 = .ok (.aload_n 0, 1) := by decide +kernel
theorem d_Rd_readInto_29 : decode b_Rd_readInto 29 = .ok (.aload_n 1, 1) := by decide +kernel
theorem d_Rd_readInto_30 : decode b_Rd_readInto 30 = .ok (.invokevirtual 26, 3) := by decide +kernel
theorem d_Rd_readInto_33 : decode b_Rd_readInto 33 = .ok (.ifCond .eq 16, 3) := by decide +kernel
theorem d_Rd_readInto_36 : decode b_Rd_readInto 36 = .ok (.aload_n 0, 1) := by decide +kernel
theorem d_Rd_readInto_37 : decode b_Rd_readInto 37 = .ok (.bipush 59, 2) := by decide +kernel
theorem d_Rd_readInto_39 : decode b_Rd_readInto 39 = .ok (.invokevirtual 30, 3) := by decide +kernel
theorem d_Rd_readInto_42 : decode b_Rd_readInto 42 = .ok (.ifCond .eq 7, 3) := by decide +kernel
theorem d_Rd_readInto_45 : decode b_Rd_readInto 45 = .ok (.iconst 1, 1) := by decide +kernel
theorem d_Rd_readInto_46 : decode b_Rd_readInto 46 = .ok (.goto 4, 3) := by decide +kernel
theorem d_Rd_readInto_49 : decode b_Rd_readInto 49 = .ok (.iconst 0, 1) := by decide +kernel
theorem d_Rd_readInto_50 : decode b_Rd_readInto 50 = .ok (.istore_n 2, 1) := by decide +kernel
theorem d_Rd_readInto_51 : decode b_Rd_readInto 51 = .ok (.iinc 3 1, 3) := by decide +kernel
theorem d_Rd_readInto_54 : decode b_Rd_readInto 54 = .ok (.goto (-45), 3) := by decide +kernel
theorem d_Rd_readInto_57 : decode b_Rd_readInto 57 = .ok (.aload_n 0, 1) := by decide +kernel
theorem d_Rd_readInto_58 : decode b_Rd_readInto 58 = .ok (.iconst 0, 1) := by decide +kernel
theorem d_Rd_readInto_59 : decode b_Rd_readInto 59 = .ok (.putfield 15, 3) := by decide +kernel
theorem d_Rd_readInto_62 : decode b_Rd_readInto 62 = .ok (.iload_n 2, 1) := by decide +kernel
theorem d_Rd_readInto_63 : decode b_Rd_readInto 63 = .ok (.ifCond .eq 7, 3) := by decide +kernel
theorem d_Rd_readInto_66 : decode b_Rd_readInto 66 = .ok (.iconst (-1), 1) := by decide +kernel
theorem d_Rd_readInto_67 : decode b_Rd_readInto 67 = .ok (.goto 7, 3) := by decide +kernel
theorem d_Rd_readInto_70 : decode b_Rd_readInto 70 = .ok (.aload_n 0, 1) := by decide +kernel
theorem d_Rd_readInto_71 : decode b_Rd_readInto 71 = .ok (.getfield 19, 3) := by decide +kernel
theorem d_Rd_readInto_74 : decode b_Rd_readInto 74 = .ok (.ireturn, 1) := by decide +kernel

def kI : Option Nat → Int32
  | none => -1
  | some k => nI k
theorem kRes_N : ∀ c, c < 256 → kRes (nI c) = kI (kindC c) := by decide +kernel
theorem kindC_lt : ∀ c, c < 256 → ∀ k, kindC c = some k → k < 5 := by
  intro c _ k h
  unfold kindC at h
  split at h
  · cases h; decide
  · split at h
    · cases h; decide
    · split at h
      · cases h; decide
      · split at h
        · cases h; decide
        · split at h
          · cases h; decide
          · cases h
theorem hrs_end {t : Nat → Nat} {n : Nat} {hs : List Tri} {q : Nat} (h : 3 ≤ hs.length) : hrsR t n (3 - hs.length) hs q = .inr (hs, q) := by
  rw [show 3 - hs.length = 0 by omega]
  rfl
theorem hrs_no {t : Nat → Nat} {n : Nat} {hs : List Tri} {q q1 : Nat} (h : hs.length < 3) (hq : sk t n q = q1) (h2 : ¬ (q1 < n ∧ t q1 = 91)) : hrsR t n (3 - hs.length) hs q = .inr (hs, q1) := by
  rw [show 3 - hs.length = (3 - (hs.length + 1)) + 1 by omega]
  unfold hrsR
  rw [hq, if_neg h2]
theorem hrs_go {t : Nat → Nat} {n : Nat} {hs : List Tri} {q q1 : Nat} (h : hs.length < 3) (hq : sk t n q = q1) (h1 : q1 < n) (h2 : t q1 = 91) : hrsR t n (3 - hs.length) hs q = sbd (hourR t n (q1 + 1)) fun h => hrsR t n (3 - (hs ++ [h.1]).length) (hs ++ [h.1]) h.2 := by
  rw [show 3 - hs.length = (3 - (hs.length + 1)) + 1 by omega]
  show (if _ then _ else _) = _
  rw [hq, if_pos ⟨h1, h2⟩]
  simp
theorem let_end {t : Nat → Nat} {n : Nat} {ls : List Nat} {r : Nat} (h : 8 ≤ ls.length ∨ isL t n r = false) : letR t n (8 - ls.length) ls r = (ls, r) := by
  cases hk : 8 - ls.length with
  | zero => rfl
  | succ k =>
    unfold letR
    rcases h with h | h
    · omega
    · rw [h]; rfl
theorem let_go {t : Nat → Nat} {n : Nat} {ls : List Nat} {r : Nat} (h : ls.length < 8) (h2 : isL t n r = true) : letR t n (8 - ls.length) ls r = letR t n (8 - (ls ++ [t r]).length) (ls ++ [t r]) (r + 1) := by
  rw [show 8 - ls.length = (8 - (ls.length + 1)) + 1 by omega]
  show (if _ then _ else _) = _
  rw [if_pos h2]
  simp

set_option maxHeartbeats 4000000 in
set_option maxRecDepth 100000 in
/-- Reader.readLengthKindSpeed -/
theorem c_Rd_readLengthKindSpeed (l : Launch) (G : Gx) (lo : Nat) (V : Vw) (sz : Nat) (rd tp : Nat) (f : Nat → Int32) (t : Nat → Nat) (n p : Nat) (pa x1 x2 x3 : Nat) (i0 i1 i2 i6 i7 i8 i9 i10 : Int32) (j8 : Int64) (hn : [rd, tp, pa].Nodup) (hT : tpOk f t n) (h4 : n ≤ 400) (hp : p ≤ n) : Met l y_Rd_readLengthKindSpeed ws_Rd_readLengthKindSpeed ({ frames := 5, cells := 0, slots := 0, locals := 130 } : Room) (vPre G lo [.ref rd, .ref pa] (vU V [(rd, eO 3 [.ref tp, .int (nI n), .int (nI p)]), (tp, eI (gB G) 400 f), (pa, eO 1 [.int i0, .int i1, .int i2, .int 0, .int 0, .int 0, .int i6, .ref x1, .ref x2, .ref x3, .int i7, .int i8, .long j8, .int i9, .int i10])]) sz) (vPost G lo (fun r V' k => r = some (.int (rB (lksR t n p))) ∧ (∃ y1 y2 y3 : Int32, V' = vU V [(rd, eO 3 [.ref tp, .int (nI n), .int (nI (sR (lksR t n p)))]), (tp, eI (gB G) 400 f), (pa, eO 1 [.int i0, .int i1, .int i2, .int y1, .int y2, .int y3, .int i6, .ref x1, .ref x2, .ref x3, .int i7, .int i8, .long j8, .int i9, .int i10])] ∧ ∀ z, lksR t n p = .inr z → y1 = nI z.1.1 ∧ y2 = nI z.1.2.1 ∧ y3 = nI z.1.2.2) ∧ k = sz)) 0 0 (vL lo) := by
  refine vMet (R := RRd) (by decide) rfl (Nat.le_of_ble_eq_true rfl) ?_
  intro pg ev s mi args below meth cd hx hb hr hml hlk hnm hts hown hK hz hV ls hl
  have hl : lv_has ls 2 [(0, .ref rd), (1, .ref pa)] := hl
  have hV0 := hV
  obtain ⟨H, hH⟩ : ∃ H, H = s.heap := ⟨_, rfl⟩
  obtain ⟨locs, hlocs⟩ : ∃ locs : List Loc, locs = [] := ⟨_, rfl⟩
  rw [← hH, ← hlocs]
  rw [← hH] at hz
  replace hV : vS G.1 cls lo s H locs (vU V [(rd, eO 3 [.ref tp, .int (nI n), .int (nI p)]), (tp, eI (gB G) 400 f), (pa, eO 1 [.int i0, .int i1, .int i2, .int 0, .int 0, .int 0, .int i6, .ref x1, .ref x2, .ref x3, .int i7, .int i8, .long j8, .int i9, .int i10])]) := by rw [hH, hlocs]; exact hV
  clear hH hlocs hV0
  refine lv_aload_n hx hb d_Rd_readLengthKindSpeed_0 rfl (lv_at hl 0 rfl) ?_
  refine lv_bipush (v := 58) hx hb d_Rd_readLengthKindSpeed_1 (by decide) ?_
  refine v_call (va_runV (As := [.int 58]) (rest := []) ⟨hx, hb, hml, hown, hts⟩ (c_Rd_take l G lo _ _ rd tp f t n p (nd_sub hn [0, 1] (by decide) rfl) hT h4 (by omega) 58 (by decide)) (kwV 1 hts w_co_Rd_take rfl rfl w_it_Rd w_ml_Rd_30 w_im_Rd_take w_se_Rd__Rd_take (by decide +kernel) ⟨by decide, by decide⟩) (u_preV hK hV hn [0, 1] rfl hz 0 rfl rfl) rfl rfl hl.1 rfl (lv_room (Nat.le_of_ble_eq_true rfl)) d_Rd_readLengthKindSpeed_3 ⟨(Nat.le_of_ble_eq_true rfl), (Nat.le_of_ble_eq_true rfl)⟩) hV (fun r9 V9 H locs hp hV hle => ?_)
  obtain ⟨rfl, rfl, hz⟩ := hp
  replace hV := u_back hV hn [0, 1] rfl
  have hV : vS G.1 cls lo s H locs (vU V [(rd, eO 3 [.ref tp, .int (nI n), .int (nI (rQ (tk t n 58 p)))]), (tp, eI (gB G) 400 f), (pa, eO 1 [.int i0, .int i1, .int i2, .int 0, .int 0, .int 0, .int i6, .ref x1, .ref x2, .ref x3, .int i7, .int i8, .long j8, .int i9, .int i10])]) := hV
  obtain ⟨x_1, hx_1⟩ : ∃ z, tk t n 58 p = z := ⟨_, rfl⟩
  rw [hx_1] at hV
  rcases x_1 with e_1 | q_1
  · have be_1 : e_1 ≤ n := tk_er hx_1 (by omega)
    have hV : vS G.1 cls lo s H locs (vU V [(rd, eO 3 [.ref tp, .int (nI n), .int (nI e_1)]), (tp, eI (gB G) 400 f), (pa, eO 1 [.int i0, .int i1, .int i2, .int 0, .int 0, .int 0, .int i6, .ref x1, .ref x2, .ref x3, .int i7, .int i8, .long j8, .int i9, .int i10])]) := hV
    refine W.eq (g2 := F0 mi 6 ls [.int 0]) (by rw [hx_1]; rfl) ?_
    refine lv_if_ne (tgt := 11) hx hb d_Rd_readLengthKindSpeed_6 (by decide) (fun c_2 => absurd c_2 (by decide)) (fun _ => ?_)
    refine lv_iconst (v := 0) hx hb d_Rd_readLengthKindSpeed_9 (by decide) ?_
    have hE : lksR t n p = .inl e_1 := by simp [lksR, sbd_l, sbd_r, kindAt, hx_1]
    exact W.zret (v := 0) hx hb hr (by decide) (v_end hV ⟨by rw [hE]; rfl, ⟨0, 0, 0, by rw [hE]; rfl, fun z hz9 => by rw [hE] at hz9; cases hz9⟩, hz⟩) hV.2.1.2.2 d_Rd_readLengthKindSpeed_10
  · obtain ⟨gq_1, bq_1⟩ := tk_ok hx_1
    have hV : vS G.1 cls lo s H locs (vU V [(rd, eO 3 [.ref tp, .int (nI n), .int (nI q_1)]), (tp, eI (gB G) 400 f), (pa, eO 1 [.int i0, .int i1, .int i2, .int 0, .int 0, .int 0, .int i6, .ref x1, .ref x2, .ref x3, .int i7, .int i8, .long j8, .int i9, .int i10])]) := hV
    refine W.eq (g2 := F0 mi 6 ls [.int 1]) (by rw [hx_1]; rfl) ?_
    refine lv_if_ne (tgt := 11) hx hb d_Rd_readLengthKindSpeed_6 (by decide) (fun _ => ?_) (fun c_3 => absurd c_3 (by decide))
    refine lv_aload_n hx hb d_Rd_readLengthKindSpeed_11 rfl (lv_at hl 1 rfl) ?_
    refine lv_aload_n hx hb d_Rd_readLengthKindSpeed_12 rfl (lv_at hl 0 rfl) ?_
    refine lv_iconst (v := 1) hx hb d_Rd_readLengthKindSpeed_13 (by decide) ?_
    refine lv_sipush (v := 9999) hx hb d_Rd_readLengthKindSpeed_14 (by decide) ?_
    refine v_call (va_runV (As := [.int 1, .int 9999]) (rest := [.ref pa]) ⟨hx, hb, hml, hown, hts⟩ (c_Rd_readNumber l G lo _ _ rd tp f t n q_1 (nd_sub hn [0, 1] (by decide) rfl) hT h4 (by omega) 1 9999 (by omega) (by omega)) (kwV 2 hts w_co_Rd_readNumber rfl rfl w_it_Rd w_ml_Rd_61 w_im_Rd_readNumber w_se_Rd__Rd_readNumber (by decide +kernel) ⟨by decide, by decide⟩) (u_preV hK hV hn [0, 1] rfl hz 0 rfl rfl) rfl rfl hl.1 rfl (lv_room (Nat.le_of_ble_eq_true rfl)) d_Rd_readLengthKindSpeed_17 ⟨(Nat.le_of_ble_eq_true rfl), (Nat.le_of_ble_eq_true rfl)⟩) hV (fun r9 V9 H locs hp hV hle => ?_)
    obtain ⟨rfl, rfl, hz⟩ := hp
    replace hV := u_back hV hn [0, 1] rfl
    have hV : vS G.1 cls lo s H locs (vU V [(rd, eO 3 [.ref tp, .int (nI n), .int (nI (rP (num t n 1 9999 q_1)))]), (tp, eI (gB G) 400 f), (pa, eO 1 [.int i0, .int i1, .int i2, .int 0, .int 0, .int 0, .int i6, .ref x1, .ref x2, .ref x3, .int i7, .int i8, .long j8, .int i9, .int i10])]) := hV
    obtain ⟨x_4, hx_4⟩ : ∃ z, num t n 1 9999 q_1 = z := ⟨_, rfl⟩
    rw [hx_4] at hV
    rcases x_4 with e_4 | ⟨v_4, q_4⟩
    · have be_4 : e_4 ≤ n := num_er hx_4 (by omega)
      have hV : vS G.1 cls lo s H locs (vU V [(rd, eO 3 [.ref tp, .int (nI n), .int (nI e_4)]), (tp, eI (gB G) 400 f), (pa, eO 1 [.int i0, .int i1, .int i2, .int 0, .int 0, .int 0, .int i6, .ref x1, .ref x2, .ref x3, .int i7, .int i8, .long j8, .int i9, .int i10])]) := hV
      refine W.eq (g2 := F0 mi 20 ls [.int ((-1)), .ref pa]) (by rw [hx_4]; rfl) ?_
      refine u_put hx hb hts inPc tyPc tyPc_ok nmPc hown hK hV hn 2 rfl rfl 3 (by decide) w_fl_Rd_98 rfl rfl rfl rfl (Nat.le_of_ble_eq_true rfl) d_Rd_readLengthKindSpeed_20 (fun H locs hV hz9 => ?_)
      have hV : vS G.1 cls lo s H locs (vU V [(rd, eO 3 [.ref tp, .int (nI n), .int (nI e_4)]), (tp, eI (gB G) 400 f), (pa, eO 1 [.int i0, .int i1, .int i2, .int ((-1)), .int 0, .int 0, .int i6, .ref x1, .ref x2, .ref x3, .int i7, .int i8, .long j8, .int i9, .int i10])]) := hV
      replace hz := hz9.trans hz
      refine lv_aload_n hx hb d_Rd_readLengthKindSpeed_23 rfl (lv_at hl 1 rfl) ?_
      refine u_get hx hb hts inPc hown hK hV hn 2 rfl rfl 3 (by decide) w_fl_Rd_98 rfl rfl d_Rd_readLengthKindSpeed_24 ?_
      refine lv_iconst (v := (-1)) hx hb d_Rd_readLengthKindSpeed_27 (by decide) ?_
      refine lv_icmp_ne (tgt := 33) hx hb d_Rd_readLengthKindSpeed_28 (by decide) (fun c_5 => absurd c_5 (by decide)) (fun _ => ?_)
      refine lv_iconst (v := 0) hx hb d_Rd_readLengthKindSpeed_31 (by decide) ?_
      have hE : lksR t n p = .inl e_4 := by simp [lksR, sbd_l, sbd_r, kindAt, hx_1, hx_4]
      exact W.zret (v := 0) hx hb hr (by decide) (v_end hV ⟨by rw [hE]; rfl, ⟨(-1), 0, 0, by rw [hE]; rfl, fun z hz9 => by rw [hE] at hz9; cases hz9⟩, hz⟩) hV.2.1.2.2 d_Rd_readLengthKindSpeed_32
    · obtain ⟨lv_4, uv_4, gq_4, bq_4⟩ := num_ok hx_4 (by omega)
      have hV : vS G.1 cls lo s H locs (vU V [(rd, eO 3 [.ref tp, .int (nI n), .int (nI q_4)]), (tp, eI (gB G) 400 f), (pa, eO 1 [.int i0, .int i1, .int i2, .int 0, .int 0, .int 0, .int i6, .ref x1, .ref x2, .ref x3, .int i7, .int i8, .long j8, .int i9, .int i10])]) := hV
      refine W.eq (g2 := F0 mi 20 ls [.int (nI v_4), .ref pa]) (by rw [hx_4]; rfl) ?_
      refine u_put hx hb hts inPc tyPc tyPc_ok nmPc hown hK hV hn 2 rfl rfl 3 (by decide) w_fl_Rd_98 rfl rfl rfl rfl (Nat.le_of_ble_eq_true rfl) d_Rd_readLengthKindSpeed_20 (fun H locs hV hz9 => ?_)
      have hV : vS G.1 cls lo s H locs (vU V [(rd, eO 3 [.ref tp, .int (nI n), .int (nI q_4)]), (tp, eI (gB G) 400 f), (pa, eO 1 [.int i0, .int i1, .int i2, .int (nI v_4), .int 0, .int 0, .int i6, .ref x1, .ref x2, .ref x3, .int i7, .int i8, .long j8, .int i9, .int i10])]) := hV
      replace hz := hz9.trans hz
      refine lv_aload_n hx hb d_Rd_readLengthKindSpeed_23 rfl (lv_at hl 1 rfl) ?_
      refine u_get hx hb hts inPc hown hK hV hn 2 rfl rfl 3 (by decide) w_fl_Rd_98 rfl rfl d_Rd_readLengthKindSpeed_24 ?_
      refine lv_iconst (v := (-1)) hx hb d_Rd_readLengthKindSpeed_27 (by decide) ?_
      refine lv_icmp_ne (tgt := 33) hx hb d_Rd_readLengthKindSpeed_28 (by decide) (fun _ => ?_) (fun c_6 => absurd c_6 (nI_nem (by omega)))
      refine lv_aload_n hx hb d_Rd_readLengthKindSpeed_33 rfl (lv_at hl 1 rfl) ?_
      refine lv_aload_n hx hb d_Rd_readLengthKindSpeed_34 rfl (lv_at hl 0 rfl) ?_
      refine v_call (va_runV (As := []) (rest := [.ref pa]) ⟨hx, hb, hml, hown, hts⟩ (c_Rd_peek l G lo _ _ rd tp f t n q_4 (nd_sub hn [0, 1] (by decide) rfl) hT h4 (by omega)) (kwV 0 hts w_co_Rd_peek rfl rfl w_it_Rd w_ml_Rd_22 w_im_Rd_peek w_se_Rd__Rd_peek (by decide +kernel) ⟨by decide, by decide⟩) (u_preV hK hV hn [0, 1] rfl hz 0 rfl rfl) rfl rfl hl.1 rfl (lv_room (Nat.le_of_ble_eq_true rfl)) d_Rd_readLengthKindSpeed_35 ⟨(Nat.le_of_ble_eq_true rfl), (Nat.le_of_ble_eq_true rfl)⟩) hV (fun r9 V9 H locs hp hV hle => ?_)
      obtain ⟨rfl, rfl, hz⟩ := hp
      replace hV := u_back hV hn [0, 1] rfl
      have hV : vS G.1 cls lo s H locs (vU V [(rd, eO 3 [.ref tp, .int (nI n), .int (nI (sk t n q_4))]), (tp, eI (gB G) 400 f), (pa, eO 1 [.int i0, .int i1, .int i2, .int (nI v_4), .int 0, .int 0, .int i6, .ref x1, .ref x2, .ref x3, .int i7, .int i8, .long j8, .int i9, .int i10])]) := hV
      obtain ⟨q_7, hq_7⟩ : ∃ z, sk t n q_4 = z := ⟨_, rfl⟩
      rw [hq_7] at hV
      have bq_7 : q_7 ≤ n := by rw [← hq_7]; exact sk_le (by omega)
      have gq_7 : q_4 ≤ q_7 := by rw [← hq_7]; exact sk_ge t n q_4
      rcases Nat.lt_or_ge q_7 n with lq_7 | lq_7
      · have kq_7 : t q_7 < 256 := (hT q_7 lq_7).1
        have hV : vS G.1 cls lo s H locs (vU V [(rd, eO 3 [.ref tp, .int (nI n), .int (nI q_7)]), (tp, eI (gB G) 400 f), (pa, eO 1 [.int i0, .int i1, .int i2, .int (nI v_4), .int 0, .int 0, .int i6, .ref x1, .ref x2, .ref x3, .int i7, .int i8, .long j8, .int i9, .int i10])]) := hV
        refine W.eq (g2 := F0 mi 38 ls [.int (nI (t q_7)), .ref pa]) (by rw [hq_7, rK_in lq_7]; rfl) ?_
        refine v_call (va_runS (As := [.int (nI (t q_7))]) (rest := [.ref pa]) ⟨hx, hb, hml, hown, hts⟩ (c_Rd_kindOf l G lo _ _ (nI (t q_7))) (kwS 1 hts w_co_Rd_kindOf rfl rfl w_it_Rd w_ml_Rd_99 w_st_Rd_kindOf (by decide +kernel) ⟨by decide, by decide⟩) (v_preS hK hV rfl hz) rfl rfl hl.1 rfl (lv_room (Nat.le_of_ble_eq_true rfl)) d_Rd_readLengthKindSpeed_38 ⟨(Nat.le_of_ble_eq_true rfl), (Nat.le_of_ble_eq_true rfl)⟩) hV (fun r9 V9 H locs hp hV hle => ?_)
        obtain ⟨rfl, hv9, hz⟩ := hp
        rw [hv9] at hV
        rcases k_8 : kindC (t q_7) with _ | y_8
        · have hV : vS G.1 cls lo s H locs (vU V [(rd, eO 3 [.ref tp, .int (nI n), .int (nI q_7)]), (tp, eI (gB G) 400 f), (pa, eO 1 [.int i0, .int i1, .int i2, .int (nI v_4), .int 0, .int 0, .int i6, .ref x1, .ref x2, .ref x3, .int i7, .int i8, .long j8, .int i9, .int i10])]) := hV
          refine W.eq (g2 := F0 mi 41 ls [.int ((-1)), .ref pa]) (by rw [kRes_N _ (by omega), k_8]; rfl) ?_
          refine u_put hx hb hts inPc tyPc tyPc_ok nmPc hown hK hV hn 2 rfl rfl 4 (by decide) w_fl_Rd_103 rfl rfl rfl rfl (Nat.le_of_ble_eq_true rfl) d_Rd_readLengthKindSpeed_41 (fun H locs hV hz9 => ?_)
          have hV : vS G.1 cls lo s H locs (vU V [(rd, eO 3 [.ref tp, .int (nI n), .int (nI q_7)]), (tp, eI (gB G) 400 f), (pa, eO 1 [.int i0, .int i1, .int i2, .int (nI v_4), .int ((-1)), .int 0, .int i6, .ref x1, .ref x2, .ref x3, .int i7, .int i8, .long j8, .int i9, .int i10])]) := hV
          replace hz := hz9.trans hz
          refine lv_aload_n hx hb d_Rd_readLengthKindSpeed_44 rfl (lv_at hl 1 rfl) ?_
          refine u_get hx hb hts inPc hown hK hV hn 2 rfl rfl 4 (by decide) w_fl_Rd_103 rfl rfl d_Rd_readLengthKindSpeed_45 ?_
          refine lv_iconst (v := (-1)) hx hb d_Rd_readLengthKindSpeed_48 (by decide) ?_
          refine lv_icmp_ne (tgt := 54) hx hb d_Rd_readLengthKindSpeed_49 (by decide) (fun c_9 => absurd c_9 (by decide)) (fun _ => ?_)
          refine lv_iconst (v := 0) hx hb d_Rd_readLengthKindSpeed_52 (by decide) ?_
          have hE : lksR t n p = .inl q_7 := by simp [lksR, sbd_l, sbd_r, kindAt, hx_1, hx_4, hq_7, lq_7, k_8]
          exact W.zret (v := 0) hx hb hr (by decide) (v_end hV ⟨by rw [hE]; rfl, ⟨nI v_4, (-1), 0, by rw [hE]; rfl, fun z hz9 => by rw [hE] at hz9; cases hz9⟩, hz⟩) hV.2.1.2.2 d_Rd_readLengthKindSpeed_53
        · have ly_8 := kindC_lt _ (by omega) _ k_8
          have hV : vS G.1 cls lo s H locs (vU V [(rd, eO 3 [.ref tp, .int (nI n), .int (nI q_7)]), (tp, eI (gB G) 400 f), (pa, eO 1 [.int i0, .int i1, .int i2, .int (nI v_4), .int 0, .int 0, .int i6, .ref x1, .ref x2, .ref x3, .int i7, .int i8, .long j8, .int i9, .int i10])]) := hV
          refine W.eq (g2 := F0 mi 41 ls [.int (nI y_8), .ref pa]) (by rw [kRes_N _ (by omega), k_8]; rfl) ?_
          refine u_put hx hb hts inPc tyPc tyPc_ok nmPc hown hK hV hn 2 rfl rfl 4 (by decide) w_fl_Rd_103 rfl rfl rfl rfl (Nat.le_of_ble_eq_true rfl) d_Rd_readLengthKindSpeed_41 (fun H locs hV hz9 => ?_)
          have hV : vS G.1 cls lo s H locs (vU V [(rd, eO 3 [.ref tp, .int (nI n), .int (nI q_7)]), (tp, eI (gB G) 400 f), (pa, eO 1 [.int i0, .int i1, .int i2, .int (nI v_4), .int (nI y_8), .int 0, .int i6, .ref x1, .ref x2, .ref x3, .int i7, .int i8, .long j8, .int i9, .int i10])]) := hV
          replace hz := hz9.trans hz
          refine lv_aload_n hx hb d_Rd_readLengthKindSpeed_44 rfl (lv_at hl 1 rfl) ?_
          refine u_get hx hb hts inPc hown hK hV hn 2 rfl rfl 4 (by decide) w_fl_Rd_103 rfl rfl d_Rd_readLengthKindSpeed_45 ?_
          refine lv_iconst (v := (-1)) hx hb d_Rd_readLengthKindSpeed_48 (by decide) ?_
          refine lv_icmp_ne (tgt := 54) hx hb d_Rd_readLengthKindSpeed_49 (by decide) (fun _ => ?_) (fun c_10 => absurd c_10 (nI_nem (by omega)))
          refine lv_aload_n hx hb d_Rd_readLengthKindSpeed_54 rfl (lv_at hl 0 rfl) ?_
          refine lv_dup hx hb d_Rd_readLengthKindSpeed_55 rfl ?_
          refine u_get hx hb hts inRd hown hK hV hn 0 rfl rfl 2 (by decide) w_fl_Rd_19 rfl rfl d_Rd_readLengthKindSpeed_56 ?_
          refine lv_iconst (v := 1) hx hb d_Rd_readLengthKindSpeed_59 (by decide) ?_
          refine e_iadd (v := nI (q_7 + 1)) hx hb d_Rd_readLengthKindSpeed_60 (nI_add q_7 1) ?_
          refine u_put hx hb hts inRd tyRd tyRd_ok nmRd hown hK hV hn 0 rfl rfl 2 (by decide) w_fl_Rd_19 rfl rfl rfl rfl (Nat.le_of_ble_eq_true rfl) d_Rd_readLengthKindSpeed_61 (fun H locs hV hz9 => ?_)
          have hV : vS G.1 cls lo s H locs (vU V [(rd, eO 3 [.ref tp, .int (nI n), .int (nI (q_7 + 1))]), (tp, eI (gB G) 400 f), (pa, eO 1 [.int i0, .int i1, .int i2, .int (nI v_4), .int (nI y_8), .int 0, .int i6, .ref x1, .ref x2, .ref x3, .int i7, .int i8, .long j8, .int i9, .int i10])]) := hV
          replace hz := hz9.trans hz
          refine lv_aload_n hx hb d_Rd_readLengthKindSpeed_64 rfl (lv_at hl 1 rfl) ?_
          refine lv_aload_n hx hb d_Rd_readLengthKindSpeed_65 rfl (lv_at hl 0 rfl) ?_
          refine lv_iconst (v := 1) hx hb d_Rd_readLengthKindSpeed_66 (by decide) ?_
          refine lv_bipush (v := 99) hx hb d_Rd_readLengthKindSpeed_67 (by decide) ?_
          refine v_call (va_runV (As := [.int 1, .int 99]) (rest := [.ref pa]) ⟨hx, hb, hml, hown, hts⟩ (c_Rd_readNumber l G lo _ _ rd tp f t n (q_7 + 1) (nd_sub hn [0, 1] (by decide) rfl) hT h4 (by omega) 1 99 (by omega) (by omega)) (kwV 2 hts w_co_Rd_readNumber rfl rfl w_it_Rd w_ml_Rd_61 w_im_Rd_readNumber w_se_Rd__Rd_readNumber (by decide +kernel) ⟨by decide, by decide⟩) (u_preV hK hV hn [0, 1] rfl hz 0 rfl rfl) rfl rfl hl.1 rfl (lv_room (Nat.le_of_ble_eq_true rfl)) d_Rd_readLengthKindSpeed_69 ⟨(Nat.le_of_ble_eq_true rfl), (Nat.le_of_ble_eq_true rfl)⟩) hV (fun r9 V9 H locs hp hV hle => ?_)
          obtain ⟨rfl, rfl, hz⟩ := hp
          replace hV := u_back hV hn [0, 1] rfl
          have hV : vS G.1 cls lo s H locs (vU V [(rd, eO 3 [.ref tp, .int (nI n), .int (nI (rP (num t n 1 99 (q_7 + 1))))]), (tp, eI (gB G) 400 f), (pa, eO 1 [.int i0, .int i1, .int i2, .int (nI v_4), .int (nI y_8), .int 0, .int i6, .ref x1, .ref x2, .ref x3, .int i7, .int i8, .long j8, .int i9, .int i10])]) := hV
          obtain ⟨x_11, hx_11⟩ : ∃ z, num t n 1 99 (q_7 + 1) = z := ⟨_, rfl⟩
          rw [hx_11] at hV
          rcases x_11 with e_11 | ⟨v_11, q_11⟩
          · have be_11 : e_11 ≤ n := num_er hx_11 (by omega)
            have hV : vS G.1 cls lo s H locs (vU V [(rd, eO 3 [.ref tp, .int (nI n), .int (nI e_11)]), (tp, eI (gB G) 400 f), (pa, eO 1 [.int i0, .int i1, .int i2, .int (nI v_4), .int (nI y_8), .int 0, .int i6, .ref x1, .ref x2, .ref x3, .int i7, .int i8, .long j8, .int i9, .int i10])]) := hV
            refine W.eq (g2 := F0 mi 72 ls [.int ((-1)), .ref pa]) (by rw [hx_11]; rfl) ?_
            refine u_put hx hb hts inPc tyPc tyPc_ok nmPc hown hK hV hn 2 rfl rfl 5 (by decide) w_fl_Rd_106 rfl rfl rfl rfl (Nat.le_of_ble_eq_true rfl) d_Rd_readLengthKindSpeed_72 (fun H locs hV hz9 => ?_)
            have hV : vS G.1 cls lo s H locs (vU V [(rd, eO 3 [.ref tp, .int (nI n), .int (nI e_11)]), (tp, eI (gB G) 400 f), (pa, eO 1 [.int i0, .int i1, .int i2, .int (nI v_4), .int (nI y_8), .int ((-1)), .int i6, .ref x1, .ref x2, .ref x3, .int i7, .int i8, .long j8, .int i9, .int i10])]) := hV
            replace hz := hz9.trans hz
            refine lv_aload_n hx hb d_Rd_readLengthKindSpeed_75 rfl (lv_at hl 1 rfl) ?_
            refine u_get hx hb hts inPc hown hK hV hn 2 rfl rfl 5 (by decide) w_fl_Rd_106 rfl rfl d_Rd_readLengthKindSpeed_76 ?_
            refine lv_iconst (v := (-1)) hx hb d_Rd_readLengthKindSpeed_79 (by decide) ?_
            refine lv_icmp_eq (tgt := 87) hx hb d_Rd_readLengthKindSpeed_80 (by decide) (fun _ => ?_) (fun c_12 => absurd c_12 (by decide))
            refine lv_iconst (v := 0) hx hb d_Rd_readLengthKindSpeed_87 (by decide) ?_
            have hE : lksR t n p = .inl e_11 := by simp [lksR, sbd_l, sbd_r, kindAt, hx_1, hx_4, hq_7, hx_11, lq_7, k_8]
            exact W.zret (v := 0) hx hb hr (by decide) (v_end hV ⟨by rw [hE]; rfl, ⟨nI v_4, nI y_8, (-1), by rw [hE]; rfl, fun z hz9 => by rw [hE] at hz9; cases hz9⟩, hz⟩) hV.2.1.2.2 d_Rd_readLengthKindSpeed_88
          · obtain ⟨lv_11, uv_11, gq_11, bq_11⟩ := num_ok hx_11 (by omega)
            have hV : vS G.1 cls lo s H locs (vU V [(rd, eO 3 [.ref tp, .int (nI n), .int (nI q_11)]), (tp, eI (gB G) 400 f), (pa, eO 1 [.int i0, .int i1, .int i2, .int (nI v_4), .int (nI y_8), .int 0, .int i6, .ref x1, .ref x2, .ref x3, .int i7, .int i8, .long j8, .int i9, .int i10])]) := hV
            refine W.eq (g2 := F0 mi 72 ls [.int (nI v_11), .ref pa]) (by rw [hx_11]; rfl) ?_
            refine u_put hx hb hts inPc tyPc tyPc_ok nmPc hown hK hV hn 2 rfl rfl 5 (by decide) w_fl_Rd_106 rfl rfl rfl rfl (Nat.le_of_ble_eq_true rfl) d_Rd_readLengthKindSpeed_72 (fun H locs hV hz9 => ?_)
            have hV : vS G.1 cls lo s H locs (vU V [(rd, eO 3 [.ref tp, .int (nI n), .int (nI q_11)]), (tp, eI (gB G) 400 f), (pa, eO 1 [.int i0, .int i1, .int i2, .int (nI v_4), .int (nI y_8), .int (nI v_11), .int i6, .ref x1, .ref x2, .ref x3, .int i7, .int i8, .long j8, .int i9, .int i10])]) := hV
            replace hz := hz9.trans hz
            refine lv_aload_n hx hb d_Rd_readLengthKindSpeed_75 rfl (lv_at hl 1 rfl) ?_
            refine u_get hx hb hts inPc hown hK hV hn 2 rfl rfl 5 (by decide) w_fl_Rd_106 rfl rfl d_Rd_readLengthKindSpeed_76 ?_
            refine lv_iconst (v := (-1)) hx hb d_Rd_readLengthKindSpeed_79 (by decide) ?_
            refine lv_icmp_eq (tgt := 87) hx hb d_Rd_readLengthKindSpeed_80 (by decide) (fun c_13 => absurd c_13 (nI_nem (by omega))) (fun _ => ?_)
            refine lv_iconst (v := 1) hx hb d_Rd_readLengthKindSpeed_83 (by decide) ?_
            refine lv_goto (tgt := 88) hx hb d_Rd_readLengthKindSpeed_84 (by decide) ?_
            have hE : lksR t n p = .inr ((v_4, y_8, v_11), q_11) := by simp [lksR, sbd_l, sbd_r, kindAt, hx_1, hx_4, hq_7, hx_11, lq_7, k_8]
            exact W.zret (v := 1) hx hb hr (by decide) (v_end hV ⟨by rw [hE]; rfl, ⟨nI v_4, nI y_8, nI v_11, by rw [hE]; rfl, fun z hz9 => by rw [hE] at hz9; cases hz9; exact ⟨rfl, rfl, rfl⟩⟩, hz⟩) hV.2.1.2.2 d_Rd_readLengthKindSpeed_88
      · have hV : vS G.1 cls lo s H locs (vU V [(rd, eO 3 [.ref tp, .int (nI n), .int (nI q_7)]), (tp, eI (gB G) 400 f), (pa, eO 1 [.int i0, .int i1, .int i2, .int (nI v_4), .int 0, .int 0, .int i6, .ref x1, .ref x2, .ref x3, .int i7, .int i8, .long j8, .int i9, .int i10])]) := hV
        refine W.eq (g2 := F0 mi 38 ls [.int ((-1)), .ref pa]) (by rw [hq_7, rK_out (by omega)]; rfl) ?_
        refine v_call (va_runS (As := [.int ((-1))]) (rest := [.ref pa]) ⟨hx, hb, hml, hown, hts⟩ (c_Rd_kindOf l G lo _ _ ((-1))) (kwS 1 hts w_co_Rd_kindOf rfl rfl w_it_Rd w_ml_Rd_99 w_st_Rd_kindOf (by decide +kernel) ⟨by decide, by decide⟩) (v_preS hK hV rfl hz) rfl rfl hl.1 rfl (lv_room (Nat.le_of_ble_eq_true rfl)) d_Rd_readLengthKindSpeed_38 ⟨(Nat.le_of_ble_eq_true rfl), (Nat.le_of_ble_eq_true rfl)⟩) hV (fun r9 V9 H locs hp hV hle => ?_)
        obtain ⟨rfl, hv9, hz⟩ := hp
        rw [hv9] at hV
        have hV : vS G.1 cls lo s H locs (vU V [(rd, eO 3 [.ref tp, .int (nI n), .int (nI q_7)]), (tp, eI (gB G) 400 f), (pa, eO 1 [.int i0, .int i1, .int i2, .int (nI v_4), .int 0, .int 0, .int i6, .ref x1, .ref x2, .ref x3, .int i7, .int i8, .long j8, .int i9, .int i10])]) := hV
        refine W.eq (g2 := F0 mi 41 ls [.int ((-1)), .ref pa]) rfl ?_
        refine u_put hx hb hts inPc tyPc tyPc_ok nmPc hown hK hV hn 2 rfl rfl 4 (by decide) w_fl_Rd_103 rfl rfl rfl rfl (Nat.le_of_ble_eq_true rfl) d_Rd_readLengthKindSpeed_41 (fun H locs hV hz9 => ?_)
        have hV : vS G.1 cls lo s H locs (vU V [(rd, eO 3 [.ref tp, .int (nI n), .int (nI q_7)]), (tp, eI (gB G) 400 f), (pa, eO 1 [.int i0, .int i1, .int i2, .int (nI v_4), .int ((-1)), .int 0, .int i6, .ref x1, .ref x2, .ref x3, .int i7, .int i8, .long j8, .int i9, .int i10])]) := hV
        replace hz := hz9.trans hz
        refine lv_aload_n hx hb d_Rd_readLengthKindSpeed_44 rfl (lv_at hl 1 rfl) ?_
        refine u_get hx hb hts inPc hown hK hV hn 2 rfl rfl 4 (by decide) w_fl_Rd_103 rfl rfl d_Rd_readLengthKindSpeed_45 ?_
        refine lv_iconst (v := (-1)) hx hb d_Rd_readLengthKindSpeed_48 (by decide) ?_
        refine lv_icmp_ne (tgt := 54) hx hb d_Rd_readLengthKindSpeed_49 (by decide) (fun c_14 => absurd c_14 (by decide)) (fun _ => ?_)
        refine lv_iconst (v := 0) hx hb d_Rd_readLengthKindSpeed_52 (by decide) ?_
        have hE : lksR t n p = .inl q_7 := by simp [lksR, sbd_l, sbd_r, kindAt, hx_1, hx_4, hq_7, Nat.not_lt.mpr lq_7]
        exact W.zret (v := 0) hx hb hr (by decide) (v_end hV ⟨by rw [hE]; rfl, ⟨nI v_4, (-1), 0, by rw [hE]; rfl, fun z hz9 => by rw [hE] at hz9; cases hz9⟩, hz⟩) hV.2.1.2.2 d_Rd_readLengthKindSpeed_53

set_option maxHeartbeats 4000000 in
set_option maxRecDepth 100000 in
/-- Reader.readHours -/
theorem c_Rd_readHours (l : Launch) (G : Gx) (lo : Nat) (V : Vw) (sz : Nat) (rd tp : Nat) (f : Nat → Int32) (t : Nat → Nat) (n p : Nat) (pa x1 x2 x3 : Nat) (i0 i1 i2 i3 i4 i5 i7 i8 i9 i10 : Int32) (j8 : Int64) (g1 g2 g3 : Nat → Int32) (hn : [rd, tp, pa, x1, x2, x3].Nodup) (hT : tpOk f t n) (h4 : n ≤ 400) (hp : p ≤ n) : Met l y_Rd_readHours ws_Rd_readHours ({ frames := 2, cells := 0, slots := 0, locals := 60 } : Room) (vPre G lo [.ref rd, .ref pa] (vU V [(rd, eO 3 [.ref tp, .int (nI n), .int (nI p)]), (tp, eI (gB G) 400 f), (pa, eO 1 [.int i0, .int i1, .int i2, .int i3, .int i4, .int i5, .int 0, .ref x1, .ref x2, .ref x3, .int i7, .int i8, .long j8, .int i9, .int i10]), (x1, eI (gI G) 3 g1), (x2, eI (gI G) 3 g2), (x3, eI (gI G) 3 g3)]) sz) (vPost G lo (fun r V' k => r = some (.int (rB (hrsR t n 3 [] p))) ∧ (∃ (hs : List Tri) (h1 h2 h3 : Nat → Int32), V' = vU V [(rd, eO 3 [.ref tp, .int (nI n), .int (nI (sR (hrsR t n 3 [] p)))]), (tp, eI (gB G) 400 f), (pa, eO 1 [.int i0, .int i1, .int i2, .int i3, .int i4, .int i5, .int (nI hs.length), .ref x1, .ref x2, .ref x3, .int i7, .int i8, .long j8, .int i9, .int i10]), (x1, eI (gI G) 3 h1), (x2, eI (gI G) 3 h2), (x3, eI (gI G) 3 h3)] ∧ hrOk h1 h2 h3 hs ∧ ∀ z, hrsR t n 3 [] p = .inr z → hs = z.1) ∧ k = sz)) 0 0 (vL lo) := by
  refine vMet (R := RRd) (by decide) rfl (Nat.le_of_ble_eq_true rfl) ?_
  intro pg ev s mi args below meth cd hx hb hr hml hlk hnm hts hown hK hz hV ls hl
  have hl : lv_has ls 6 [(0, .ref rd), (1, .ref pa)] := hl
  have hV0 := hV
  obtain ⟨H, hH⟩ : ∃ H, H = s.heap := ⟨_, rfl⟩
  obtain ⟨locs, hlocs⟩ : ∃ locs : List Loc, locs = [] := ⟨_, rfl⟩
  rw [← hH, ← hlocs]
  rw [← hH] at hz
  replace hV : vS G.1 cls lo s H locs (vU V [(rd, eO 3 [.ref tp, .int (nI n), .int (nI p)]), (tp, eI (gB G) 400 f), (pa, eO 1 [.int i0, .int i1, .int i2, .int i3, .int i4, .int i5, .int 0, .ref x1, .ref x2, .ref x3, .int i7, .int i8, .long j8, .int i9, .int i10]), (x1, eI (gI G) 3 g1), (x2, eI (gI G) 3 g2), (x3, eI (gI G) 3 g3)]) := by rw [hH, hlocs]; exact hV
  clear hH hlocs hV0
  refine lv_iconst (v := 0) hx hb d_Rd_readHours_0 (by decide) ?_
  refine lv_istore_n (lv' := [(2, .int 0), (0, .ref rd), (1, .ref pa)]) hx hb d_Rd_readHours_1 rfl hl (by decide) rfl (fun ls hl => ?_)
  have loop : ∀ (k : Nat) (hs : List Tri) (q : Nat) (h1 h2 h3 : Nat → Int32), 3 - hs.length < k → (hs.length ≤ 3) → (q ≤ n) → (hrOk h1 h2 h3 hs) → (hrsR t n (3 - hs.length) hs q = hrsR t n 3 [] p) → ∀ (H : Heap) (locs : List Loc) (ls : Array Slot), H.size = sz → vS G.1 cls lo s H locs (vU V [(rd, eO 3 [.ref tp, .int (nI n), .int (nI q)]), (tp, eI (gB G) 400 f), (pa, eO 1 [.int i0, .int i1, .int i2, .int i3, .int i4, .int i5, .int (nI hs.length), .ref x1, .ref x2, .ref x3, .int i7, .int i8, .long j8, .int i9, .int i10]), (x1, eI (gI G) 3 h1), (x2, eI (gI G) 3 h2), (x3, eI (gI G) 3 h3)]) → lv_has ls 6 [(0, .ref rd), (1, .ref pa), (2, .int (nI hs.length))] → W pg l ev ({ frames := 2, cells := 0, slots := 0, locals := 60 } : Room) s mi args below meth cd H locs 0 0 (MQ below (vPost G lo (fun r V' k => r = some (.int (rB (hrsR t n 3 [] p))) ∧ (∃ (hs : List Tri) (h1 h2 h3 : Nat → Int32), V' = vU V [(rd, eO 3 [.ref tp, .int (nI n), .int (nI (sR (hrsR t n 3 [] p)))]), (tp, eI (gB G) 400 f), (pa, eO 1 [.int i0, .int i1, .int i2, .int i3, .int i4, .int i5, .int (nI hs.length), .ref x1, .ref x2, .ref x3, .int i7, .int i8, .long j8, .int i9, .int i10]), (x1, eI (gI G) 3 h1), (x2, eI (gI G) 3 h2), (x3, eI (gI G) 3 h3)] ∧ hrOk h1 h2 h3 hs ∧ ∀ z, hrsR t n 3 [] p = .inr z → hs = z.1) ∧ k = sz)) args s 0 0 (vL lo)) (F0 mi 2 ls []) := by
    intro k
    induction k with
    | zero => intro hs q h1 h2 h3 hk; exact absurd hk (by omega)
    | succ k ih =>
      intro hs q h1 h2 h3 hk hl3 hqn hH hX H locs ls hz hV hl
      refine lv_iload_n hx hb d_Rd_readHours_2 rfl (lv_at hl 2 rfl) ?_
      refine lv_iconst (v := 3) hx hb d_Rd_readHours_3 (by decide) ?_
      refine lv_icmp_ge (tgt := 117) hx hb d_Rd_readHours_4 (by decide) (fun c_1 => ?_) (fun c_1 => ?_)
      · replace c_1 : 3 ≤ hs.length := (nI_leI (a := 3) (b := hs.length) (by omega) (by omega)).mp c_1
        have hE : hrsR t n 3 [] p = .inr (hs, q) := by rw [← hX]; exact hrs_end c_1
        refine lv_iconst (v := 1) hx hb d_Rd_readHours_117 (by decide) ?_
        exact W.zret (v := 1) hx hb hr (by decide) (v_end hV ⟨by rw [hE]; rfl, ⟨hs, h1, h2, h3, by rw [hE]; rfl, hH, fun z hz9 => by rw [hE] at hz9; cases hz9; rfl⟩, hz⟩) hV.2.1.2.2 d_Rd_readHours_118
      · replace c_1 : ¬ 3 ≤ hs.length := fun z9 => c_1 ((nI_leI (a := 3) (b := hs.length) (by omega) (by omega)).mpr z9)
        refine lv_aload_n hx hb d_Rd_readHours_7 rfl (lv_at hl 0 rfl) ?_
        refine v_call (va_runV (As := []) (rest := []) ⟨hx, hb, hml, hown, hts⟩ (c_Rd_peek l G lo _ _ rd tp f t n q (nd_sub hn [0, 1] (by decide) rfl) hT h4 (by omega)) (kwV 0 hts w_co_Rd_peek rfl rfl w_it_Rd w_ml_Rd_22 w_im_Rd_peek w_se_Rd__Rd_peek (by decide +kernel) ⟨by decide, by decide⟩) (u_preV hK hV hn [0, 1] rfl hz 0 rfl rfl) rfl rfl hl.1 rfl (lv_room (Nat.le_of_ble_eq_true rfl)) d_Rd_readHours_8 ⟨(Nat.le_of_ble_eq_true rfl), (Nat.le_of_ble_eq_true rfl)⟩) hV (fun r9 V9 H locs hp hV hle => ?_)
        obtain ⟨rfl, rfl, hz⟩ := hp
        replace hV := u_back hV hn [0, 1] rfl
        have hV : vS G.1 cls lo s H locs (vU V [(rd, eO 3 [.ref tp, .int (nI n), .int (nI (sk t n q))]), (tp, eI (gB G) 400 f), (pa, eO 1 [.int i0, .int i1, .int i2, .int i3, .int i4, .int i5, .int (nI hs.length), .ref x1, .ref x2, .ref x3, .int i7, .int i8, .long j8, .int i9, .int i10]), (x1, eI (gI G) 3 h1), (x2, eI (gI G) 3 h2), (x3, eI (gI G) 3 h3)]) := hV
        obtain ⟨q_2, hq_2⟩ : ∃ z, sk t n q = z := ⟨_, rfl⟩
        rw [hq_2] at hV
        have bq_2 : q_2 ≤ n := by rw [← hq_2]; exact sk_le (by omega)
        have gq_2 : q ≤ q_2 := by rw [← hq_2]; exact sk_ge t n q
        rcases Nat.lt_or_ge q_2 n with lq_2 | lq_2
        · have kq_2 : t q_2 < 256 := (hT q_2 lq_2).1
          have hV : vS G.1 cls lo s H locs (vU V [(rd, eO 3 [.ref tp, .int (nI n), .int (nI q_2)]), (tp, eI (gB G) 400 f), (pa, eO 1 [.int i0, .int i1, .int i2, .int i3, .int i4, .int i5, .int (nI hs.length), .ref x1, .ref x2, .ref x3, .int i7, .int i8, .long j8, .int i9, .int i10]), (x1, eI (gI G) 3 h1), (x2, eI (gI G) 3 h2), (x3, eI (gI G) 3 h3)]) := hV
          refine W.eq (g2 := F0 mi 11 ls [.int (nI (t q_2))]) (by rw [hq_2, rK_in lq_2]; rfl) ?_
          refine lv_bipush (v := 91) hx hb d_Rd_readHours_11 (by decide) ?_
          refine lv_icmp_ne (tgt := 117) hx hb d_Rd_readHours_13 (by decide) (fun c_3 => ?_) (fun c_3 => ?_)
          · replace c_3 : ¬ t q_2 = 91 := fun z9 => c_3 ((nI_eq (a := t q_2) (b := 91) (by omega) (by omega)).mpr z9)
            refine lv_iconst (v := 1) hx hb d_Rd_readHours_117 (by decide) ?_
            have hE : hrsR t n 3 [] p = .inr (hs, q_2) := by rw [← hX]; exact hrs_no (by omega) hq_2 (by omega)
            exact W.zret (v := 1) hx hb hr (by decide) (v_end hV ⟨by rw [hE]; rfl, ⟨hs, h1, h2, h3, by rw [hE]; rfl, hH, fun z hz9 => by rw [hE] at hz9; cases hz9; rfl⟩, hz⟩) hV.2.1.2.2 d_Rd_readHours_118
          · replace c_3 : t q_2 = 91 := (nI_eq (a := t q_2) (b := 91) (by omega) (by omega)).mp c_3
            refine lv_aload_n hx hb d_Rd_readHours_16 rfl (lv_at hl 0 rfl) ?_
            refine lv_dup hx hb d_Rd_readHours_17 rfl ?_
            refine u_get hx hb hts inRd hown hK hV hn 0 rfl rfl 2 (by decide) w_fl_Rd_19 rfl rfl d_Rd_readHours_18 ?_
            refine lv_iconst (v := 1) hx hb d_Rd_readHours_21 (by decide) ?_
            refine e_iadd (v := nI (q_2 + 1)) hx hb d_Rd_readHours_22 (nI_add q_2 1) ?_
            refine u_put hx hb hts inRd tyRd tyRd_ok nmRd hown hK hV hn 0 rfl rfl 2 (by decide) w_fl_Rd_19 rfl rfl rfl rfl (Nat.le_of_ble_eq_true rfl) d_Rd_readHours_23 (fun H locs hV hz9 => ?_)
            have hV : vS G.1 cls lo s H locs (vU V [(rd, eO 3 [.ref tp, .int (nI n), .int (nI (q_2 + 1))]), (tp, eI (gB G) 400 f), (pa, eO 1 [.int i0, .int i1, .int i2, .int i3, .int i4, .int i5, .int (nI hs.length), .ref x1, .ref x2, .ref x3, .int i7, .int i8, .long j8, .int i9, .int i10]), (x1, eI (gI G) 3 h1), (x2, eI (gI G) 3 h2), (x3, eI (gI G) 3 h3)]) := hV
            replace hz := hz9.trans hz
            refine lv_aload_n hx hb d_Rd_readHours_26 rfl (lv_at hl 0 rfl) ?_
            refine lv_iconst (v := 0) hx hb d_Rd_readHours_27 (by decide) ?_
            refine lv_bipush (v := 23) hx hb d_Rd_readHours_28 (by decide) ?_
            refine v_call (va_runV (As := [.int 0, .int 23]) (rest := []) ⟨hx, hb, hml, hown, hts⟩ (c_Rd_readNumber l G lo _ _ rd tp f t n (q_2 + 1) (nd_sub hn [0, 1] (by decide) rfl) hT h4 (by omega) 0 23 (by omega) (by omega)) (kwV 2 hts w_co_Rd_readNumber rfl rfl w_it_Rd w_ml_Rd_61 w_im_Rd_readNumber w_se_Rd__Rd_readNumber (by decide +kernel) ⟨by decide, by decide⟩) (u_preV hK hV hn [0, 1] rfl hz 0 rfl rfl) rfl rfl hl.1 rfl (lv_room (Nat.le_of_ble_eq_true rfl)) d_Rd_readHours_30 ⟨(Nat.le_of_ble_eq_true rfl), (Nat.le_of_ble_eq_true rfl)⟩) hV (fun r9 V9 H locs hp hV hle => ?_)
            obtain ⟨rfl, rfl, hz⟩ := hp
            replace hV := u_back hV hn [0, 1] rfl
            have hV : vS G.1 cls lo s H locs (vU V [(rd, eO 3 [.ref tp, .int (nI n), .int (nI (rP (num t n 0 23 (q_2 + 1))))]), (tp, eI (gB G) 400 f), (pa, eO 1 [.int i0, .int i1, .int i2, .int i3, .int i4, .int i5, .int (nI hs.length), .ref x1, .ref x2, .ref x3, .int i7, .int i8, .long j8, .int i9, .int i10]), (x1, eI (gI G) 3 h1), (x2, eI (gI G) 3 h2), (x3, eI (gI G) 3 h3)]) := hV
            obtain ⟨x_4, hx_4⟩ : ∃ z, num t n 0 23 (q_2 + 1) = z := ⟨_, rfl⟩
            rw [hx_4] at hV
            rcases x_4 with e_4 | ⟨v_4, q_4⟩
            · have be_4 : e_4 ≤ n := num_er hx_4 (by omega)
              have hV : vS G.1 cls lo s H locs (vU V [(rd, eO 3 [.ref tp, .int (nI n), .int (nI e_4)]), (tp, eI (gB G) 400 f), (pa, eO 1 [.int i0, .int i1, .int i2, .int i3, .int i4, .int i5, .int (nI hs.length), .ref x1, .ref x2, .ref x3, .int i7, .int i8, .long j8, .int i9, .int i10]), (x1, eI (gI G) 3 h1), (x2, eI (gI G) 3 h2), (x3, eI (gI G) 3 h3)]) := hV
              refine W.eq (g2 := F0 mi 33 ls [.int ((-1))]) (by rw [hx_4]; rfl) ?_
              refine lv_istore_n (lv' := [(3, .int ((-1))), (0, .ref rd), (1, .ref pa), (2, .int (nI hs.length))]) hx hb d_Rd_readHours_33 rfl hl (by decide) rfl (fun ls hl => ?_)
              refine lv_iload_n hx hb d_Rd_readHours_34 rfl (lv_at hl 0 rfl) ?_
              refine lv_iconst (v := (-1)) hx hb d_Rd_readHours_35 (by decide) ?_
              refine lv_icmp_eq (tgt := 48) hx hb d_Rd_readHours_36 (by decide) (fun _ => ?_) (fun c_5 => absurd c_5 (by decide))
              refine lv_iconst (v := 0) hx hb d_Rd_readHours_48 (by decide) ?_
              have hE : hrsR t n 3 [] p = .inl e_4 := by rw [← hX, hrs_go (by omega) hq_2 (by omega) (by omega)]; simp only [hourR, sbd_l, sbd_r, hx_4]
              exact W.zret (v := 0) hx hb hr (by decide) (v_end hV ⟨by rw [hE]; rfl, ⟨hs, h1, h2, h3, by rw [hE]; rfl, hH, fun z hz9 => by rw [hE] at hz9; cases hz9⟩, hz⟩) hV.2.1.2.2 d_Rd_readHours_49
            · obtain ⟨lv_4, uv_4, gq_4, bq_4⟩ := num_ok hx_4 (by omega)
              have hV : vS G.1 cls lo s H locs (vU V [(rd, eO 3 [.ref tp, .int (nI n), .int (nI q_4)]), (tp, eI (gB G) 400 f), (pa, eO 1 [.int i0, .int i1, .int i2, .int i3, .int i4, .int i5, .int (nI hs.length), .ref x1, .ref x2, .ref x3, .int i7, .int i8, .long j8, .int i9, .int i10]), (x1, eI (gI G) 3 h1), (x2, eI (gI G) 3 h2), (x3, eI (gI G) 3 h3)]) := hV
              refine W.eq (g2 := F0 mi 33 ls [.int (nI v_4)]) (by rw [hx_4]; rfl) ?_
              refine lv_istore_n (lv' := [(3, .int (nI v_4)), (0, .ref rd), (1, .ref pa), (2, .int (nI hs.length))]) hx hb d_Rd_readHours_33 rfl hl (by decide) rfl (fun ls hl => ?_)
              refine lv_iload_n hx hb d_Rd_readHours_34 rfl (lv_at hl 0 rfl) ?_
              refine lv_iconst (v := (-1)) hx hb d_Rd_readHours_35 (by decide) ?_
              refine lv_icmp_eq (tgt := 48) hx hb d_Rd_readHours_36 (by decide) (fun c_6 => absurd c_6 (nI_nem (by omega))) (fun _ => ?_)
              refine lv_aload_n hx hb d_Rd_readHours_39 rfl (lv_at hl 1 rfl) ?_
              refine lv_bipush (v := 45) hx hb d_Rd_readHours_40 (by decide) ?_
              refine v_call (va_runV (As := [.int 45]) (rest := []) ⟨hx, hb, hml, hown, hts⟩ (c_Rd_take l G lo _ _ rd tp f t n q_4 (nd_sub hn [0, 1] (by decide) rfl) hT h4 (by omega) 45 (by decide)) (kwV 1 hts w_co_Rd_take rfl rfl w_it_Rd w_ml_Rd_30 w_im_Rd_take w_se_Rd__Rd_take (by decide +kernel) ⟨by decide, by decide⟩) (u_preV hK hV hn [0, 1] rfl hz 0 rfl rfl) rfl rfl hl.1 rfl (lv_room (Nat.le_of_ble_eq_true rfl)) d_Rd_readHours_42 ⟨(Nat.le_of_ble_eq_true rfl), (Nat.le_of_ble_eq_true rfl)⟩) hV (fun r9 V9 H locs hp hV hle => ?_)
              obtain ⟨rfl, rfl, hz⟩ := hp
              replace hV := u_back hV hn [0, 1] rfl
              have hV : vS G.1 cls lo s H locs (vU V [(rd, eO 3 [.ref tp, .int (nI n), .int (nI (rQ (tk t n 45 q_4)))]), (tp, eI (gB G) 400 f), (pa, eO 1 [.int i0, .int i1, .int i2, .int i3, .int i4, .int i5, .int (nI hs.length), .ref x1, .ref x2, .ref x3, .int i7, .int i8, .long j8, .int i9, .int i10]), (x1, eI (gI G) 3 h1), (x2, eI (gI G) 3 h2), (x3, eI (gI G) 3 h3)]) := hV
              obtain ⟨x_7, hx_7⟩ : ∃ z, tk t n 45 q_4 = z := ⟨_, rfl⟩
              rw [hx_7] at hV
              rcases x_7 with e_7 | q_7
              · have be_7 : e_7 ≤ n := tk_er hx_7 (by omega)
                have hV : vS G.1 cls lo s H locs (vU V [(rd, eO 3 [.ref tp, .int (nI n), .int (nI e_7)]), (tp, eI (gB G) 400 f), (pa, eO 1 [.int i0, .int i1, .int i2, .int i3, .int i4, .int i5, .int (nI hs.length), .ref x1, .ref x2, .ref x3, .int i7, .int i8, .long j8, .int i9, .int i10]), (x1, eI (gI G) 3 h1), (x2, eI (gI G) 3 h2), (x3, eI (gI G) 3 h3)]) := hV
                refine W.eq (g2 := F0 mi 45 ls [.int 0]) (by rw [hx_7]; rfl) ?_
                refine lv_if_ne (tgt := 50) hx hb d_Rd_readHours_45 (by decide) (fun c_8 => absurd c_8 (by decide)) (fun _ => ?_)
                refine lv_iconst (v := 0) hx hb d_Rd_readHours_48 (by decide) ?_
                have hE : hrsR t n 3 [] p = .inl e_7 := by rw [← hX, hrs_go (by omega) hq_2 (by omega) (by omega)]; simp only [hourR, sbd_l, sbd_r, hx_4, hx_7]
                exact W.zret (v := 0) hx hb hr (by decide) (v_end hV ⟨by rw [hE]; rfl, ⟨hs, h1, h2, h3, by rw [hE]; rfl, hH, fun z hz9 => by rw [hE] at hz9; cases hz9⟩, hz⟩) hV.2.1.2.2 d_Rd_readHours_49
              · obtain ⟨gq_7, bq_7⟩ := tk_ok hx_7
                have hV : vS G.1 cls lo s H locs (vU V [(rd, eO 3 [.ref tp, .int (nI n), .int (nI q_7)]), (tp, eI (gB G) 400 f), (pa, eO 1 [.int i0, .int i1, .int i2, .int i3, .int i4, .int i5, .int (nI hs.length), .ref x1, .ref x2, .ref x3, .int i7, .int i8, .long j8, .int i9, .int i10]), (x1, eI (gI G) 3 h1), (x2, eI (gI G) 3 h2), (x3, eI (gI G) 3 h3)]) := hV
                refine W.eq (g2 := F0 mi 45 ls [.int 1]) (by rw [hx_7]; rfl) ?_
                refine lv_if_ne (tgt := 50) hx hb d_Rd_readHours_45 (by decide) (fun _ => ?_) (fun c_9 => absurd c_9 (by decide))
                refine lv_aload_n hx hb d_Rd_readHours_50 rfl (lv_at hl 1 rfl) ?_
                refine lv_iload_n hx hb d_Rd_readHours_51 rfl (lv_at hl 0 rfl) ?_
                refine lv_bipush (v := 23) hx hb d_Rd_readHours_52 (by decide) ?_
                refine v_call (va_runV (As := [.int (nI v_4), .int 23]) (rest := []) ⟨hx, hb, hml, hown, hts⟩ (c_Rd_readNumber l G lo _ _ rd tp f t n q_7 (nd_sub hn [0, 1] (by decide) rfl) hT h4 (by omega) v_4 23 (by omega) (by omega)) (kwV 2 hts w_co_Rd_readNumber rfl rfl w_it_Rd w_ml_Rd_61 w_im_Rd_readNumber w_se_Rd__Rd_readNumber (by decide +kernel) ⟨by decide, by decide⟩) (u_preV hK hV hn [0, 1] rfl hz 0 rfl rfl) rfl rfl hl.1 rfl (lv_room (Nat.le_of_ble_eq_true rfl)) d_Rd_readHours_54 ⟨(Nat.le_of_ble_eq_true rfl), (Nat.le_of_ble_eq_true rfl)⟩) hV (fun r9 V9 H locs hp hV hle => ?_)
                obtain ⟨rfl, rfl, hz⟩ := hp
                replace hV := u_back hV hn [0, 1] rfl
                have hV : vS G.1 cls lo s H locs (vU V [(rd, eO 3 [.ref tp, .int (nI n), .int (nI (rP (num t n v_4 23 q_7)))]), (tp, eI (gB G) 400 f), (pa, eO 1 [.int i0, .int i1, .int i2, .int i3, .int i4, .int i5, .int (nI hs.length), .ref x1, .ref x2, .ref x3, .int i7, .int i8, .long j8, .int i9, .int i10]), (x1, eI (gI G) 3 h1), (x2, eI (gI G) 3 h2), (x3, eI (gI G) 3 h3)]) := hV
                obtain ⟨x_10, hx_10⟩ : ∃ z, num t n v_4 23 q_7 = z := ⟨_, rfl⟩
                rw [hx_10] at hV
                rcases x_10 with e_10 | ⟨v_10, q_10⟩
                · have be_10 : e_10 ≤ n := num_er hx_10 (by omega)
                  have hV : vS G.1 cls lo s H locs (vU V [(rd, eO 3 [.ref tp, .int (nI n), .int (nI e_10)]), (tp, eI (gB G) 400 f), (pa, eO 1 [.int i0, .int i1, .int i2, .int i3, .int i4, .int i5, .int (nI hs.length), .ref x1, .ref x2, .ref x3, .int i7, .int i8, .long j8, .int i9, .int i10]), (x1, eI (gI G) 3 h1), (x2, eI (gI G) 3 h2), (x3, eI (gI G) 3 h3)]) := hV
                  refine W.eq (g2 := F0 mi 57 ls [.int ((-1))]) (by rw [hx_10]; rfl) ?_
                  refine lv_istore (lv' := [(4, .int ((-1))), (3, .int (nI v_4)), (0, .ref rd), (1, .ref pa), (2, .int (nI hs.length))]) hx hb d_Rd_readHours_57 hl (by decide) rfl (fun ls hl => ?_)
                  refine lv_iload hx hb d_Rd_readHours_59 (lv_at hl 0 rfl) ?_
                  refine lv_iconst (v := (-1)) hx hb d_Rd_readHours_61 (by decide) ?_
                  refine lv_icmp_eq (tgt := 74) hx hb d_Rd_readHours_62 (by decide) (fun _ => ?_) (fun c_11 => absurd c_11 (by decide))
                  refine lv_iconst (v := 0) hx hb d_Rd_readHours_74 (by decide) ?_
                  have hE : hrsR t n 3 [] p = .inl e_10 := by rw [← hX, hrs_go (by omega) hq_2 (by omega) (by omega)]; simp only [hourR, sbd_l, sbd_r, hx_4, hx_7, hx_10]
                  exact W.zret (v := 0) hx hb hr (by decide) (v_end hV ⟨by rw [hE]; rfl, ⟨hs, h1, h2, h3, by rw [hE]; rfl, hH, fun z hz9 => by rw [hE] at hz9; cases hz9⟩, hz⟩) hV.2.1.2.2 d_Rd_readHours_75
                · obtain ⟨lv_10, uv_10, gq_10, bq_10⟩ := num_ok hx_10 (by omega)
                  have hV : vS G.1 cls lo s H locs (vU V [(rd, eO 3 [.ref tp, .int (nI n), .int (nI q_10)]), (tp, eI (gB G) 400 f), (pa, eO 1 [.int i0, .int i1, .int i2, .int i3, .int i4, .int i5, .int (nI hs.length), .ref x1, .ref x2, .ref x3, .int i7, .int i8, .long j8, .int i9, .int i10]), (x1, eI (gI G) 3 h1), (x2, eI (gI G) 3 h2), (x3, eI (gI G) 3 h3)]) := hV
                  refine W.eq (g2 := F0 mi 57 ls [.int (nI v_10)]) (by rw [hx_10]; rfl) ?_
                  refine lv_istore (lv' := [(4, .int (nI v_10)), (3, .int (nI v_4)), (0, .ref rd), (1, .ref pa), (2, .int (nI hs.length))]) hx hb d_Rd_readHours_57 hl (by decide) rfl (fun ls hl => ?_)
                  refine lv_iload hx hb d_Rd_readHours_59 (lv_at hl 0 rfl) ?_
                  refine lv_iconst (v := (-1)) hx hb d_Rd_readHours_61 (by decide) ?_
                  refine lv_icmp_eq (tgt := 74) hx hb d_Rd_readHours_62 (by decide) (fun c_12 => absurd c_12 (nI_nem (by omega))) (fun _ => ?_)
                  refine lv_aload_n hx hb d_Rd_readHours_65 rfl (lv_at hl 2 rfl) ?_
                  refine lv_bipush (v := 58) hx hb d_Rd_readHours_66 (by decide) ?_
                  refine v_call (va_runV (As := [.int 58]) (rest := []) ⟨hx, hb, hml, hown, hts⟩ (c_Rd_take l G lo _ _ rd tp f t n q_10 (nd_sub hn [0, 1] (by decide) rfl) hT h4 (by omega) 58 (by decide)) (kwV 1 hts w_co_Rd_take rfl rfl w_it_Rd w_ml_Rd_30 w_im_Rd_take w_se_Rd__Rd_take (by decide +kernel) ⟨by decide, by decide⟩) (u_preV hK hV hn [0, 1] rfl hz 0 rfl rfl) rfl rfl hl.1 rfl (lv_room (Nat.le_of_ble_eq_true rfl)) d_Rd_readHours_68 ⟨(Nat.le_of_ble_eq_true rfl), (Nat.le_of_ble_eq_true rfl)⟩) hV (fun r9 V9 H locs hp hV hle => ?_)
                  obtain ⟨rfl, rfl, hz⟩ := hp
                  replace hV := u_back hV hn [0, 1] rfl
                  have hV : vS G.1 cls lo s H locs (vU V [(rd, eO 3 [.ref tp, .int (nI n), .int (nI (rQ (tk t n 58 q_10)))]), (tp, eI (gB G) 400 f), (pa, eO 1 [.int i0, .int i1, .int i2, .int i3, .int i4, .int i5, .int (nI hs.length), .ref x1, .ref x2, .ref x3, .int i7, .int i8, .long j8, .int i9, .int i10]), (x1, eI (gI G) 3 h1), (x2, eI (gI G) 3 h2), (x3, eI (gI G) 3 h3)]) := hV
                  obtain ⟨x_13, hx_13⟩ : ∃ z, tk t n 58 q_10 = z := ⟨_, rfl⟩
                  rw [hx_13] at hV
                  rcases x_13 with e_13 | q_13
                  · have be_13 : e_13 ≤ n := tk_er hx_13 (by omega)
                    have hV : vS G.1 cls lo s H locs (vU V [(rd, eO 3 [.ref tp, .int (nI n), .int (nI e_13)]), (tp, eI (gB G) 400 f), (pa, eO 1 [.int i0, .int i1, .int i2, .int i3, .int i4, .int i5, .int (nI hs.length), .ref x1, .ref x2, .ref x3, .int i7, .int i8, .long j8, .int i9, .int i10]), (x1, eI (gI G) 3 h1), (x2, eI (gI G) 3 h2), (x3, eI (gI G) 3 h3)]) := hV
                    refine W.eq (g2 := F0 mi 71 ls [.int 0]) (by rw [hx_13]; rfl) ?_
                    refine lv_if_ne (tgt := 76) hx hb d_Rd_readHours_71 (by decide) (fun c_14 => absurd c_14 (by decide)) (fun _ => ?_)
                    refine lv_iconst (v := 0) hx hb d_Rd_readHours_74 (by decide) ?_
                    have hE : hrsR t n 3 [] p = .inl e_13 := by rw [← hX, hrs_go (by omega) hq_2 (by omega) (by omega)]; simp only [hourR, sbd_l, sbd_r, hx_4, hx_7, hx_10, hx_13]
                    exact W.zret (v := 0) hx hb hr (by decide) (v_end hV ⟨by rw [hE]; rfl, ⟨hs, h1, h2, h3, by rw [hE]; rfl, hH, fun z hz9 => by rw [hE] at hz9; cases hz9⟩, hz⟩) hV.2.1.2.2 d_Rd_readHours_75
                  · obtain ⟨gq_13, bq_13⟩ := tk_ok hx_13
                    have hV : vS G.1 cls lo s H locs (vU V [(rd, eO 3 [.ref tp, .int (nI n), .int (nI q_13)]), (tp, eI (gB G) 400 f), (pa, eO 1 [.int i0, .int i1, .int i2, .int i3, .int i4, .int i5, .int (nI hs.length), .ref x1, .ref x2, .ref x3, .int i7, .int i8, .long j8, .int i9, .int i10]), (x1, eI (gI G) 3 h1), (x2, eI (gI G) 3 h2), (x3, eI (gI G) 3 h3)]) := hV
                    refine W.eq (g2 := F0 mi 71 ls [.int 1]) (by rw [hx_13]; rfl) ?_
                    refine lv_if_ne (tgt := 76) hx hb d_Rd_readHours_71 (by decide) (fun _ => ?_) (fun c_15 => absurd c_15 (by decide))
                    refine lv_aload_n hx hb d_Rd_readHours_76 rfl (lv_at hl 2 rfl) ?_
                    refine lv_iconst (v := 1) hx hb d_Rd_readHours_77 (by decide) ?_
                    refine lv_bipush (v := 99) hx hb d_Rd_readHours_78 (by decide) ?_
                    refine v_call (va_runV (As := [.int 1, .int 99]) (rest := []) ⟨hx, hb, hml, hown, hts⟩ (c_Rd_readNumber l G lo _ _ rd tp f t n q_13 (nd_sub hn [0, 1] (by decide) rfl) hT h4 (by omega) 1 99 (by omega) (by omega)) (kwV 2 hts w_co_Rd_readNumber rfl rfl w_it_Rd w_ml_Rd_61 w_im_Rd_readNumber w_se_Rd__Rd_readNumber (by decide +kernel) ⟨by decide, by decide⟩) (u_preV hK hV hn [0, 1] rfl hz 0 rfl rfl) rfl rfl hl.1 rfl (lv_room (Nat.le_of_ble_eq_true rfl)) d_Rd_readHours_80 ⟨(Nat.le_of_ble_eq_true rfl), (Nat.le_of_ble_eq_true rfl)⟩) hV (fun r9 V9 H locs hp hV hle => ?_)
                    obtain ⟨rfl, rfl, hz⟩ := hp
                    replace hV := u_back hV hn [0, 1] rfl
                    have hV : vS G.1 cls lo s H locs (vU V [(rd, eO 3 [.ref tp, .int (nI n), .int (nI (rP (num t n 1 99 q_13)))]), (tp, eI (gB G) 400 f), (pa, eO 1 [.int i0, .int i1, .int i2, .int i3, .int i4, .int i5, .int (nI hs.length), .ref x1, .ref x2, .ref x3, .int i7, .int i8, .long j8, .int i9, .int i10]), (x1, eI (gI G) 3 h1), (x2, eI (gI G) 3 h2), (x3, eI (gI G) 3 h3)]) := hV
                    obtain ⟨x_16, hx_16⟩ : ∃ z, num t n 1 99 q_13 = z := ⟨_, rfl⟩
                    rw [hx_16] at hV
                    rcases x_16 with e_16 | ⟨v_16, q_16⟩
                    · have be_16 : e_16 ≤ n := num_er hx_16 (by omega)
                      have hV : vS G.1 cls lo s H locs (vU V [(rd, eO 3 [.ref tp, .int (nI n), .int (nI e_16)]), (tp, eI (gB G) 400 f), (pa, eO 1 [.int i0, .int i1, .int i2, .int i3, .int i4, .int i5, .int (nI hs.length), .ref x1, .ref x2, .ref x3, .int i7, .int i8, .long j8, .int i9, .int i10]), (x1, eI (gI G) 3 h1), (x2, eI (gI G) 3 h2), (x3, eI (gI G) 3 h3)]) := hV
                      refine W.eq (g2 := F0 mi 83 ls [.int ((-1))]) (by rw [hx_16]; rfl) ?_
                      refine lv_istore (lv' := [(5, .int ((-1))), (4, .int (nI v_10)), (3, .int (nI v_4)), (0, .ref rd), (1, .ref pa), (2, .int (nI hs.length))]) hx hb d_Rd_readHours_83 hl (by decide) rfl (fun ls hl => ?_)
                      refine lv_iload hx hb d_Rd_readHours_85 (lv_at hl 0 rfl) ?_
                      refine lv_iconst (v := (-1)) hx hb d_Rd_readHours_87 (by decide) ?_
                      refine lv_icmp_eq (tgt := 100) hx hb d_Rd_readHours_88 (by decide) (fun _ => ?_) (fun c_17 => absurd c_17 (by decide))
                      refine lv_iconst (v := 0) hx hb d_Rd_readHours_100 (by decide) ?_
                      have hE : hrsR t n 3 [] p = .inl e_16 := by rw [← hX, hrs_go (by omega) hq_2 (by omega) (by omega)]; simp only [hourR, sbd_l, sbd_r, hx_4, hx_7, hx_10, hx_13, hx_16]
                      exact W.zret (v := 0) hx hb hr (by decide) (v_end hV ⟨by rw [hE]; rfl, ⟨hs, h1, h2, h3, by rw [hE]; rfl, hH, fun z hz9 => by rw [hE] at hz9; cases hz9⟩, hz⟩) hV.2.1.2.2 d_Rd_readHours_101
                    · obtain ⟨lv_16, uv_16, gq_16, bq_16⟩ := num_ok hx_16 (by omega)
                      have hV : vS G.1 cls lo s H locs (vU V [(rd, eO 3 [.ref tp, .int (nI n), .int (nI q_16)]), (tp, eI (gB G) 400 f), (pa, eO 1 [.int i0, .int i1, .int i2, .int i3, .int i4, .int i5, .int (nI hs.length), .ref x1, .ref x2, .ref x3, .int i7, .int i8, .long j8, .int i9, .int i10]), (x1, eI (gI G) 3 h1), (x2, eI (gI G) 3 h2), (x3, eI (gI G) 3 h3)]) := hV
                      refine W.eq (g2 := F0 mi 83 ls [.int (nI v_16)]) (by rw [hx_16]; rfl) ?_
                      refine lv_istore (lv' := [(5, .int (nI v_16)), (4, .int (nI v_10)), (3, .int (nI v_4)), (0, .ref rd), (1, .ref pa), (2, .int (nI hs.length))]) hx hb d_Rd_readHours_83 hl (by decide) rfl (fun ls hl => ?_)
                      refine lv_iload hx hb d_Rd_readHours_85 (lv_at hl 0 rfl) ?_
                      refine lv_iconst (v := (-1)) hx hb d_Rd_readHours_87 (by decide) ?_
                      refine lv_icmp_eq (tgt := 100) hx hb d_Rd_readHours_88 (by decide) (fun c_18 => absurd c_18 (nI_nem (by omega))) (fun _ => ?_)
                      refine lv_aload_n hx hb d_Rd_readHours_91 rfl (lv_at hl 3 rfl) ?_
                      refine lv_bipush (v := 93) hx hb d_Rd_readHours_92 (by decide) ?_
                      refine v_call (va_runV (As := [.int 93]) (rest := []) ⟨hx, hb, hml, hown, hts⟩ (c_Rd_take l G lo _ _ rd tp f t n q_16 (nd_sub hn [0, 1] (by decide) rfl) hT h4 (by omega) 93 (by decide)) (kwV 1 hts w_co_Rd_take rfl rfl w_it_Rd w_ml_Rd_30 w_im_Rd_take w_se_Rd__Rd_take (by decide +kernel) ⟨by decide, by decide⟩) (u_preV hK hV hn [0, 1] rfl hz 0 rfl rfl) rfl rfl hl.1 rfl (lv_room (Nat.le_of_ble_eq_true rfl)) d_Rd_readHours_94 ⟨(Nat.le_of_ble_eq_true rfl), (Nat.le_of_ble_eq_true rfl)⟩) hV (fun r9 V9 H locs hp hV hle => ?_)
                      obtain ⟨rfl, rfl, hz⟩ := hp
                      replace hV := u_back hV hn [0, 1] rfl
                      have hV : vS G.1 cls lo s H locs (vU V [(rd, eO 3 [.ref tp, .int (nI n), .int (nI (rQ (tk t n 93 q_16)))]), (tp, eI (gB G) 400 f), (pa, eO 1 [.int i0, .int i1, .int i2, .int i3, .int i4, .int i5, .int (nI hs.length), .ref x1, .ref x2, .ref x3, .int i7, .int i8, .long j8, .int i9, .int i10]), (x1, eI (gI G) 3 h1), (x2, eI (gI G) 3 h2), (x3, eI (gI G) 3 h3)]) := hV
                      obtain ⟨x_19, hx_19⟩ : ∃ z, tk t n 93 q_16 = z := ⟨_, rfl⟩
                      rw [hx_19] at hV
                      rcases x_19 with e_19 | q_19
                      · have be_19 : e_19 ≤ n := tk_er hx_19 (by omega)
                        have hV : vS G.1 cls lo s H locs (vU V [(rd, eO 3 [.ref tp, .int (nI n), .int (nI e_19)]), (tp, eI (gB G) 400 f), (pa, eO 1 [.int i0, .int i1, .int i2, .int i3, .int i4, .int i5, .int (nI hs.length), .ref x1, .ref x2, .ref x3, .int i7, .int i8, .long j8, .int i9, .int i10]), (x1, eI (gI G) 3 h1), (x2, eI (gI G) 3 h2), (x3, eI (gI G) 3 h3)]) := hV
                        refine W.eq (g2 := F0 mi 97 ls [.int 0]) (by rw [hx_19]; rfl) ?_
                        refine lv_if_ne (tgt := 102) hx hb d_Rd_readHours_97 (by decide) (fun c_20 => absurd c_20 (by decide)) (fun _ => ?_)
                        refine lv_iconst (v := 0) hx hb d_Rd_readHours_100 (by decide) ?_
                        have hE : hrsR t n 3 [] p = .inl e_19 := by rw [← hX, hrs_go (by omega) hq_2 (by omega) (by omega)]; simp only [hourR, sbd_l, sbd_r, hx_4, hx_7, hx_10, hx_13, hx_16, hx_19]
                        exact W.zret (v := 0) hx hb hr (by decide) (v_end hV ⟨by rw [hE]; rfl, ⟨hs, h1, h2, h3, by rw [hE]; rfl, hH, fun z hz9 => by rw [hE] at hz9; cases hz9⟩, hz⟩) hV.2.1.2.2 d_Rd_readHours_101
                      · obtain ⟨gq_19, bq_19⟩ := tk_ok hx_19
                        have hV : vS G.1 cls lo s H locs (vU V [(rd, eO 3 [.ref tp, .int (nI n), .int (nI q_19)]), (tp, eI (gB G) 400 f), (pa, eO 1 [.int i0, .int i1, .int i2, .int i3, .int i4, .int i5, .int (nI hs.length), .ref x1, .ref x2, .ref x3, .int i7, .int i8, .long j8, .int i9, .int i10]), (x1, eI (gI G) 3 h1), (x2, eI (gI G) 3 h2), (x3, eI (gI G) 3 h3)]) := hV
                        refine W.eq (g2 := F0 mi 97 ls [.int 1]) (by rw [hx_19]; rfl) ?_
                        refine lv_if_ne (tgt := 102) hx hb d_Rd_readHours_97 (by decide) (fun _ => ?_) (fun c_21 => absurd c_21 (by decide))
                        refine lv_aload_n hx hb d_Rd_readHours_102 rfl (lv_at hl 4 rfl) ?_
                        refine lv_iload_n hx hb d_Rd_readHours_103 rfl (lv_at hl 2 rfl) ?_
                        refine lv_iload hx hb d_Rd_readHours_104 (lv_at hl 1 rfl) ?_
                        refine lv_iload hx hb d_Rd_readHours_106 (lv_at hl 0 rfl) ?_
                        refine v_call (va_runV (As := [.int (nI v_4), .int (nI v_10), .int (nI v_16)]) (rest := []) ⟨hx, hb, hml, hown, hts⟩ (c_Pc_addHours l G lo _ _ pa x1 x2 x3 i0 i1 i2 i3 i4 i5 i7 i8 j8 i9 i10 h1 h2 h3 hs (nd_sub hn [2, 3, 4, 5] (by decide) rfl) hH v_4 v_10 v_16 (by omega)) (kwV 3 hts w_co_Pc_addHours rfl rfl w_it_Pc w_ml_Rd_119 w_im_Pc_addHours w_se_Pc__Pc_addHours (by decide +kernel) ⟨by decide, by decide⟩) (u_preV hK hV hn [2, 3, 4, 5] rfl hz 2 rfl rfl) rfl rfl hl.1 rfl (lv_room (Nat.le_of_ble_eq_true rfl)) d_Rd_readHours_108 ⟨(Nat.le_of_ble_eq_true rfl), (Nat.le_of_ble_eq_true rfl)⟩) hV (fun r9 V9 H locs hp hV hle => ?_)
                        obtain ⟨rfl, ⟨g_221, g_222, g_223, rfl, hH2⟩, hz⟩ := hp
                        replace hV := u_back hV hn [2, 3, 4, 5] rfl
                        have hV : vS G.1 cls lo s H locs (vU V [(rd, eO 3 [.ref tp, .int (nI n), .int (nI q_19)]), (tp, eI (gB G) 400 f), (pa, eO 1 [.int i0, .int i1, .int i2, .int i3, .int i4, .int i5, .int (nI (hs.length + 1)), .ref x1, .ref x2, .ref x3, .int i7, .int i8, .long j8, .int i9, .int i10]), (x1, eI (gI G) 3 g_221), (x2, eI (gI G) 3 g_222), (x3, eI (gI G) 3 g_223)]) := hV
                        refine lv_iinc (v := nI (hs.length + 1)) (lv' := [(2, .int (nI (hs.length + 1))), (5, .int (nI v_16)), (4, .int (nI v_10)), (3, .int (nI v_4)), (0, .ref rd), (1, .ref pa)]) hx hb d_Rd_readHours_111 hl (k := 5) rfl (nI_add hs.length 1) (by decide) rfl (fun ls hl => ?_)
                        refine lv_goto (tgt := 2) hx hb d_Rd_readHours_114 (by decide) ?_
                        have hV : vS G.1 cls lo s H locs (vU V [(rd, eO 3 [.ref tp, .int (nI n), .int (nI q_19)]), (tp, eI (gB G) 400 f), (pa, eO 1 [.int i0, .int i1, .int i2, .int i3, .int i4, .int i5, .int (nI (hs ++ [(v_4, v_10, v_16)]).length), .ref x1, .ref x2, .ref x3, .int i7, .int i8, .long j8, .int i9, .int i10]), (x1, eI (gI G) 3 g_221), (x2, eI (gI G) 3 g_222), (x3, eI (gI G) 3 g_223)]) := by rw [List.length_append]; exact hV
                        have hl : lv_has ls 6 [(2, .int (nI (hs ++ [(v_4, v_10, v_16)]).length)), (5, .int (nI v_16)), (4, .int (nI v_10)), (3, .int (nI v_4)), (0, .ref rd), (1, .ref pa)] := by rw [List.length_append]; exact hl
                        exact ih (hs ++ [(v_4, v_10, v_16)]) q_19 g_221 g_222 g_223 (by simp; omega) (by simp; omega) (by omega) hH2 (by rw [← hX, hrs_go (by omega) hq_2 (by omega) (by omega)]; simp only [hourR, sbd_l, sbd_r, hx_4, hx_7, hx_10, hx_13, hx_16, hx_19]) H locs ls hz hV (lv_sub hl [4, 5, 0] rfl)
        · have hV : vS G.1 cls lo s H locs (vU V [(rd, eO 3 [.ref tp, .int (nI n), .int (nI q_2)]), (tp, eI (gB G) 400 f), (pa, eO 1 [.int i0, .int i1, .int i2, .int i3, .int i4, .int i5, .int (nI hs.length), .ref x1, .ref x2, .ref x3, .int i7, .int i8, .long j8, .int i9, .int i10]), (x1, eI (gI G) 3 h1), (x2, eI (gI G) 3 h2), (x3, eI (gI G) 3 h3)]) := hV
          refine W.eq (g2 := F0 mi 11 ls [.int ((-1))]) (by rw [hq_2, rK_out (by omega)]; rfl) ?_
          refine lv_bipush (v := 91) hx hb d_Rd_readHours_11 (by decide) ?_
          refine lv_icmp_ne (tgt := 117) hx hb d_Rd_readHours_13 (by decide) (fun _ => ?_) (fun c_23 => absurd c_23 (by decide))
          refine lv_iconst (v := 1) hx hb d_Rd_readHours_117 (by decide) ?_
          have hE : hrsR t n 3 [] p = .inr (hs, q_2) := by rw [← hX]; exact hrs_no (by omega) hq_2 (by omega)
          exact W.zret (v := 1) hx hb hr (by decide) (v_end hV ⟨by rw [hE]; rfl, ⟨hs, h1, h2, h3, by rw [hE]; rfl, hH, fun z hz9 => by rw [hE] at hz9; cases hz9; rfl⟩, hz⟩) hV.2.1.2.2 d_Rd_readHours_118
  exact loop 4 [] p g1 g2 g3 (by decide) (by decide) hp (fun i hi => absurd hi (by simp)) rfl H locs ls hz hV (lv_sub hl [1, 2, 0] rfl)

set_option maxHeartbeats 4000000 in
set_option maxRecDepth 100000 in
/-- Reader.readNameAndArea -/
theorem c_Rd_readNameAndArea (l : Launch) (G : Gx) (lo : Nat) (V : Vw) (sz : Nat) (rd tp : Nat) (f : Nat → Int32) (t : Nat → Nat) (n p : Nat) (pa x1 x2 x3 : Nat) (i0 i1 i2 i3 i4 i5 i6 i7 i8 : Int32) (hn : [rd, tp, pa].Nodup) (hT : tpOk f t n) (h4 : n ≤ 400) (hp : p ≤ n) : Met l y_Rd_readNameAndArea ws_Rd_readNameAndArea ({ frames := 2, cells := 0, slots := 0, locals := 60 } : Room) (vPre G lo [.ref rd, .ref pa] (vU V [(rd, eO 3 [.ref tp, .int (nI n), .int (nI p)]), (tp, eI (gB G) 400 f), (pa, eO 1 [.int i0, .int i1, .int i2, .int i3, .int i4, .int i5, .int i6, .ref x1, .ref x2, .ref x3, .int i7, .int i8, .long ((0 : Int64)), .int 0, .int ((-1))])]) sz) (vPost G lo (fun r V' k => r = some (.int (rB (namR t n p))) ∧ (∃ (y1 : Int64) (y2 y3 : Int32), V' = vU V [(rd, eO 3 [.ref tp, .int (nI n), .int (nI (sR (namR t n p)))]), (tp, eI (gB G) 400 f), (pa, eO 1 [.int i0, .int i1, .int i2, .int i3, .int i4, .int i5, .int i6, .ref x1, .ref x2, .ref x3, .int i7, .int i8, .long y1, .int y2, .int y3])] ∧ ∀ z, namR t n p = .inr z → y1 = lN (encN (nmL z.1)) ∧ y2 = nI (nmL z.1).length ∧ y3 = nmA z.1) ∧ k = sz)) 0 0 (vL lo) := by
  refine vMet (R := RRd) (by decide) rfl (Nat.le_of_ble_eq_true rfl) ?_
  intro pg ev s mi args below meth cd hx hb hr hml hlk hnm hts hown hK hz hV ls hl
  have hl : lv_has ls 3 [(0, .ref rd), (1, .ref pa)] := hl
  have hV0 := hV
  obtain ⟨H, hH⟩ : ∃ H, H = s.heap := ⟨_, rfl⟩
  obtain ⟨locs, hlocs⟩ : ∃ locs : List Loc, locs = [] := ⟨_, rfl⟩
  rw [← hH, ← hlocs]
  rw [← hH] at hz
  replace hV : vS G.1 cls lo s H locs (vU V [(rd, eO 3 [.ref tp, .int (nI n), .int (nI p)]), (tp, eI (gB G) 400 f), (pa, eO 1 [.int i0, .int i1, .int i2, .int i3, .int i4, .int i5, .int i6, .ref x1, .ref x2, .ref x3, .int i7, .int i8, .long ((0 : Int64)), .int 0, .int ((-1))])]) := by rw [hH, hlocs]; exact hV
  clear hH hlocs hV0
  refine lv_aload_n hx hb d_Rd_readNameAndArea_0 rfl (lv_at hl 0 rfl) ?_
  refine v_call (va_runV (As := []) (rest := []) ⟨hx, hb, hml, hown, hts⟩ (c_Rd_peek l G lo _ _ rd tp f t n p (nd_sub hn [0, 1] (by decide) rfl) hT h4 (by omega)) (kwV 0 hts w_co_Rd_peek rfl rfl w_it_Rd w_ml_Rd_22 w_im_Rd_peek w_se_Rd__Rd_peek (by decide +kernel) ⟨by decide, by decide⟩) (u_preV hK hV hn [0, 1] rfl hz 0 rfl rfl) rfl rfl hl.1 rfl (lv_room (Nat.le_of_ble_eq_true rfl)) d_Rd_readNameAndArea_1 ⟨(Nat.le_of_ble_eq_true rfl), (Nat.le_of_ble_eq_true rfl)⟩) hV (fun r9 V9 H locs hp hV hle => ?_)
  obtain ⟨rfl, rfl, hz⟩ := hp
  replace hV := u_back hV hn [0, 1] rfl
  have hV : vS G.1 cls lo s H locs (vU V [(rd, eO 3 [.ref tp, .int (nI n), .int (nI (sk t n p))]), (tp, eI (gB G) 400 f), (pa, eO 1 [.int i0, .int i1, .int i2, .int i3, .int i4, .int i5, .int i6, .ref x1, .ref x2, .ref x3, .int i7, .int i8, .long ((0 : Int64)), .int 0, .int ((-1))])]) := hV
  obtain ⟨q_1, hq_1⟩ : ∃ z, sk t n p = z := ⟨_, rfl⟩
  rw [hq_1] at hV
  have bq_1 : q_1 ≤ n := by rw [← hq_1]; exact sk_le (by omega)
  have gq_1 : p ≤ q_1 := by rw [← hq_1]; exact sk_ge t n p
  rcases Nat.lt_or_ge q_1 n with lq_1 | lq_1
  · have kq_1 : t q_1 < 256 := (hT q_1 lq_1).1
    have hV : vS G.1 cls lo s H locs (vU V [(rd, eO 3 [.ref tp, .int (nI n), .int (nI q_1)]), (tp, eI (gB G) 400 f), (pa, eO 1 [.int i0, .int i1, .int i2, .int i3, .int i4, .int i5, .int i6, .ref x1, .ref x2, .ref x3, .int i7, .int i8, .long ((0 : Int64)), .int 0, .int ((-1))])]) := hV
    refine W.eq (g2 := F0 mi 4 ls [.int (nI (t q_1))]) (by rw [hq_1, rK_in lq_1]; rfl) ?_
    refine lv_bipush (v := 34) hx hb d_Rd_readNameAndArea_4 (by decide) ?_
    refine lv_icmp_eq (tgt := 11) hx hb d_Rd_readNameAndArea_6 (by decide) (fun c_2 => ?_) (fun c_2 => ?_)
    · replace c_2 : t q_1 = 34 := (nI_eq (a := t q_1) (b := 34) (by omega) (by omega)).mp c_2
      refine lv_aload_n hx hb d_Rd_readNameAndArea_11 rfl (lv_at hl 0 rfl) ?_
      refine lv_dup hx hb d_Rd_readNameAndArea_12 rfl ?_
      refine u_get hx hb hts inRd hown hK hV hn 0 rfl rfl 2 (by decide) w_fl_Rd_19 rfl rfl d_Rd_readNameAndArea_13 ?_
      refine lv_iconst (v := 1) hx hb d_Rd_readNameAndArea_16 (by decide) ?_
      refine e_iadd (v := nI (q_1 + 1)) hx hb d_Rd_readNameAndArea_17 (nI_add q_1 1) ?_
      refine u_put hx hb hts inRd tyRd tyRd_ok nmRd hown hK hV hn 0 rfl rfl 2 (by decide) w_fl_Rd_19 rfl rfl rfl rfl (Nat.le_of_ble_eq_true rfl) d_Rd_readNameAndArea_18 (fun H locs hV hz9 => ?_)
      have hV : vS G.1 cls lo s H locs (vU V [(rd, eO 3 [.ref tp, .int (nI n), .int (nI (q_1 + 1))]), (tp, eI (gB G) 400 f), (pa, eO 1 [.int i0, .int i1, .int i2, .int i3, .int i4, .int i5, .int i6, .ref x1, .ref x2, .ref x3, .int i7, .int i8, .long ((0 : Int64)), .int 0, .int ((-1))])]) := hV
      replace hz := hz9.trans hz
      refine lv_iconst (v := 0) hx hb d_Rd_readNameAndArea_21 (by decide) ?_
      refine lv_istore_n (lv' := [(2, .int 0), (0, .ref rd), (1, .ref pa)]) hx hb d_Rd_readNameAndArea_22 rfl hl (by decide) rfl (fun ls hl => ?_)
      have hN0 : namR t n p = namX t n (letR t n 8 [] (q_1 + 1)) := by simp [namR, hq_1, lq_1, c_2]
      have fin : ∀ (ls0 : List Nat) (r : Nat), (r ≤ n) → (letR t n 8 [] (q_1 + 1) = (ls0, r)) → (ls0.length ≤ 8) → (∀ c ∈ ls0, c < 128) → ∀ (H : Heap) (locs : List Loc) (ls : Array Slot), H.size = sz → vS G.1 cls lo s H locs (vU V [(rd, eO 3 [.ref tp, .int (nI n), .int (nI r)]), (tp, eI (gB G) 400 f), (pa, eO 1 [.int i0, .int i1, .int i2, .int i3, .int i4, .int i5, .int i6, .ref x1, .ref x2, .ref x3, .int i7, .int i8, .long (lN (encN ls0)), .int (nI ls0.length), .int ((-1))])]) → lv_has ls 3 [(0, .ref rd), (1, .ref pa), (2, .int (nI ls0.length))] → W pg l ev ({ frames := 2, cells := 0, slots := 0, locals := 60 } : Room) s mi args below meth cd H locs 0 0 (MQ below (vPost G lo (fun r V' k => r = some (.int (rB (namR t n p))) ∧ (∃ (y1 : Int64) (y2 y3 : Int32), V' = vU V [(rd, eO 3 [.ref tp, .int (nI n), .int (nI (sR (namR t n p)))]), (tp, eI (gB G) 400 f), (pa, eO 1 [.int i0, .int i1, .int i2, .int i3, .int i4, .int i5, .int i6, .ref x1, .ref x2, .ref x3, .int i7, .int i8, .long y1, .int y2, .int y3])] ∧ ∀ z, namR t n p = .inr z → y1 = lN (encN (nmL z.1)) ∧ y2 = nI (nmL z.1).length ∧ y3 = nmA z.1) ∧ k = sz)) args s 0 0 (vL lo)) (F0 mi 65 ls []) := by
        intro ls0 r  hrn hX hl8 hc8 H locs ls hz hV hl
        have hN : namR t n p = namX t n (ls0, r) := by rw [hN0, hX]
        refine lv_aload_n hx hb d_Rd_readNameAndArea_65 rfl (lv_at hl 1 rfl) ?_
        refine u_get hx hb hts inPc hown hK hV hn 2 rfl rfl 13 (by decide) w_fl_Rd_137 rfl rfl d_Rd_readNameAndArea_66 ?_
        refine lv_if_eq (tgt := 97) hx hb d_Rd_readNameAndArea_69 (by decide) (fun c_3 => ?_) (fun c_3 => ?_)
        · replace c_3 : ls0.length = 0 := (nI_eq (a := ls0.length) (b := 0) (by omega) (by omega)).mp c_3
          have hb9 : ls0 = [] ∨ ¬ (r < n ∧ t r = 34) := Or.inl (List.length_eq_zero_iff.mp c_3)
          refine lv_iconst (v := 0) hx hb d_Rd_readNameAndArea_97 (by decide) ?_
          have hE : namR t n p = .inl r := by rw [hN]; unfold namX; exact if_pos hb9
          exact W.zret (v := 0) hx hb hr (by decide) (v_end hV ⟨by rw [hE]; rfl, ⟨lN (encN ls0), nI ls0.length, (-1), by rw [hE]; rfl, fun z hz9 => by rw [hE] at hz9; cases hz9⟩, hz⟩) hV.2.1.2.2 d_Rd_readNameAndArea_98
        · replace c_3 : ¬ ls0.length = 0 := fun z9 => c_3 ((nI_eq (a := ls0.length) (b := 0) (by omega) (by omega)).mpr z9)
          have c_ne : ¬ ls0.length = 0 := c_3
          refine lv_aload_n hx hb d_Rd_readNameAndArea_72 rfl (lv_at hl 0 rfl) ?_
          refine u_get hx hb hts inRd hown hK hV hn 0 rfl rfl 2 (by decide) w_fl_Rd_19 rfl rfl d_Rd_readNameAndArea_73 ?_
          refine lv_aload_n hx hb d_Rd_readNameAndArea_76 rfl (lv_at hl 0 rfl) ?_
          refine u_get hx hb hts inRd hown hK hV hn 0 rfl rfl 1 (by decide) w_fl_Rd_15 rfl rfl d_Rd_readNameAndArea_77 ?_
          refine lv_icmp_ge (tgt := 97) hx hb d_Rd_readNameAndArea_80 (by decide) (fun c_4 => ?_) (fun c_4 => ?_)
          · replace c_4 : n ≤ r := (nI_leI (a := n) (b := r) (by omega) (by omega)).mp c_4
            refine lv_iconst (v := 0) hx hb d_Rd_readNameAndArea_97 (by decide) ?_
            have hb9 : ls0 = [] ∨ ¬ (r < n ∧ t r = 34) := Or.inr (by omega)
            have hE : namR t n p = .inl r := by rw [hN]; unfold namX; exact if_pos hb9
            exact W.zret (v := 0) hx hb hr (by decide) (v_end hV ⟨by rw [hE]; rfl, ⟨lN (encN ls0), nI ls0.length, (-1), by rw [hE]; rfl, fun z hz9 => by rw [hE] at hz9; cases hz9⟩, hz⟩) hV.2.1.2.2 d_Rd_readNameAndArea_98
          · replace c_4 : ¬ n ≤ r := fun z9 => c_4 ((nI_leI (a := n) (b := r) (by omega) (by omega)).mpr z9)
            refine lv_aload_n hx hb d_Rd_readNameAndArea_83 rfl (lv_at hl 0 rfl) ?_
            refine u_get hx hb hts inRd hown hK hV hn 0 rfl rfl 0 (by decide) w_fl_Rd_9 rfl rfl d_Rd_readNameAndArea_84 ?_
            refine lv_aload_n hx hb d_Rd_readNameAndArea_87 rfl (lv_at hl 0 rfl) ?_
            refine u_get hx hb hts inRd hown hK hV hn 0 rfl rfl 2 (by decide) w_fl_Rd_19 rfl rfl d_Rd_readNameAndArea_88 ?_
            refine u_baldN hx hb hK hV hn 1 rfl (by omega) (by decide) d_Rd_readNameAndArea_91 ?_
            refine lv_bipush (v := 34) hx hb d_Rd_readNameAndArea_92 (by decide) ?_
            refine lv_icmp_eq (tgt := 99) hx hb d_Rd_readNameAndArea_94 (by decide) (fun c_5 => ?_) (fun c_5 => ?_)
            · replace c_5 : t r = 34 := (hT.eq (k := 34) (by omega) (by decide)).mp c_5
              have hg9 : ¬ (ls0 = [] ∨ ¬ (r < n ∧ t r = 34)) := by rintro (z | z); rw [z] at c_ne; exact c_ne rfl; exact z ⟨by omega, c_5⟩
              refine lv_aload_n hx hb d_Rd_readNameAndArea_99 rfl (lv_at hl 0 rfl) ?_
              refine lv_dup hx hb d_Rd_readNameAndArea_100 rfl ?_
              refine u_get hx hb hts inRd hown hK hV hn 0 rfl rfl 2 (by decide) w_fl_Rd_19 rfl rfl d_Rd_readNameAndArea_101 ?_
              refine lv_iconst (v := 1) hx hb d_Rd_readNameAndArea_104 (by decide) ?_
              refine e_iadd (v := nI (r + 1)) hx hb d_Rd_readNameAndArea_105 (nI_add r 1) ?_
              refine u_put hx hb hts inRd tyRd tyRd_ok nmRd hown hK hV hn 0 rfl rfl 2 (by decide) w_fl_Rd_19 rfl rfl rfl rfl (Nat.le_of_ble_eq_true rfl) d_Rd_readNameAndArea_106 (fun H locs hV hz9 => ?_)
              have hV : vS G.1 cls lo s H locs (vU V [(rd, eO 3 [.ref tp, .int (nI n), .int (nI (r + 1))]), (tp, eI (gB G) 400 f), (pa, eO 1 [.int i0, .int i1, .int i2, .int i3, .int i4, .int i5, .int i6, .ref x1, .ref x2, .ref x3, .int i7, .int i8, .long (lN (encN ls0)), .int (nI ls0.length), .int ((-1))])]) := hV
              replace hz := hz9.trans hz
              refine lv_aload_n hx hb d_Rd_readNameAndArea_109 rfl (lv_at hl 0 rfl) ?_
              refine lv_bipush (v := 35) hx hb d_Rd_readNameAndArea_110 (by decide) ?_
              refine v_call (va_runV (As := [.int 35]) (rest := []) ⟨hx, hb, hml, hown, hts⟩ (c_Rd_take l G lo _ _ rd tp f t n (r + 1) (nd_sub hn [0, 1] (by decide) rfl) hT h4 (by omega) 35 (by decide)) (kwV 1 hts w_co_Rd_take rfl rfl w_it_Rd w_ml_Rd_30 w_im_Rd_take w_se_Rd__Rd_take (by decide +kernel) ⟨by decide, by decide⟩) (u_preV hK hV hn [0, 1] rfl hz 0 rfl rfl) rfl rfl hl.1 rfl (lv_room (Nat.le_of_ble_eq_true rfl)) d_Rd_readNameAndArea_112 ⟨(Nat.le_of_ble_eq_true rfl), (Nat.le_of_ble_eq_true rfl)⟩) hV (fun r9 V9 H locs hp hV hle => ?_)
              obtain ⟨rfl, rfl, hz⟩ := hp
              replace hV := u_back hV hn [0, 1] rfl
              have hV : vS G.1 cls lo s H locs (vU V [(rd, eO 3 [.ref tp, .int (nI n), .int (nI (rQ (tk t n 35 (r + 1))))]), (tp, eI (gB G) 400 f), (pa, eO 1 [.int i0, .int i1, .int i2, .int i3, .int i4, .int i5, .int i6, .ref x1, .ref x2, .ref x3, .int i7, .int i8, .long (lN (encN ls0)), .int (nI ls0.length), .int ((-1))])]) := hV
              obtain ⟨x_6, hx_6⟩ : ∃ z, tk t n 35 (r + 1) = z := ⟨_, rfl⟩
              rw [hx_6] at hV
              rcases x_6 with e_6 | q_6
              · have be_6 : e_6 ≤ n := tk_er hx_6 (by omega)
                have hV : vS G.1 cls lo s H locs (vU V [(rd, eO 3 [.ref tp, .int (nI n), .int (nI e_6)]), (tp, eI (gB G) 400 f), (pa, eO 1 [.int i0, .int i1, .int i2, .int i3, .int i4, .int i5, .int i6, .ref x1, .ref x2, .ref x3, .int i7, .int i8, .long (lN (encN ls0)), .int (nI ls0.length), .int ((-1))])]) := hV
                refine W.eq (g2 := F0 mi 115 ls [.int 0]) (by rw [hx_6]; rfl) ?_
                refine lv_if_ne (tgt := 120) hx hb d_Rd_readNameAndArea_115 (by decide) (fun c_7 => absurd c_7 (by decide)) (fun _ => ?_)
                refine lv_iconst (v := 0) hx hb d_Rd_readNameAndArea_118 (by decide) ?_
                have hE : namR t n p = .inl e_6 := by rw [hN]; unfold namX; rw [if_neg hg9]; simp only [sbd_l, sbd_r, hx_6]
                exact W.zret (v := 0) hx hb hr (by decide) (v_end hV ⟨by rw [hE]; rfl, ⟨lN (encN ls0), nI ls0.length, (-1), by rw [hE]; rfl, fun z hz9 => by rw [hE] at hz9; cases hz9⟩, hz⟩) hV.2.1.2.2 d_Rd_readNameAndArea_119
              · obtain ⟨gq_6, bq_6⟩ := tk_ok hx_6
                have hV : vS G.1 cls lo s H locs (vU V [(rd, eO 3 [.ref tp, .int (nI n), .int (nI q_6)]), (tp, eI (gB G) 400 f), (pa, eO 1 [.int i0, .int i1, .int i2, .int i3, .int i4, .int i5, .int i6, .ref x1, .ref x2, .ref x3, .int i7, .int i8, .long (lN (encN ls0)), .int (nI ls0.length), .int ((-1))])]) := hV
                refine W.eq (g2 := F0 mi 115 ls [.int 1]) (by rw [hx_6]; rfl) ?_
                refine lv_if_ne (tgt := 120) hx hb d_Rd_readNameAndArea_115 (by decide) (fun _ => ?_) (fun c_8 => absurd c_8 (by decide))
                refine lv_aload_n hx hb d_Rd_readNameAndArea_120 rfl (lv_at hl 1 rfl) ?_
                refine lv_aload_n hx hb d_Rd_readNameAndArea_121 rfl (lv_at hl 0 rfl) ?_
                refine lv_iconst (v := 0) hx hb d_Rd_readNameAndArea_122 (by decide) ?_
                refine lv_bipush (v := 9) hx hb d_Rd_readNameAndArea_123 (by decide) ?_
                refine v_call (va_runV (As := [.int 0, .int 9]) (rest := [.ref pa]) ⟨hx, hb, hml, hown, hts⟩ (c_Rd_readNumber l G lo _ _ rd tp f t n q_6 (nd_sub hn [0, 1] (by decide) rfl) hT h4 (by omega) 0 9 (by omega) (by omega)) (kwV 2 hts w_co_Rd_readNumber rfl rfl w_it_Rd w_ml_Rd_61 w_im_Rd_readNumber w_se_Rd__Rd_readNumber (by decide +kernel) ⟨by decide, by decide⟩) (u_preV hK hV hn [0, 1] rfl hz 0 rfl rfl) rfl rfl hl.1 rfl (lv_room (Nat.le_of_ble_eq_true rfl)) d_Rd_readNameAndArea_125 ⟨(Nat.le_of_ble_eq_true rfl), (Nat.le_of_ble_eq_true rfl)⟩) hV (fun r9 V9 H locs hp hV hle => ?_)
                obtain ⟨rfl, rfl, hz⟩ := hp
                replace hV := u_back hV hn [0, 1] rfl
                have hV : vS G.1 cls lo s H locs (vU V [(rd, eO 3 [.ref tp, .int (nI n), .int (nI (rP (num t n 0 9 q_6)))]), (tp, eI (gB G) 400 f), (pa, eO 1 [.int i0, .int i1, .int i2, .int i3, .int i4, .int i5, .int i6, .ref x1, .ref x2, .ref x3, .int i7, .int i8, .long (lN (encN ls0)), .int (nI ls0.length), .int ((-1))])]) := hV
                obtain ⟨x_9, hx_9⟩ : ∃ z, num t n 0 9 q_6 = z := ⟨_, rfl⟩
                rw [hx_9] at hV
                rcases x_9 with e_9 | ⟨v_9, q_9⟩
                · have be_9 : e_9 ≤ n := num_er hx_9 (by omega)
                  have hV : vS G.1 cls lo s H locs (vU V [(rd, eO 3 [.ref tp, .int (nI n), .int (nI e_9)]), (tp, eI (gB G) 400 f), (pa, eO 1 [.int i0, .int i1, .int i2, .int i3, .int i4, .int i5, .int i6, .ref x1, .ref x2, .ref x3, .int i7, .int i8, .long (lN (encN ls0)), .int (nI ls0.length), .int ((-1))])]) := hV
                  refine W.eq (g2 := F0 mi 128 ls [.int ((-1)), .ref pa]) (by rw [hx_9]; rfl) ?_
                  refine u_put hx hb hts inPc tyPc tyPc_ok nmPc hown hK hV hn 2 rfl rfl 14 (by decide) w_fl_Rd_140 rfl rfl rfl rfl (Nat.le_of_ble_eq_true rfl) d_Rd_readNameAndArea_128 (fun H locs hV hz9 => ?_)
                  have hV : vS G.1 cls lo s H locs (vU V [(rd, eO 3 [.ref tp, .int (nI n), .int (nI e_9)]), (tp, eI (gB G) 400 f), (pa, eO 1 [.int i0, .int i1, .int i2, .int i3, .int i4, .int i5, .int i6, .ref x1, .ref x2, .ref x3, .int i7, .int i8, .long (lN (encN ls0)), .int (nI ls0.length), .int ((-1))])]) := hV
                  replace hz := hz9.trans hz
                  refine lv_aload_n hx hb d_Rd_readNameAndArea_131 rfl (lv_at hl 1 rfl) ?_
                  refine u_get hx hb hts inPc hown hK hV hn 2 rfl rfl 14 (by decide) w_fl_Rd_140 rfl rfl d_Rd_readNameAndArea_132 ?_
                  refine lv_iconst (v := (-1)) hx hb d_Rd_readNameAndArea_135 (by decide) ?_
                  refine lv_icmp_eq (tgt := 143) hx hb d_Rd_readNameAndArea_136 (by decide) (fun _ => ?_) (fun c_10 => absurd c_10 (by decide))
                  refine lv_iconst (v := 0) hx hb d_Rd_readNameAndArea_143 (by decide) ?_
                  have hE : namR t n p = .inl e_9 := by rw [hN]; unfold namX; rw [if_neg hg9]; simp only [sbd_l, sbd_r, hx_6, hx_9]
                  exact W.zret (v := 0) hx hb hr (by decide) (v_end hV ⟨by rw [hE]; rfl, ⟨lN (encN ls0), nI ls0.length, (-1), by rw [hE]; rfl, fun z hz9 => by rw [hE] at hz9; cases hz9⟩, hz⟩) hV.2.1.2.2 d_Rd_readNameAndArea_144
                · obtain ⟨lv_9, uv_9, gq_9, bq_9⟩ := num_ok hx_9 (by omega)
                  have hV : vS G.1 cls lo s H locs (vU V [(rd, eO 3 [.ref tp, .int (nI n), .int (nI q_9)]), (tp, eI (gB G) 400 f), (pa, eO 1 [.int i0, .int i1, .int i2, .int i3, .int i4, .int i5, .int i6, .ref x1, .ref x2, .ref x3, .int i7, .int i8, .long (lN (encN ls0)), .int (nI ls0.length), .int ((-1))])]) := hV
                  refine W.eq (g2 := F0 mi 128 ls [.int (nI v_9), .ref pa]) (by rw [hx_9]; rfl) ?_
                  refine u_put hx hb hts inPc tyPc tyPc_ok nmPc hown hK hV hn 2 rfl rfl 14 (by decide) w_fl_Rd_140 rfl rfl rfl rfl (Nat.le_of_ble_eq_true rfl) d_Rd_readNameAndArea_128 (fun H locs hV hz9 => ?_)
                  have hV : vS G.1 cls lo s H locs (vU V [(rd, eO 3 [.ref tp, .int (nI n), .int (nI q_9)]), (tp, eI (gB G) 400 f), (pa, eO 1 [.int i0, .int i1, .int i2, .int i3, .int i4, .int i5, .int i6, .ref x1, .ref x2, .ref x3, .int i7, .int i8, .long (lN (encN ls0)), .int (nI ls0.length), .int (nI v_9)])]) := hV
                  replace hz := hz9.trans hz
                  refine lv_aload_n hx hb d_Rd_readNameAndArea_131 rfl (lv_at hl 1 rfl) ?_
                  refine u_get hx hb hts inPc hown hK hV hn 2 rfl rfl 14 (by decide) w_fl_Rd_140 rfl rfl d_Rd_readNameAndArea_132 ?_
                  refine lv_iconst (v := (-1)) hx hb d_Rd_readNameAndArea_135 (by decide) ?_
                  refine lv_icmp_eq (tgt := 143) hx hb d_Rd_readNameAndArea_136 (by decide) (fun c_11 => absurd c_11 (nI_nem (by omega))) (fun _ => ?_)
                  refine lv_iconst (v := 1) hx hb d_Rd_readNameAndArea_139 (by decide) ?_
                  refine lv_goto (tgt := 144) hx hb d_Rd_readNameAndArea_140 (by decide) ?_
                  have hE : namR t n p = .inr (some (ls0, v_9), q_9) := by rw [hN]; unfold namX; rw [if_neg hg9]; simp only [sbd_l, sbd_r, hx_6, hx_9]
                  exact W.zret (v := 1) hx hb hr (by decide) (v_end hV ⟨by rw [hE]; rfl, ⟨lN (encN ls0), nI ls0.length, nI v_9, by rw [hE]; rfl, fun z hz9 => by rw [hE] at hz9; cases hz9; exact ⟨rfl, rfl, rfl⟩⟩, hz⟩) hV.2.1.2.2 d_Rd_readNameAndArea_144
            · have hb9 : ls0 = [] ∨ ¬ (r < n ∧ t r = 34) := Or.inr (fun z => c_5 ((hT.eq (k := 34) (by omega) (by decide)).mpr z.2))
              refine lv_iconst (v := 0) hx hb d_Rd_readNameAndArea_97 (by decide) ?_
              have hE : namR t n p = .inl r := by rw [hN]; unfold namX; exact if_pos hb9
              exact W.zret (v := 0) hx hb hr (by decide) (v_end hV ⟨by rw [hE]; rfl, ⟨lN (encN ls0), nI ls0.length, (-1), by rw [hE]; rfl, fun z hz9 => by rw [hE] at hz9; cases hz9⟩, hz⟩) hV.2.1.2.2 d_Rd_readNameAndArea_98
      have loop : ∀ (k : Nat) (ls0 : List Nat) (r : Nat), 8 - ls0.length < k → (ls0.length ≤ 8) → (r ≤ n) → (∀ c ∈ ls0, c < 128) → (letR t n (8 - ls0.length) ls0 r = letR t n 8 [] (q_1 + 1)) → ∀ (H : Heap) (locs : List Loc) (ls : Array Slot), H.size = sz → vS G.1 cls lo s H locs (vU V [(rd, eO 3 [.ref tp, .int (nI n), .int (nI r)]), (tp, eI (gB G) 400 f), (pa, eO 1 [.int i0, .int i1, .int i2, .int i3, .int i4, .int i5, .int i6, .ref x1, .ref x2, .ref x3, .int i7, .int i8, .long (lN (encN ls0)), .int (nI ls0.length), .int ((-1))])]) → lv_has ls 3 [(0, .ref rd), (1, .ref pa), (2, .int (nI ls0.length))] → W pg l ev ({ frames := 2, cells := 0, slots := 0, locals := 60 } : Room) s mi args below meth cd H locs 0 0 (MQ below (vPost G lo (fun r V' k => r = some (.int (rB (namR t n p))) ∧ (∃ (y1 : Int64) (y2 y3 : Int32), V' = vU V [(rd, eO 3 [.ref tp, .int (nI n), .int (nI (sR (namR t n p)))]), (tp, eI (gB G) 400 f), (pa, eO 1 [.int i0, .int i1, .int i2, .int i3, .int i4, .int i5, .int i6, .ref x1, .ref x2, .ref x3, .int i7, .int i8, .long y1, .int y2, .int y3])] ∧ ∀ z, namR t n p = .inr z → y1 = lN (encN (nmL z.1)) ∧ y2 = nI (nmL z.1).length ∧ y3 = nmA z.1) ∧ k = sz)) args s 0 0 (vL lo)) (F0 mi 23 ls []) := by
        intro k
        induction k with
        | zero => intro ls0 r hk; exact absurd hk (by omega)
        | succ k ih =>
          intro ls0 r hk hl8 hrn hc8 hX H locs ls hz hV hl
          refine lv_iload_n hx hb d_Rd_readNameAndArea_23 rfl (lv_at hl 2 rfl) ?_
          refine lv_bipush (v := 8) hx hb d_Rd_readNameAndArea_24 (by decide) ?_
          refine lv_icmp_ge (tgt := 65) hx hb d_Rd_readNameAndArea_26 (by decide) (fun c_12 => ?_) (fun c_12 => ?_)
          · replace c_12 : 8 ≤ ls0.length := (nI_leI (a := 8) (b := ls0.length) (by omega) (by omega)).mp c_12
            exact fin ls0 r hrn (by rw [← hX]; exact let_end (Or.inl (by omega))) hl8 hc8 H locs ls hz hV (lv_sub hl [0, 1, 2] rfl)
          · replace c_12 : ¬ 8 ≤ ls0.length := fun z9 => c_12 ((nI_leI (a := 8) (b := ls0.length) (by omega) (by omega)).mpr z9)
            refine lv_aload_n hx hb d_Rd_readNameAndArea_29 rfl (lv_at hl 0 rfl) ?_
            refine v_call (va_runV (As := []) (rest := []) ⟨hx, hb, hml, hown, hts⟩ (c_Rd_isLetterHere l G lo _ _ rd tp f t n r (nd_sub hn [0, 1] (by decide) rfl) hT h4 (by omega)) (kwV 0 hts w_co_Rd_isLetterHere rfl rfl w_it_Rd w_ml_Rd_129 w_im_Rd_isLetterHere w_se_Rd__Rd_isLetterHere (by decide +kernel) ⟨by decide, by decide⟩) (u_preV hK hV hn [0, 1] rfl hz 0 rfl rfl) rfl rfl hl.1 rfl (lv_room (Nat.le_of_ble_eq_true rfl)) d_Rd_readNameAndArea_30 ⟨(Nat.le_of_ble_eq_true rfl), (Nat.le_of_ble_eq_true rfl)⟩) hV (fun r9 V9 H locs hp hV hle => ?_)
            obtain ⟨rfl, rfl, hz⟩ := hp
            replace hV := uu_same hV hn [0, 1] rfl
            rcases tf (isL t n r) with d_13 | d_13
            · have hV : vS G.1 cls lo s H locs (vU V [(rd, eO 3 [.ref tp, .int (nI n), .int (nI r)]), (tp, eI (gB G) 400 f), (pa, eO 1 [.int i0, .int i1, .int i2, .int i3, .int i4, .int i5, .int i6, .ref x1, .ref x2, .ref x3, .int i7, .int i8, .long (lN (encN ls0)), .int (nI ls0.length), .int ((-1))])]) := hV
              refine W.eq (g2 := F0 mi 33 ls [.int 1]) (by rw [d_13]; rfl) ?_
              refine lv_if_eq (tgt := 65) hx hb d_Rd_readNameAndArea_33 (by decide) (fun c_14 => absurd c_14 (by decide)) (fun _ => ?_)
              refine lv_aload_n hx hb d_Rd_readNameAndArea_36 rfl (lv_at hl 1 rfl) ?_
              refine lv_aload_n hx hb d_Rd_readNameAndArea_37 rfl (lv_at hl 0 rfl) ?_
              refine u_get hx hb hts inRd hown hK hV hn 0 rfl rfl 0 (by decide) w_fl_Rd_9 rfl rfl d_Rd_readNameAndArea_38 ?_
              refine lv_aload_n hx hb d_Rd_readNameAndArea_41 rfl (lv_at hl 0 rfl) ?_
              refine u_get hx hb hts inRd hown hK hV hn 0 rfl rfl 2 (by decide) w_fl_Rd_19 rfl rfl d_Rd_readNameAndArea_42 ?_
              obtain ⟨j1, j2, j3⟩ := isL_spec d_13
              refine u_baldN hx hb hK hV hn 1 rfl (by omega) (by decide) d_Rd_readNameAndArea_45 ?_
              rw [hT.val j1 (by omega)]
              refine v_call (va_runV (As := [.int (nI (t r))]) (rest := []) ⟨hx, hb, hml, hown, hts⟩ (c_Pc_addLetter l G lo _ _ pa x1 x2 x3 i0 i1 i2 i3 i4 i5 i6 i7 i8 ((-1)) ls0 (t r) (by omega) (by omega) hc8) (kwV 1 hts w_co_Pc_addLetter rfl rfl w_it_Pc w_ml_Rd_133 w_im_Pc_addLetter w_se_Pc__Pc_addLetter (by decide +kernel) ⟨by decide, by decide⟩) (u_preV hK hV hn [2] rfl hz 2 rfl rfl) rfl rfl hl.1 rfl (lv_room (Nat.le_of_ble_eq_true rfl)) d_Rd_readNameAndArea_46 ⟨(Nat.le_of_ble_eq_true rfl), (Nat.le_of_ble_eq_true rfl)⟩) hV (fun r9 V9 H locs hp hV hle => ?_)
              obtain ⟨rfl, rfl, hz⟩ := hp
              replace hV := u_back hV hn [2] rfl
              have hV : vS G.1 cls lo s H locs (vU V [(rd, eO 3 [.ref tp, .int (nI n), .int (nI r)]), (tp, eI (gB G) 400 f), (pa, eO 1 [.int i0, .int i1, .int i2, .int i3, .int i4, .int i5, .int i6, .ref x1, .ref x2, .ref x3, .int i7, .int i8, .long (lN (encN (ls0 ++ [t r]))), .int (nI ((ls0 ++ [t r]).length)), .int ((-1))])]) := hV
              refine lv_aload_n hx hb d_Rd_readNameAndArea_49 rfl (lv_at hl 0 rfl) ?_
              refine lv_dup hx hb d_Rd_readNameAndArea_50 rfl ?_
              refine u_get hx hb hts inRd hown hK hV hn 0 rfl rfl 2 (by decide) w_fl_Rd_19 rfl rfl d_Rd_readNameAndArea_51 ?_
              refine lv_iconst (v := 1) hx hb d_Rd_readNameAndArea_54 (by decide) ?_
              refine e_iadd (v := nI (r + 1)) hx hb d_Rd_readNameAndArea_55 (nI_add r 1) ?_
              refine u_put hx hb hts inRd tyRd tyRd_ok nmRd hown hK hV hn 0 rfl rfl 2 (by decide) w_fl_Rd_19 rfl rfl rfl rfl (Nat.le_of_ble_eq_true rfl) d_Rd_readNameAndArea_56 (fun H locs hV hz9 => ?_)
              have hV : vS G.1 cls lo s H locs (vU V [(rd, eO 3 [.ref tp, .int (nI n), .int (nI (r + 1))]), (tp, eI (gB G) 400 f), (pa, eO 1 [.int i0, .int i1, .int i2, .int i3, .int i4, .int i5, .int i6, .ref x1, .ref x2, .ref x3, .int i7, .int i8, .long (lN (encN (ls0 ++ [t r]))), .int (nI ((ls0 ++ [t r]).length)), .int ((-1))])]) := hV
              replace hz := hz9.trans hz
              refine lv_iinc (v := nI (ls0.length + 1)) (lv' := [(2, .int (nI (ls0.length + 1))), (0, .ref rd), (1, .ref pa)]) hx hb d_Rd_readNameAndArea_59 hl (k := 2) rfl (nI_add ls0.length 1) (by decide) rfl (fun ls hl => ?_)
              refine lv_goto (tgt := 23) hx hb d_Rd_readNameAndArea_62 (by decide) ?_
              have hl : lv_has ls 3 [(2, .int (nI (ls0 ++ [t r]).length)), (0, .ref rd), (1, .ref pa)] := by rw [List.length_append]; exact hl
              exact ih (ls0 ++ [t r]) (r + 1) (by simp; omega) (by simp; omega) (by omega) (by intro c hc; rcases List.mem_append.mp hc with z | z; exact hc8 c z; simp at z; omega) (by rw [← hX]; exact (let_go (by omega) d_13).symm) H locs ls hz hV (lv_sub hl [1, 2, 0] rfl)
            · have hV : vS G.1 cls lo s H locs (vU V [(rd, eO 3 [.ref tp, .int (nI n), .int (nI r)]), (tp, eI (gB G) 400 f), (pa, eO 1 [.int i0, .int i1, .int i2, .int i3, .int i4, .int i5, .int i6, .ref x1, .ref x2, .ref x3, .int i7, .int i8, .long (lN (encN ls0)), .int (nI ls0.length), .int ((-1))])]) := hV
              refine W.eq (g2 := F0 mi 33 ls [.int 0]) (by rw [d_13]; rfl) ?_
              refine lv_if_eq (tgt := 65) hx hb d_Rd_readNameAndArea_33 (by decide) (fun _ => ?_) (fun c_15 => absurd c_15 (by decide))
              exact fin ls0 r hrn (by rw [← hX]; exact let_end (Or.inr d_13)) hl8 hc8 H locs ls hz hV (lv_sub hl [0, 1, 2] rfl)
      exact loop 9 [] (q_1 + 1) (by decide) (by decide) (by omega) (fun c hc => absurd hc (by simp)) rfl H locs ls hz hV (lv_sub hl [1, 2, 0] rfl)
    · replace c_2 : ¬ t q_1 = 34 := fun z9 => c_2 ((nI_eq (a := t q_1) (b := 34) (by omega) (by omega)).mpr z9)
      refine lv_iconst (v := 1) hx hb d_Rd_readNameAndArea_9 (by decide) ?_
      have hE : namR t n p = .inr (none, q_1) := by simp [namR, sbd_l, sbd_r, hq_1, lq_1, c_2]
      exact W.zret (v := 1) hx hb hr (by decide) (v_end hV ⟨by rw [hE]; rfl, ⟨(0 : Int64), 0, (-1), by rw [hE]; rfl, fun z hz9 => by rw [hE] at hz9; cases hz9; exact ⟨rfl, rfl, rfl⟩⟩, hz⟩) hV.2.1.2.2 d_Rd_readNameAndArea_10
  · have hV : vS G.1 cls lo s H locs (vU V [(rd, eO 3 [.ref tp, .int (nI n), .int (nI q_1)]), (tp, eI (gB G) 400 f), (pa, eO 1 [.int i0, .int i1, .int i2, .int i3, .int i4, .int i5, .int i6, .ref x1, .ref x2, .ref x3, .int i7, .int i8, .long ((0 : Int64)), .int 0, .int ((-1))])]) := hV
    refine W.eq (g2 := F0 mi 4 ls [.int ((-1))]) (by rw [hq_1, rK_out (by omega)]; rfl) ?_
    refine lv_bipush (v := 34) hx hb d_Rd_readNameAndArea_4 (by decide) ?_
    refine lv_icmp_eq (tgt := 11) hx hb d_Rd_readNameAndArea_6 (by decide) (fun c_16 => absurd c_16 (by decide)) (fun _ => ?_)
    refine lv_iconst (v := 1) hx hb d_Rd_readNameAndArea_9 (by decide) ?_
    have hE : namR t n p = .inr (none, q_1) := by simp [namR, sbd_l, sbd_r, hq_1, Nat.not_lt.mpr lq_1]
    exact W.zret (v := 1) hx hb hr (by decide) (v_end hV ⟨by rw [hE]; rfl, ⟨(0 : Int64), 0, (-1), by rw [hE]; rfl, fun z hz9 => by rw [hE] at hz9; cases hz9; exact ⟨rfl, rfl, rfl⟩⟩, hz⟩) hV.2.1.2.2 d_Rd_readNameAndArea_10
