theorem d_SG_place_0 : decode b_SG_place 0 = .ok (.aload_n 0, 1) := by decide +kernel
theorem d_SG_place_1 : decode b_SG_place 1 = .ok (.getfield 40, 3) := by decide +kernel
theorem d_SG_place_4 : decode b_SG_place 4 = .ok (.ireturn, 1) := by decide +kernel
theorem d_SG_clear_0 : decode b_SG_clear 0 = .ok (.aload_n 0, 1) := by decide +kernel
theorem d_SG_clear_1 : decode b_SG_clear 1 = .ok (.getfield 33, 3) := by decide +kernel
theorem d_SG_clear_4 : decode b_SG_clear 4 = .ok (.getfield 80, 3) := by decide +kernel
theorem d_SG_clear_7 : decode b_SG_clear 7 = .ok (.getfield 151, 3) := by decide +kernel
theorem d_SG_clear_10 : decode b_SG_clear 10 = .ok (.istore_n 1, 1) := by decide +kernel
theorem d_SG_clear_11 : decode b_SG_clear 11 = .ok (.aload_n 0, 1) := by decide +kernel
theorem d_SG_clear_12 : decode b_SG_clear 12 = .ok (.getfield 33, 3) := by decide +kernel
theorem d_SG_clear_15 : decode b_SG_clear 15 = .ok (.getfield 80, 3) := by decide +kernel
theorem d_SG_clear_18 : decode b_SG_clear 18 = .ok (.iconst 0, 1) := by decide +kernel
theorem d_SG_clear_19 : decode b_SG_clear 19 = .ok (.putfield 151, 3) := by decide +kernel
theorem d_SG_clear_22 : decode b_SG_clear 22 = .ok (.iload_n 1, 1) := by decide +kernel
theorem d_SG_clear_23 : decode b_SG_clear 23 = .ok (.ireturn, 1) := by decide +kernel
theorem d_SG_check_0 : decode b_SG_check 0 = .ok (.aload_n 0, 1) := by decide +kernel
theorem d_SG_check_1 : decode b_SG_check 1 = .ok (.getfield 19, 3) := by decide +kernel
theorem d_SG_check_4 : decode b_SG_check 4 = .ok (.aload_n 0, 1) := by decide +kernel
theorem d_SG_check_5 : decode b_SG_check 5 = .ok (.getfield 33, 3) := by decide +kernel
theorem d_SG_check_8 : decode b_SG_check 8 = .ok (.invokevirtual 174, 3) := by decide +kernel
theorem d_SG_check_11 : decode b_SG_check 11 = .ok (.aload_n 0, 1) := by decide +kernel
theorem d_SG_check_12 : decode b_SG_check 12 = .ok (.getfield 19, 3) := by decide +kernel
theorem d_SG_check_15 : decode b_SG_check 15 = .ok (.getfield 177, 3) := by decide +kernel
theorem d_SG_check_18 : decode b_SG_check 18 = .ok (.ireturn, 1) := by decide +kernel
theorem d_SG_print_0 : decode b_SG_print 0 = .ok (.aload_n 0, 1) := by decide +kernel
theorem d_SG_print_1 : decode b_SG_print 1 = .ok (.getfield 26, 3) := by decide +kernel
theorem d_SG_print_4 : decode b_SG_print 4 = .ok (.aload_n 0, 1) := by decide +kernel
theorem d_SG_print_5 : decode b_SG_print 5 = .ok (.getfield 33, 3) := by decide +kernel
theorem d_SG_print_8 : decode b_SG_print 8 = .ok (.invokevirtual 186, 3) := by decide +kernel
theorem d_SG_print_11 : decode b_SG_print 11 = .ok (.aload_n 0, 1) := by decide +kernel
theorem d_SG_print_12 : decode b_SG_print 12 = .ok (.getfield 26, 3) := by decide +kernel
theorem d_SG_print_15 : decode b_SG_print 15 = .ok (.getfield 189, 3) := by decide +kernel
theorem d_SG_print_18 : decode b_SG_print 18 = .ok (.ireturn, 1) := by decide +kernel
theorem d_SG_sign_0 : decode b_SG_sign 0 = .ok (.iload_n 3, 1) := by decide +kernel
theorem d_SG_sign_1 : decode b_SG_sign 1 = .ok (.iconst 1, 1) := by decide +kernel
theorem d_SG_sign_2 : decode b_SG_sign 2 = .ok (.if_icmp .lt 9, 3) := by decide +kernel
theorem d_SG_sign_5 : decode b_SG_sign 5 = .ok (.iload_n 3, 1) := by decide +kernel
theorem d_SG_sign_6 : decode b_SG_sign 6 = .ok (.bipush 8, 2) := by decide +kernel
theorem d_SG_sign_8 : decode b_SG_sign 8 = .ok (.if_icmp .le 13, 3) := by decide +kernel
theorem d_SG_sign_11 : decode b_SG_sign 11 = .ok (.new 44, 3) := by decide +kernel
theorem d_SG_sign_14 : decode b_SG_sign 14 = .ok (.dup, 1) := by decide +kernel
theorem d_SG_sign_15 : decode b_SG_sign 15 = .ok (.ldc 46, 2) := by decide +kernel
theorem d_SG_sign_17 : decode b_SG_sign 17 = .ok (.invokespecial 48, 3) := by decide +kernel
theorem d_SG_sign_20 : decode b_SG_sign 20 = .ok (.athrow, 1) := by decide +kernel
theorem d_SG_sign_21 : decode b_SG_sign 21 = .ok (.iload_n 3, 1) := by decide +kernel
theorem d_SG_sign_22 : decode b_SG_sign 22 = .ok (.aload_n 0, 1) := by decide +kernel
theorem d_SG_sign_23 : decode b_SG_sign 23 = .ok (.getfield 10, 3) := by decide +kernel
theorem d_SG_sign_26 : decode b_SG_sign 26 = .ok (.invokevirtual 51, 3) := by decide +kernel
theorem d_SG_sign_29 : decode b_SG_sign 29 = .ok (.if_icmp .le 13, 3) := by decide +kernel
theorem d_SG_sign_32 : decode b_SG_sign 32 = .ok (.new 55, 3) := by decide +kernel
theorem d_SG_sign_35 : decode b_SG_sign 35 = .ok (.dup, 1) := by decide +kernel
theorem d_SG_sign_36 : decode b_SG_sign 36 = .ok (.ldc 57, 2) := by decide +kernel
theorem d_SG_sign_38 : decode b_SG_sign 38 = .ok (.invokespecial 59, 3) := by decide +kernel
theorem d_SG_sign_41 : decode b_SG_sign 41 = .ok (.athrow, 1) := by decide +kernel
theorem d_SG_sign_42 : decode b_SG_sign 42 = .ok (.iload_n 3, 1) := by decide +kernel
theorem d_SG_sign_43 : decode b_SG_sign 43 = .ok (.iconst 1, 1) := by decide +kernel
theorem d_SG_sign_44 : decode b_SG_sign 44 = .ok (.isub, 1) := by decide +kernel
theorem d_SG_sign_45 : decode b_SG_sign 45 = .ok (.istore 4, 2) := by decide +kernel
theorem d_SG_sign_47 : decode b_SG_sign 47 = .ok (.iload 4, 2) := by decide +kernel
theorem d_SG_sign_49 : decode b_SG_sign 49 = .ok (.ifCond .lt 25, 3) := by decide +kernel
theorem d_SG_sign_52 : decode b_SG_sign 52 = .ok (.aload_n 0, 1) := by decide +kernel
theorem d_SG_sign_53 : decode b_SG_sign 53 = .ok (.getfield 10, 3) := by decide +kernel
theorem d_SG_sign_56 : decode b_SG_sign 56 = .ok (.lload_n 1, 1) := by decide +kernel
theorem d_SG_sign_57 : decode b_SG_sign 57 = .ok (.bipush 8, 2) := by decide +kernel
theorem d_SG_sign_59 : decode b_SG_sign 59 = .ok (.iload 4, 2) := by decide +kernel
theorem d_SG_sign_61 : decode b_SG_sign 61 = .ok (.imul, 1) := by decide +kernel
theorem d_SG_sign_62 : decode b_SG_sign 62 = .ok (.lshr, 1) := by decide +kernel
theorem d_SG_sign_63 : decode b_SG_sign 63 = .ok (.l2i, 1) := by decide +kernel
theorem d_SG_sign_64 : decode b_SG_sign 64 = .ok (.i2b, 1) := by decide +kernel
theorem d_SG_sign_65 : decode b_SG_sign 65 = .ok (.invokevirtual 60, 3) := by decide +kernel
theorem d_SG_sign_68 : decode b_SG_sign 68 = .ok (.iinc 4 (-1), 3) := by decide +kernel
theorem d_SG_sign_71 : decode b_SG_sign 71 = .ok (.goto (-24), 3) := by decide +kernel
theorem d_SG_sign_74 : decode b_SG_sign 74 = .ok (.aload_n 0, 1) := by decide +kernel
theorem d_SG_sign_75 : decode b_SG_sign 75 = .ok (.getfield 10, 3) := by decide +kernel
theorem d_SG_sign_78 : decode b_SG_sign 78 = .ok (.getfield 64, 3) := by decide +kernel
theorem d_SG_sign_81 : decode b_SG_sign 81 = .ok (.ireturn, 1) := by decide +kernel
theorem d_SG_read_0 : decode b_SG_read 0 = .ok (.aload_n 0, 1) := by decide +kernel
theorem d_SG_read_1 : decode b_SG_read 1 = .ok (.getfield 37, 3) := by decide +kernel
theorem d_SG_read_4 : decode b_SG_read 4 = .ok (.aload_n 0, 1) := by decide +kernel
theorem d_SG_read_5 : decode b_SG_read 5 = .ok (.getfield 33, 3) := by decide +kernel
theorem d_SG_read_8 : decode b_SG_read 8 = .ok (.invokevirtual 67, 3) := by decide +kernel
theorem d_SG_read_11 : decode b_SG_read 11 = .ok (.aload_n 0, 1) := by decide +kernel
theorem d_SG_read_12 : decode b_SG_read 12 = .ok (.aload_n 0, 1) := by decide +kernel
theorem d_SG_read_13 : decode b_SG_read 13 = .ok (.getfield 10, 3) := by decide +kernel
theorem d_SG_read_16 : decode b_SG_read 16 = .ok (.aload_n 0, 1) := by decide +kernel
theorem d_SG_read_17 : decode b_SG_read 17 = .ok (.getfield 37, 3) := by decide +kernel
theorem d_SG_read_20 : decode b_SG_read 20 = .ok (.invokevirtual 71, 3) := by decide +kernel
theorem d_SG_read_23 : decode b_SG_read 23 = .ok (.putfield 40, 3) := by decide +kernel
theorem d_SG_read_26 : decode b_SG_read 26 = .ok (.aload_n 0, 1) := by decide +kernel
theorem d_SG_read_27 : decode b_SG_read 27 = .ok (.getfield 40, 3) := by decide +kernel
theorem d_SG_read_30 : decode b_SG_read 30 = .ok (.iconst (-1), 1) := by decide +kernel
theorem d_SG_read_31 : decode b_SG_read 31 = .ok (.if_icmp .eq 13, 3) := by decide +kernel
theorem d_SG_read_34 : decode b_SG_read 34 = .ok (.new 75, 3) := by decide +kernel
theorem d_SG_read_37 : decode b_SG_read 37 = .ok (.dup, 1) := by decide +kernel
theorem d_SG_read_38 : decode b_SG_read 38 = .ok (.ldc 77, 2) := by decide +kernel
theorem d_SG_read_40 : decode b_SG_read 40 = .ok (.invokespecial 79, 3) := by decide +kernel
theorem d_SG_read_43 : decode b_SG_read 43 = .ok (.athrow, 1) := by decide +kernel
theorem d_SG_read_44 : decode b_SG_read 44 = .ok (.aload_n 0, 1) := by decide +kernel
theorem d_SG_read_45 : decode b_SG_read 45 = .ok (.getfield 37, 3) := by decide +kernel
theorem d_SG_read_48 : decode b_SG_read 48 = .ok (.getfield 80, 3) := by decide +kernel
theorem d_SG_read_51 : decode b_SG_read 51 = .ok (.getfield 84, 3) := by decide +kernel
theorem d_SG_read_54 : decode b_SG_read 54 = .ok (.ifCond .eq 13, 3) := by decide +kernel
theorem d_SG_read_57 : decode b_SG_read 57 = .ok (.new 55, 3) := by decide +kernel
theorem d_SG_read_60 : decode b_SG_read 60 = .ok (.dup, 1) := by decide +kernel
theorem d_SG_read_61 : decode b_SG_read 61 = .ok (.ldc 90, 2) := by decide +kernel
theorem d_SG_read_63 : decode b_SG_read 63 = .ok (.invokespecial 59, 3) := by decide +kernel
theorem d_SG_read_66 : decode b_SG_read 66 = .ok (.athrow, 1) := by decide +kernel
theorem d_SG_read_67 : decode b_SG_read 67 = .ok (.aload_n 0, 1) := by decide +kernel
theorem d_SG_read_68 : decode b_SG_read 68 = .ok (.getfield 33, 3) := by decide +kernel
theorem d_SG_read_71 : decode b_SG_read 71 = .ok (.astore_n 1, 1) := by decide +kernel
theorem d_SG_read_72 : decode b_SG_read 72 = .ok (.aload_n 0, 1) := by decide +kernel
theorem d_SG_read_73 : decode b_SG_read 73 = .ok (.aload_n 0, 1) := by decide +kernel
theorem d_SG_read_74 : decode b_SG_read 74 = .ok (.getfield 37, 3) := by decide +kernel
theorem d_SG_read_77 : decode b_SG_read 77 = .ok (.putfield 33, 3) := by decide +kernel
theorem d_SG_read_80 : decode b_SG_read 80 = .ok (.aload_n 0, 1) := by decide +kernel
theorem d_SG_read_81 : decode b_SG_read 81 = .ok (.aload_n 1, 1) := by decide +kernel
theorem d_SG_read_82 : decode b_SG_read 82 = .ok (.putfield 37, 3) := by decide +kernel
theorem d_SG_read_85 : decode b_SG_read 85 = .ok (.aload_n 0, 1) := by decide +kernel
theorem d_SG_read_86 : decode b_SG_read 86 = .ok (.getfield 33, 3) := by decide +kernel
theorem d_SG_read_89 : decode b_SG_read 89 = .ok (.invokevirtual 92, 3) := by decide +kernel
theorem d_SG_read_92 : decode b_SG_read 92 = .ok (.ireturn, 1) := by decide +kernel
theorem d_SG_piece_0 : decode b_SG_piece 0 = .ok (.aload_n 0, 1) := by decide +kernel
theorem d_SG_piece_1 : decode b_SG_piece 1 = .ok (.getfield 33, 3) := by decide +kernel
theorem d_SG_piece_4 : decode b_SG_piece 4 = .ok (.iload_n 1, 1) := by decide +kernel
theorem d_SG_piece_5 : decode b_SG_piece 5 = .ok (.invokevirtual 95, 3) := by decide +kernel
theorem d_SG_piece_8 : decode b_SG_piece 8 = .ok (.astore_n 3, 1) := by decide +kernel
theorem d_SG_piece_9 : decode b_SG_piece 9 = .ok (.aload_n 3, 1) := by decide +kernel
theorem d_SG_piece_10 : decode b_SG_piece 10 = .ok (.ifnonnull 13, 3) := by decide +kernel
theorem d_SG_piece_13 : decode b_SG_piece 13 = .ok (.new 99, 3) := by decide +kernel
theorem d_SG_piece_16 : decode b_SG_piece 16 = .ok (.dup, 1) := by decide +kernel
theorem d_SG_piece_17 : decode b_SG_piece 17 = .ok (.ldc 101, 2) := by decide +kernel
theorem d_SG_piece_19 : decode b_SG_piece 19 = .ok (.invokespecial 103, 3) := by decide +kernel
theorem d_SG_piece_22 : decode b_SG_piece 22 = .ok (.athrow, 1) := by decide +kernel
theorem d_SG_piece_23 : decode b_SG_piece 23 = .ok (.iload_n 2, 1) := by decide +kernel
theorem d_SG_piece_24 : decode b_SG_piece 24 = .ok (.tableswitch 96 0 7 #[48, 53, 58, 63, 68, 81, 86, 91], 48) := by decide +kernel
theorem d_SG_piece_72 : decode b_SG_piece 72 = .ok (.aload_n 3, 1) := by decide +kernel
theorem d_SG_piece_73 : decode b_SG_piece 73 = .ok (.getfield 104, 3) := by decide +kernel
theorem d_SG_piece_76 : decode b_SG_piece 76 = .ok (.ireturn, 1) := by decide +kernel
theorem d_SG_piece_77 : decode b_SG_piece 77 = .ok (.aload_n 3, 1) := by decide +kernel
theorem d_SG_piece_78 : decode b_SG_piece 78 = .ok (.getfield 109, 3) := by decide +kernel
theorem d_SG_piece_81 : decode b_SG_piece 81 = .ok (.ireturn, 1) := by decide +kernel
theorem d_SG_piece_82 : decode b_SG_piece 82 = .ok (.aload_n 3, 1) := by decide +kernel
theorem d_SG_piece_83 : decode b_SG_piece 83 = .ok (.getfield 112, 3) := by decide +kernel
theorem d_SG_piece_86 : decode b_SG_piece 86 = .ok (.ireturn, 1) := by decide +kernel
theorem d_SG_piece_87 : decode b_SG_piece 87 = .ok (.aload_n 3, 1) := by decide +kernel
theorem d_SG_piece_88 : decode b_SG_piece 88 = .ok (.getfield 113, 3) := by decide +kernel
theorem d_SG_piece_91 : decode b_SG_piece 91 = .ok (.ireturn, 1) := by decide +kernel
theorem d_SG_piece_92 : decode b_SG_piece 92 = .ok (.aload_n 3, 1) := by decide +kernel
theorem d_SG_piece_93 : decode b_SG_piece 93 = .ok (.getfield 116, 3) := by decide +kernel
theorem d_SG_piece_96 : decode b_SG_piece 96 = .ok (.ifCond .eq 7, 3) := by decide +kernel
theorem d_SG_piece_99 : decode b_SG_piece 99 = .ok (.iconst 1, 1) := by decide +kernel
theorem d_SG_piece_100 : decode b_SG_piece 100 = .ok (.goto 4, 3) := by decide +kernel
theorem d_SG_piece_103 : decode b_SG_piece 103 = .ok (.iconst 0, 1) := by decide +kernel
theorem d_SG_piece_104 : decode b_SG_piece 104 = .ok (.ireturn, 1) := by decide +kernel
theorem d_SG_piece_105 : decode b_SG_piece 105 = .ok (.aload_n 3, 1) := by decide +kernel
theorem d_SG_piece_106 : decode b_SG_piece 106 = .ok (.getfield 119, 3) := by decide +kernel
theorem d_SG_piece_109 : decode b_SG_piece 109 = .ok (.ireturn, 1) := by decide +kernel
theorem d_SG_piece_110 : decode b_SG_piece 110 = .ok (.aload_n 3, 1) := by decide +kernel
theorem d_SG_piece_111 : decode b_SG_piece 111 = .ok (.getfield 122, 3) := by decide +kernel
theorem d_SG_piece_114 : decode b_SG_piece 114 = .ok (.ireturn, 1) := by decide +kernel
theorem d_SG_piece_115 : decode b_SG_piece 115 = .ok (.aload_n 3, 1) := by decide +kernel
theorem d_SG_piece_116 : decode b_SG_piece 116 = .ok (.getfield 125, 3) := by decide +kernel
theorem d_SG_piece_119 : decode b_SG_piece 119 = .ok (.ireturn, 1) := by decide +kernel
theorem d_SG_piece_120 : decode b_SG_piece 120 = .ok (.new 44, 3) := by decide +kernel
theorem d_SG_piece_123 : decode b_SG_piece 123 = .ok (.dup, 1) := by decide +kernel
theorem d_SG_piece_124 : decode b_SG_piece 124 = .ok (.ldc 128, 2) := by decide +kernel
theorem d_SG_piece_126 : decode b_SG_piece 126 = .ok (.invokespecial 48, 3) := by decide +kernel
theorem d_SG_piece_129 : decode b_SG_piece 129 = .ok (.athrow, 1) := by decide +kernel
theorem d_SG_speed_0 : decode b_SG_speed 0 = .ok (.aload_n 0, 1) := by decide +kernel
theorem d_SG_speed_1 : decode b_SG_speed 1 = .ok (.getfield 33, 3) := by decide +kernel
theorem d_SG_speed_4 : decode b_SG_speed 4 = .ok (.iload_n 1, 1) := by decide +kernel
theorem d_SG_speed_5 : decode b_SG_speed 5 = .ok (.invokevirtual 95, 3) := by decide +kernel
theorem d_SG_speed_8 : decode b_SG_speed 8 = .ok (.astore_n 3, 1) := by decide +kernel
theorem d_SG_speed_9 : decode b_SG_speed 9 = .ok (.aload_n 3, 1) := by decide +kernel
theorem d_SG_speed_10 : decode b_SG_speed 10 = .ok (.ifnonnull 13, 3) := by decide +kernel
theorem d_SG_speed_13 : decode b_SG_speed 13 = .ok (.new 99, 3) := by decide +kernel
theorem d_SG_speed_16 : decode b_SG_speed 16 = .ok (.dup, 1) := by decide +kernel
theorem d_SG_speed_17 : decode b_SG_speed 17 = .ok (.ldc 101, 2) := by decide +kernel
theorem d_SG_speed_19 : decode b_SG_speed 19 = .ok (.invokespecial 103, 3) := by decide +kernel
theorem d_SG_speed_22 : decode b_SG_speed 22 = .ok (.athrow, 1) := by decide +kernel
theorem d_SG_speed_23 : decode b_SG_speed 23 = .ok (.iload_n 2, 1) := by decide +kernel
theorem d_SG_speed_24 : decode b_SG_speed 24 = .ok (.ifCond .lt 9, 3) := by decide +kernel
theorem d_SG_speed_27 : decode b_SG_speed 27 = .ok (.iload_n 2, 1) := by decide +kernel
theorem d_SG_speed_28 : decode b_SG_speed 28 = .ok (.bipush 24, 2) := by decide +kernel
theorem d_SG_speed_30 : decode b_SG_speed 30 = .ok (.if_icmp .lt 13, 3) := by decide +kernel
theorem d_SG_speed_33 : decode b_SG_speed 33 = .ok (.new 44, 3) := by decide +kernel
theorem d_SG_speed_36 : decode b_SG_speed 36 = .ok (.dup, 1) := by decide +kernel
theorem d_SG_speed_37 : decode b_SG_speed 37 = .ok (.ldc 130, 2) := by decide +kernel
theorem d_SG_speed_39 : decode b_SG_speed 39 = .ok (.invokespecial 48, 3) := by decide +kernel
theorem d_SG_speed_42 : decode b_SG_speed 42 = .ok (.athrow, 1) := by decide +kernel
theorem d_SG_speed_43 : decode b_SG_speed 43 = .ok (.aload_n 3, 1) := by decide +kernel
theorem d_SG_speed_44 : decode b_SG_speed 44 = .ok (.iload_n 2, 1) := by decide +kernel
theorem d_SG_speed_45 : decode b_SG_speed 45 = .ok (.invokevirtual 132, 3) := by decide +kernel
theorem d_SG_speed_48 : decode b_SG_speed 48 = .ok (.ireturn, 1) := by decide +kernel
theorem d_SG_name_0 : decode b_SG_name 0 = .ok (.aload_n 0, 1) := by decide +kernel
theorem d_SG_name_1 : decode b_SG_name 1 = .ok (.getfield 33, 3) := by decide +kernel
theorem d_SG_name_4 : decode b_SG_name 4 = .ok (.iload_n 1, 1) := by decide +kernel
theorem d_SG_name_5 : decode b_SG_name 5 = .ok (.invokevirtual 95, 3) := by decide +kernel
theorem d_SG_name_8 : decode b_SG_name 8 = .ok (.astore_n 3, 1) := by decide +kernel
theorem d_SG_name_9 : decode b_SG_name 9 = .ok (.aload_n 3, 1) := by decide +kernel
theorem d_SG_name_10 : decode b_SG_name 10 = .ok (.ifnonnull 13, 3) := by decide +kernel
theorem d_SG_name_13 : decode b_SG_name 13 = .ok (.new 99, 3) := by decide +kernel
theorem d_SG_name_16 : decode b_SG_name 16 = .ok (.dup, 1) := by decide +kernel
theorem d_SG_name_17 : decode b_SG_name 17 = .ok (.ldc 101, 2) := by decide +kernel
theorem d_SG_name_19 : decode b_SG_name 19 = .ok (.invokespecial 103, 3) := by decide +kernel
theorem d_SG_name_22 : decode b_SG_name 22 = .ok (.athrow, 1) := by decide +kernel
theorem d_SG_name_23 : decode b_SG_name 23 = .ok (.iload_n 2, 1) := by decide +kernel
theorem d_SG_name_24 : decode b_SG_name 24 = .ok (.ifCond .ge 13, 3) := by decide +kernel
theorem d_SG_name_27 : decode b_SG_name 27 = .ok (.new 44, 3) := by decide +kernel
theorem d_SG_name_30 : decode b_SG_name 30 = .ok (.dup, 1) := by decide +kernel
theorem d_SG_name_31 : decode b_SG_name 31 = .ok (.ldc 136, 2) := by decide +kernel
theorem d_SG_name_33 : decode b_SG_name 33 = .ok (.invokespecial 48, 3) := by decide +kernel
theorem d_SG_name_36 : decode b_SG_name 36 = .ok (.athrow, 1) := by decide +kernel
theorem d_SG_name_37 : decode b_SG_name 37 = .ok (.aload_n 3, 1) := by decide +kernel
theorem d_SG_name_38 : decode b_SG_name 38 = .ok (.iload_n 2, 1) := by decide +kernel
theorem d_SG_name_39 : decode b_SG_name 39 = .ok (.invokevirtual 138, 3) := by decide +kernel
theorem d_SG_name_42 : decode b_SG_name 42 = .ok (.ireturn, 1) := by decide +kernel
theorem d_SG_barred_0 : decode b_SG_barred 0 = .ok (.iload_n 1, 1) := by decide +kernel
theorem d_SG_barred_1 : decode b_SG_barred 1 = .ok (.invokestatic 141, 3) := by decide +kernel
theorem d_SG_barred_4 : decode b_SG_barred 4 = .ok (.ifCond .eq 17, 3) := by decide +kernel
theorem d_SG_barred_7 : decode b_SG_barred 7 = .ok (.iload_n 2, 1) := by decide +kernel
theorem d_SG_barred_8 : decode b_SG_barred 8 = .ok (.invokestatic 141, 3) := by decide +kernel
theorem d_SG_barred_11 : decode b_SG_barred 11 = .ok (.ifCond .eq 10, 3) := by decide +kernel
theorem d_SG_barred_14 : decode b_SG_barred 14 = .ok (.iload_n 3, 1) := by decide +kernel
theorem d_SG_barred_15 : decode b_SG_barred 15 = .ok (.invokestatic 141, 3) := by decide +kernel
theorem d_SG_barred_18 : decode b_SG_barred 18 = .ok (.ifCond .ne 13, 3) := by decide +kernel
theorem d_SG_barred_21 : decode b_SG_barred 21 = .ok (.new 44, 3) := by decide +kernel
theorem d_SG_barred_24 : decode b_SG_barred 24 = .ok (.dup, 1) := by decide +kernel
theorem d_SG_barred_25 : decode b_SG_barred 25 = .ok (.ldc 145, 2) := by decide +kernel
theorem d_SG_barred_27 : decode b_SG_barred 27 = .ok (.invokespecial 48, 3) := by decide +kernel
theorem d_SG_barred_30 : decode b_SG_barred 30 = .ok (.athrow, 1) := by decide +kernel
theorem d_SG_barred_31 : decode b_SG_barred 31 = .ok (.aload_n 0, 1) := by decide +kernel
theorem d_SG_barred_32 : decode b_SG_barred 32 = .ok (.getfield 33, 3) := by decide +kernel
theorem d_SG_barred_35 : decode b_SG_barred 35 = .ok (.getfield 80, 3) := by decide +kernel
theorem d_SG_barred_38 : decode b_SG_barred 38 = .ok (.iload_n 1, 1) := by decide +kernel
theorem d_SG_barred_39 : decode b_SG_barred 39 = .ok (.iload_n 2, 1) := by decide +kernel
theorem d_SG_barred_40 : decode b_SG_barred 40 = .ok (.iload_n 3, 1) := by decide +kernel
theorem d_SG_barred_41 : decode b_SG_barred 41 = .ok (.invokevirtual 147, 3) := by decide +kernel
theorem d_SG_barred_44 : decode b_SG_barred 44 = .ok (.ireturn, 1) := by decide +kernel
theorem d_SG_isNode_0 : decode b_SG_isNode 0 = .ok (.iload_n 0, 1) := by decide +kernel
theorem d_SG_isNode_1 : decode b_SG_isNode 1 = .ok (.iconst 1, 1) := by decide +kernel
theorem d_SG_isNode_2 : decode b_SG_isNode 2 = .ok (.if_icmp .lt 13, 3) := by decide +kernel
theorem d_SG_isNode_5 : decode b_SG_isNode 5 = .ok (.iload_n 0, 1) := by decide +kernel
theorem d_SG_isNode_6 : decode b_SG_isNode 6 = .ok (.bipush 40, 2) := by decide +kernel
theorem d_SG_isNode_8 : decode b_SG_isNode 8 = .ok (.if_icmp .gt 7, 3) := by decide +kernel
theorem d_SG_isNode_11 : decode b_SG_isNode 11 = .ok (.iconst 1, 1) := by decide +kernel
theorem d_SG_isNode_12 : decode b_SG_isNode 12 = .ok (.goto 4, 3) := by decide +kernel
theorem d_SG_isNode_15 : decode b_SG_isNode 15 = .ok (.iconst 0, 1) := by decide +kernel
theorem d_SG_isNode_16 : decode b_SG_isNode 16 = .ok (.ireturn, 1) := by decide +kernel
theorem d_SG_spot_0 : decode b_SG_spot 0 = .ok (.iload_n 2, 1) := by decide +kernel
theorem d_SG_spot_1 : decode b_SG_spot 1 = .ok (.ifCond .eq 13, 3) := by decide +kernel
theorem d_SG_spot_4 : decode b_SG_spot 4 = .ok (.aload_n 0, 1) := by decide +kernel
theorem d_SG_spot_5 : decode b_SG_spot 5 = .ok (.getfield 33, 3) := by decide +kernel
theorem d_SG_spot_8 : decode b_SG_spot 8 = .ok (.getfield 154, 3) := by decide +kernel
theorem d_SG_spot_11 : decode b_SG_spot 11 = .ok (.goto 10, 3) := by decide +kernel
theorem d_SG_spot_14 : decode b_SG_spot 14 = .ok (.aload_n 0, 1) := by decide +kernel
theorem d_SG_spot_15 : decode b_SG_spot 15 = .ok (.getfield 33, 3) := by decide +kernel
theorem d_SG_spot_18 : decode b_SG_spot 18 = .ok (.getfield 158, 3) := by decide +kernel
theorem d_SG_spot_21 : decode b_SG_spot 21 = .ok (.astore_n 3, 1) := by decide +kernel
theorem d_SG_spot_22 : decode b_SG_spot 22 = .ok (.aload_n 3, 1) := by decide +kernel
theorem d_SG_spot_23 : decode b_SG_spot 23 = .ok (.iload_n 1, 1) := by decide +kernel
theorem d_SG_spot_24 : decode b_SG_spot 24 = .ok (.invokevirtual 161, 3) := by decide +kernel
theorem d_SG_spot_27 : decode b_SG_spot 27 = .ok (.ifCond .ne 13, 3) := by decide +kernel
theorem d_SG_spot_30 : decode b_SG_spot 30 = .ok (.new 99, 3) := by decide +kernel
theorem d_SG_spot_33 : decode b_SG_spot 33 = .ok (.dup, 1) := by decide +kernel
theorem d_SG_spot_34 : decode b_SG_spot 34 = .ok (.ldc 165, 2) := by decide +kernel
theorem d_SG_spot_36 : decode b_SG_spot 36 = .ok (.invokespecial 103, 3) := by decide +kernel
theorem d_SG_spot_39 : decode b_SG_spot 39 = .ok (.athrow, 1) := by decide +kernel
theorem d_SG_spot_40 : decode b_SG_spot 40 = .ok (.aload_n 3, 1) := by decide +kernel
theorem d_SG_spot_41 : decode b_SG_spot 41 = .ok (.getfield 167, 3) := by decide +kernel
theorem d_SG_spot_44 : decode b_SG_spot 44 = .ok (.iload_n 1, 1) := by decide +kernel
theorem d_SG_spot_45 : decode b_SG_spot 45 = .ok (.iaload, 1) := by decide +kernel
theorem d_SG_spot_46 : decode b_SG_spot 46 = .ok (.ireturn, 1) := by decide +kernel
theorem d_SG_along_0 : decode b_SG_along 0 = .ok (.iload_n 2, 1) := by decide +kernel
theorem d_SG_along_1 : decode b_SG_along 1 = .ok (.ifCond .eq 13, 3) := by decide +kernel
theorem d_SG_along_4 : decode b_SG_along 4 = .ok (.aload_n 0, 1) := by decide +kernel
theorem d_SG_along_5 : decode b_SG_along 5 = .ok (.getfield 33, 3) := by decide +kernel
theorem d_SG_along_8 : decode b_SG_along 8 = .ok (.getfield 154, 3) := by decide +kernel
theorem d_SG_along_11 : decode b_SG_along 11 = .ok (.goto 10, 3) := by decide +kernel
theorem d_SG_along_14 : decode b_SG_along 14 = .ok (.aload_n 0, 1) := by decide +kernel
theorem d_SG_along_15 : decode b_SG_along 15 = .ok (.getfield 33, 3) := by decide +kernel
theorem d_SG_along_18 : decode b_SG_along 18 = .ok (.getfield 158, 3) := by decide +kernel
theorem d_SG_along_21 : decode b_SG_along 21 = .ok (.astore_n 3, 1) := by decide +kernel
theorem d_SG_along_22 : decode b_SG_along 22 = .ok (.aload_n 3, 1) := by decide +kernel
theorem d_SG_along_23 : decode b_SG_along 23 = .ok (.iload_n 1, 1) := by decide +kernel
theorem d_SG_along_24 : decode b_SG_along 24 = .ok (.invokevirtual 161, 3) := by decide +kernel
theorem d_SG_along_27 : decode b_SG_along 27 = .ok (.ifCond .ne 13, 3) := by decide +kernel
theorem d_SG_along_30 : decode b_SG_along 30 = .ok (.new 99, 3) := by decide +kernel
theorem d_SG_along_33 : decode b_SG_along 33 = .ok (.dup, 1) := by decide +kernel
theorem d_SG_along_34 : decode b_SG_along 34 = .ok (.ldc 165, 2) := by decide +kernel
theorem d_SG_along_36 : decode b_SG_along 36 = .ok (.invokespecial 103, 3) := by decide +kernel
theorem d_SG_along_39 : decode b_SG_along 39 = .ok (.athrow, 1) := by decide +kernel
theorem d_SG_along_40 : decode b_SG_along 40 = .ok (.aload_n 3, 1) := by decide +kernel
theorem d_SG_along_41 : decode b_SG_along 41 = .ok (.getfield 171, 3) := by decide +kernel
theorem d_SG_along_44 : decode b_SG_along 44 = .ok (.iload_n 1, 1) := by decide +kernel
theorem d_SG_along_45 : decode b_SG_along 45 = .ok (.iaload, 1) := by decide +kernel
theorem d_SG_along_46 : decode b_SG_along 46 = .ok (.ireturn, 1) := by decide +kernel
theorem d_SG_fault_0 : decode b_SG_fault 0 = .ok (.iload_n 1, 1) := by decide +kernel
theorem d_SG_fault_1 : decode b_SG_fault 1 = .ok (.ifCond .lt 14, 3) := by decide +kernel
theorem d_SG_fault_4 : decode b_SG_fault 4 = .ok (.iload_n 1, 1) := by decide +kernel
theorem d_SG_fault_5 : decode b_SG_fault 5 = .ok (.aload_n 0, 1) := by decide +kernel
theorem d_SG_fault_6 : decode b_SG_fault 6 = .ok (.getfield 19, 3) := by decide +kernel
theorem d_SG_fault_9 : decode b_SG_fault 9 = .ok (.getfield 177, 3) := by decide +kernel
theorem d_SG_fault_12 : decode b_SG_fault 12 = .ok (.if_icmp .lt 13, 3) := by decide +kernel
theorem d_SG_fault_15 : decode b_SG_fault 15 = .ok (.new 99, 3) := by decide +kernel
theorem d_SG_fault_18 : decode b_SG_fault 18 = .ok (.dup, 1) := by decide +kernel
theorem d_SG_fault_19 : decode b_SG_fault 19 = .ok (.ldc 178, 2) := by decide +kernel
theorem d_SG_fault_21 : decode b_SG_fault 21 = .ok (.invokespecial 103, 3) := by decide +kernel
theorem d_SG_fault_24 : decode b_SG_fault 24 = .ok (.athrow, 1) := by decide +kernel
theorem d_SG_fault_25 : decode b_SG_fault 25 = .ok (.iload_n 2, 1) := by decide +kernel
theorem d_SG_fault_26 : decode b_SG_fault 26 = .ok (.ifCond .eq 18, 3) := by decide +kernel
theorem d_SG_fault_29 : decode b_SG_fault 29 = .ok (.iload_n 2, 1) := by decide +kernel
theorem d_SG_fault_30 : decode b_SG_fault 30 = .ok (.iconst 1, 1) := by decide +kernel
theorem d_SG_fault_31 : decode b_SG_fault 31 = .ok (.if_icmp .eq 13, 3) := by decide +kernel
theorem d_SG_fault_34 : decode b_SG_fault 34 = .ok (.new 44, 3) := by decide +kernel
theorem d_SG_fault_37 : decode b_SG_fault 37 = .ok (.dup, 1) := by decide +kernel
theorem d_SG_fault_38 : decode b_SG_fault 38 = .ok (.ldc 128, 2) := by decide +kernel
theorem d_SG_fault_40 : decode b_SG_fault 40 = .ok (.invokespecial 48, 3) := by decide +kernel
theorem d_SG_fault_43 : decode b_SG_fault 43 = .ok (.athrow, 1) := by decide +kernel
theorem d_SG_fault_44 : decode b_SG_fault 44 = .ok (.iload_n 2, 1) := by decide +kernel
theorem d_SG_fault_45 : decode b_SG_fault 45 = .ok (.ifCond .ne 15, 3) := by decide +kernel
theorem d_SG_fault_48 : decode b_SG_fault 48 = .ok (.aload_n 0, 1) := by decide +kernel
theorem d_SG_fault_49 : decode b_SG_fault 49 = .ok (.getfield 19, 3) := by decide +kernel
theorem d_SG_fault_52 : decode b_SG_fault 52 = .ok (.getfield 180, 3) := by decide +kernel
theorem d_SG_fault_55 : decode b_SG_fault 55 = .ok (.iload_n 1, 1) := by decide +kernel
theorem d_SG_fault_56 : decode b_SG_fault 56 = .ok (.iaload, 1) := by decide +kernel
theorem d_SG_fault_57 : decode b_SG_fault 57 = .ok (.goto 12, 3) := by decide +kernel
theorem d_SG_fault_60 : decode b_SG_fault 60 = .ok (.aload_n 0, 1) := by decide +kernel
theorem d_SG_fault_61 : decode b_SG_fault 61 = .ok (.getfield 19, 3) := by decide +kernel
theorem d_SG_fault_64 : decode b_SG_fault 64 = .ok (.getfield 183, 3) := by decide +kernel
theorem d_SG_fault_67 : decode b_SG_fault 67 = .ok (.iload_n 1, 1) := by decide +kernel
theorem d_SG_fault_68 : decode b_SG_fault 68 = .ok (.iaload, 1) := by decide +kernel
theorem d_SG_fault_69 : decode b_SG_fault 69 = .ok (.ireturn, 1) := by decide +kernel
theorem d_SG_at_0 : decode b_SG_at 0 = .ok (.iload_n 1, 1) := by decide +kernel
theorem d_SG_at_1 : decode b_SG_at 1 = .ok (.ifCond .ge 13, 3) := by decide +kernel
theorem d_SG_at_4 : decode b_SG_at 4 = .ok (.new 44, 3) := by decide +kernel
theorem d_SG_at_7 : decode b_SG_at 7 = .ok (.dup, 1) := by decide +kernel
theorem d_SG_at_8 : decode b_SG_at 8 = .ok (.ldc 136, 2) := by decide +kernel
theorem d_SG_at_10 : decode b_SG_at 10 = .ok (.invokespecial 48, 3) := by decide +kernel
theorem d_SG_at_13 : decode b_SG_at 13 = .ok (.athrow, 1) := by decide +kernel
theorem d_SG_at_14 : decode b_SG_at 14 = .ok (.iload_n 1, 1) := by decide +kernel
theorem d_SG_at_15 : decode b_SG_at 15 = .ok (.aload_n 0, 1) := by decide +kernel
theorem d_SG_at_16 : decode b_SG_at 16 = .ok (.getfield 26, 3) := by decide +kernel
theorem d_SG_at_19 : decode b_SG_at 19 = .ok (.getfield 189, 3) := by decide +kernel
theorem d_SG_at_22 : decode b_SG_at 22 = .ok (.if_icmp .ge 15, 3) := by decide +kernel
theorem d_SG_at_25 : decode b_SG_at 25 = .ok (.aload_n 0, 1) := by decide +kernel
theorem d_SG_at_26 : decode b_SG_at 26 = .ok (.getfield 26, 3) := by decide +kernel
theorem d_SG_at_29 : decode b_SG_at 29 = .ok (.getfield 190, 3) := by decide +kernel
theorem d_SG_at_32 : decode b_SG_at 32 = .ok (.iload_n 1, 1) := by decide +kernel
theorem d_SG_at_33 : decode b_SG_at 33 = .ok (.baload, 1) := by decide +kernel
theorem d_SG_at_34 : decode b_SG_at 34 = .ok (.goto 4, 3) := by decide +kernel
theorem d_SG_at_37 : decode b_SG_at 37 = .ok (.iconst (-1), 1) := by decide +kernel
theorem d_SG_at_38 : decode b_SG_at 38 = .ok (.ireturn, 1) := by decide +kernel
theorem d_SG_count_0 : decode b_SG_count 0 = .ok (.iload_n 1, 1) := by decide +kernel
theorem d_SG_count_1 : decode b_SG_count 1 = .ok (.tableswitch 87 0 4 #[35, 43, 54, 65, 76], 35) := by decide +kernel
theorem d_SG_count_36 : decode b_SG_count 36 = .ok (.aload_n 0, 1) := by decide +kernel
theorem d_SG_count_37 : decode b_SG_count 37 = .ok (.getfield 33, 3) := by decide +kernel
theorem d_SG_count_40 : decode b_SG_count 40 = .ok (.invokevirtual 92, 3) := by decide +kernel
theorem d_SG_count_43 : decode b_SG_count 43 = .ok (.ireturn, 1) := by decide +kernel
theorem d_SG_count_44 : decode b_SG_count 44 = .ok (.aload_n 0, 1) := by decide +kernel
theorem d_SG_count_45 : decode b_SG_count 45 = .ok (.getfield 33, 3) := by decide +kernel
theorem d_SG_count_48 : decode b_SG_count 48 = .ok (.getfield 158, 3) := by decide +kernel
theorem d_SG_count_51 : decode b_SG_count 51 = .ok (.invokevirtual 194, 3) := by decide +kernel
theorem d_SG_count_54 : decode b_SG_count 54 = .ok (.ireturn, 1) := by decide +kernel
theorem d_SG_count_55 : decode b_SG_count 55 = .ok (.aload_n 0, 1) := by decide +kernel
theorem d_SG_count_56 : decode b_SG_count 56 = .ok (.getfield 33, 3) := by decide +kernel
theorem d_SG_count_59 : decode b_SG_count 59 = .ok (.getfield 154, 3) := by decide +kernel
theorem d_SG_count_62 : decode b_SG_count 62 = .ok (.invokevirtual 194, 3) := by decide +kernel
theorem d_SG_count_65 : decode b_SG_count 65 = .ok (.ireturn, 1) := by decide +kernel
theorem d_SG_count_66 : decode b_SG_count 66 = .ok (.aload_n 0, 1) := by decide +kernel
theorem d_SG_count_67 : decode b_SG_count 67 = .ok (.getfield 33, 3) := by decide +kernel
theorem d_SG_count_70 : decode b_SG_count 70 = .ok (.getfield 80, 3) := by decide +kernel
theorem d_SG_count_73 : decode b_SG_count 73 = .ok (.getfield 151, 3) := by decide +kernel
theorem d_SG_count_76 : decode b_SG_count 76 = .ok (.ireturn, 1) := by decide +kernel
theorem d_SG_count_77 : decode b_SG_count 77 = .ok (.aload_n 0, 1) := by decide +kernel
theorem d_SG_count_78 : decode b_SG_count 78 = .ok (.getfield 33, 3) := by decide +kernel
theorem d_SG_count_81 : decode b_SG_count 81 = .ok (.invokevirtual 196, 3) := by decide +kernel
theorem d_SG_count_84 : decode b_SG_count 84 = .ok (.invokestatic 200, 3) := by decide +kernel
theorem d_SG_count_87 : decode b_SG_count 87 = .ok (.ireturn, 1) := by decide +kernel
theorem d_SG_count_88 : decode b_SG_count 88 = .ok (.new 44, 3) := by decide +kernel
theorem d_SG_count_91 : decode b_SG_count 91 = .ok (.dup, 1) := by decide +kernel
theorem d_SG_count_92 : decode b_SG_count 92 = .ok (.ldc 128, 2) := by decide +kernel
theorem d_SG_count_94 : decode b_SG_count 94 = .ok (.invokespecial 48, 3) := by decide +kernel
theorem d_SG_count_97 : decode b_SG_count 97 = .ok (.athrow, 1) := by decide +kernel

set_option maxHeartbeats 4000000 in
set_option maxRecDepth 100000 in
/-- place -/
theorem c_SG_place (l : Launch) (G : Gx) (lo : Nat) (V : Vw) (sz : Nat) (x rd ck pr tw dr : Nat) (wr : Int32) : Met l y_SG_place ws_SG_place ({ frames := 0, cells := 0, slots := 0, locals := 0 } : Room) (vPre G lo [.ref x] (vU V [(x, eO 7 [.ref rd, .ref ck, .ref pr, .ref tw, .ref dr, .int wr])]) sz) (vPost G lo (fun r V' k => r = some (.int wr) ∧ V' = vU V [(x, eO 7 [.ref rd, .ref ck, .ref pr, .ref tw, .ref dr, .int wr])] ∧ k = sz)) 0 0 (vL lo) := by
  refine vMet (R := RSG) (by decide) rfl (Nat.le_of_ble_eq_true rfl) ?_
  intro pg ev s mi args below meth cd hx hb hr hml hlk hnm hts hown hK hz hV ls hl
  have hl : lv_has ls 1 [(0, .ref x)] := hl
  have hV0 := hV
  obtain ⟨H, hH⟩ : ∃ H, H = s.heap := ⟨_, rfl⟩
  obtain ⟨locs, hlocs⟩ : ∃ locs : List Loc, locs = [] := ⟨_, rfl⟩
  rw [← hH, ← hlocs]
  rw [← hH] at hz
  replace hV : vS G.1 cls lo s H locs (vU V [(x, eO 7 [.ref rd, .ref ck, .ref pr, .ref tw, .ref dr, .int wr])]) := by rw [hH, hlocs]; exact hV
  clear hH hlocs hV0
  have hn : [x].Nodup := by simp
  refine lv_aload_n hx hb d_SG_place_0 rfl (lv_at hl 0 rfl) ?_
  refine u_get hx hb hts inSG hown hK hV hn 0 rfl rfl 5 (by decide) w_fl_SG_40 rfl rfl d_SG_place_1 ?_
  exact W.iret (v := wr) hx hb hr (v_end hV ⟨rfl, rfl, hz⟩) hV.2.1.2.2 d_SG_place_4

set_option maxHeartbeats 4000000 in
set_option maxRecDepth 100000 in
/-- isNode -/
theorem c_SG_isNode (l : Launch) (G : Gx) (lo : Nat) (V : Vw) (sz : Nat) (a : Int32) : Met l y_SG_isNode ws_SG_isNode ({ frames := 0, cells := 0, slots := 0, locals := 0 } : Room) (vPre G lo [.int a] (vU V []) sz) (vPost G lo (fun r V' k => r = some (.int (b2i (isN a))) ∧ V' = vU V [] ∧ k = sz)) 0 0 (vL lo) := by
  refine vMet (R := RSG) (by decide) rfl (Nat.le_of_ble_eq_true rfl) ?_
  intro pg ev s mi args below meth cd hx hb hr hml hlk hnm hts hown hK hz hV ls hl
  have hl : lv_has ls 1 [(0, .int a)] := hl
  have hV0 := hV
  obtain ⟨H, hH⟩ : ∃ H, H = s.heap := ⟨_, rfl⟩
  obtain ⟨locs, hlocs⟩ : ∃ locs : List Loc, locs = [] := ⟨_, rfl⟩
  rw [← hH, ← hlocs]
  rw [← hH] at hz
  replace hV : vS G.1 cls lo s H locs (vU V []) := by rw [hH, hlocs]; exact hV
  clear hH hlocs hV0
  refine lv_iload_n hx hb d_SG_isNode_0 rfl (lv_at hl 0 rfl) ?_
  refine lv_iconst (v := 1) hx hb d_SG_isNode_1 (by decide) ?_
  refine lv_icmp_lt (tgt := 15) hx hb d_SG_isNode_2 (by decide) (fun c_1 => ?_) (fun c_1 => ?_)
  · have hE : isN a = false := by simp only [isN, decide_eq_true (show a < nI 1 from c_1), Bool.not_true, Bool.false_and]
    refine lv_iconst (v := 0) hx hb d_SG_isNode_15 (by decide) ?_
    exact W.zret (v := 0) hx hb hr (by decide) (v_end hV ⟨by rw [hE]; rfl, rfl, hz⟩) hV.2.1.2.2 d_SG_isNode_16
  · refine lv_iload_n hx hb d_SG_isNode_5 rfl (lv_at hl 0 rfl) ?_
    refine lv_bipush (v := 40) hx hb d_SG_isNode_6 (by decide) ?_
    refine lv_icmp_gt (tgt := 15) hx hb d_SG_isNode_8 (by decide) (fun c_2 => ?_) (fun c_2 => ?_)
    · have hE : isN a = false := by simp only [isN, decide_eq_true (show nI 40 < a from c_2), Bool.not_true, Bool.and_false]
      refine lv_iconst (v := 0) hx hb d_SG_isNode_15 (by decide) ?_
      exact W.zret (v := 0) hx hb hr (by decide) (v_end hV ⟨by rw [hE]; rfl, rfl, hz⟩) hV.2.1.2.2 d_SG_isNode_16
    · have hE : isN a = true := by simp only [isN, decide_eq_false (show ¬ nI 40 < a from c_2), decide_eq_false (show ¬ a < nI 1 from c_1), Bool.not_false, Bool.and_self]
      refine lv_iconst (v := 1) hx hb d_SG_isNode_11 (by decide) ?_
      refine lv_goto (tgt := 16) hx hb d_SG_isNode_12 (by decide) ?_
      exact W.zret (v := 1) hx hb hr (by decide) (v_end hV ⟨by rw [hE]; rfl, rfl, hz⟩) hV.2.1.2.2 d_SG_isNode_16

set_option maxHeartbeats 4000000 in
set_option maxRecDepth 100000 in
/-- barred -/
theorem c_SG_barred (l : Launch) (hlT : l.stackTraces = false) (G : Gx) (lo : Nat) (V : Vw) (sz : Nat) (x rd ck pr tw dr : Nat) (wr : Int32) (ps bl sn tu af ao a3 : Nat) (fr ov tt : Nat → Int32) (L : List Tri) (of : Bool) (hn : [x, tw, tu, af, ao, a3].Nodup) (hO : tnOk fr ov tt L) (hL : L.length ≤ 20) (a b c : Int32) : xMet l y_SG_barred ws_SG_barred ({ frames := 6, cells := 1, slots := 6, locals := 130 } : Room) (vPre G lo [.ref x, .int a, .int b, .int c] (vU V [(x, eO 7 [.ref rd, .ref ck, .ref pr, .ref tw, .ref dr, .int wr]), (tw, eO 5 [.ref ps, .ref bl, .ref sn, .ref tu]), (tu, eO 6 [.ref af, .ref ao, .ref a3, .int (nI L.length), .int (b2i of)]), (af, eI (gI G) 20 fr), (ao, eI (gI G) 20 ov), (a3, eI (gI G) 20 tt)]) sz) (xEnd G lo (fun r V' k => ∃ v, r = some (.int (b2i v)) ∧ barR L a b c = .inr v ∧ V' = vU V [(x, eO 7 [.ref rd, .ref ck, .ref pr, .ref tw, .ref dr, .int wr]), (tw, eO 5 [.ref ps, .ref bl, .ref sn, .ref tu]), (tu, eO 6 [.ref af, .ref ao, .ref a3, .int (nI L.length), .int (b2i of)]), (af, eI (gI G) 20 fr), (ao, eI (gI G) 20 ov), (a3, eI (gI G) 20 tt)] ∧ k = sz) (fun E V' k => (E = eIO ∧ barR L a b c = .inl 1) ∧ V' = vU V [(x, eO 7 [.ref rd, .ref ck, .ref pr, .ref tw, .ref dr, .int wr]), (tw, eO 5 [.ref ps, .ref bl, .ref sn, .ref tu]), (tu, eO 6 [.ref af, .ref ao, .ref a3, .int (nI L.length), .int (b2i of)]), (af, eI (gI G) 20 fr), (ao, eI (gI G) 20 ov), (a3, eI (gI G) 20 tt)] ∧ k = sz + 1) 1 6) := by
  refine xMet_of (Rn := RSG) (by decide) rfl (Nat.le_of_ble_eq_true rfl) ?_
  intro pg ev s mi args below meth cd hx hb hr hml hlk hno hts hown hK hz hV ls hl
  have hl : lv_has ls 4 [(0, .ref x), (1, .int a), (2, .int b), (3, .int c)] := hl
  have hV0 := hV
  obtain ⟨H, hH⟩ : ∃ H, H = s.heap := ⟨_, rfl⟩
  obtain ⟨locs, hlocs⟩ : ∃ locs : List Loc, locs = [] := ⟨_, rfl⟩
  rw [← hH, ← hlocs]
  rw [← hH] at hz
  replace hV : vS G.1 cls lo s H locs (vU V [(x, eO 7 [.ref rd, .ref ck, .ref pr, .ref tw, .ref dr, .int wr]), (tw, eO 5 [.ref ps, .ref bl, .ref sn, .ref tu]), (tu, eO 6 [.ref af, .ref ao, .ref a3, .int (nI L.length), .int (b2i of)]), (af, eI (gI G) 20 fr), (ao, eI (gI G) 20 ov), (a3, eI (gI G) 20 tt)]) := by rw [hH, hlocs]; exact hV
  clear hH hlocs hV0
  refine lv_iload_n hx hb d_SG_barred_0 rfl (lv_at hl 1 rfl) ?_
  refine v_call (va_runS (As := [.int a]) (rest := []) ⟨hx, hb, hml, hown, hts⟩ (c_SG_isNode l G lo _ _ a) (kwS 1 hts w_co_SG_isNode rfl rfl w_it_SG w_ml_SG_141 w_st_SG_isNode (by decide +kernel) ⟨(Nat.le_of_ble_eq_true rfl), (Nat.le_of_ble_eq_true rfl)⟩) (u_preS hK hV hn [] rfl hz) rfl rfl hl.1 rfl (lv_room (Nat.le_of_ble_eq_true rfl)) d_SG_barred_1 ⟨(Nat.le_of_ble_eq_true rfl), (Nat.le_of_ble_eq_true rfl)⟩) hV (fun r9 V9 H locs hp hV hle => ?_)
  obtain ⟨rfl, rfl, hz⟩ := hp
  replace hV := uu_same hV hn [] rfl
  rcases tf (isN a) with d_1 | d_1
  · have hn0 := d_1
    have hV : vS G.1 cls lo s H locs (vU V [(x, eO 7 [.ref rd, .ref ck, .ref pr, .ref tw, .ref dr, .int wr]), (tw, eO 5 [.ref ps, .ref bl, .ref sn, .ref tu]), (tu, eO 6 [.ref af, .ref ao, .ref a3, .int (nI L.length), .int (b2i of)]), (af, eI (gI G) 20 fr), (ao, eI (gI G) 20 ov), (a3, eI (gI G) 20 tt)]) := hV
    refine W.eq (g2 := F0 mi 4 ls [.int 1]) (by rw [d_1]; rfl) ?_
    refine lv_if_eq (tgt := 21) hx hb d_SG_barred_4 (by decide) (fun c_2 => absurd c_2 (by decide)) (fun _ => ?_)
    refine lv_iload_n hx hb d_SG_barred_7 rfl (lv_at hl 2 rfl) ?_
    refine v_call (va_runS (As := [.int b]) (rest := []) ⟨hx, hb, hml, hown, hts⟩ (c_SG_isNode l G lo _ _ b) (kwS 1 hts w_co_SG_isNode rfl rfl w_it_SG w_ml_SG_141 w_st_SG_isNode (by decide +kernel) ⟨(Nat.le_of_ble_eq_true rfl), (Nat.le_of_ble_eq_true rfl)⟩) (u_preS hK hV hn [] rfl hz) rfl rfl hl.1 rfl (lv_room (Nat.le_of_ble_eq_true rfl)) d_SG_barred_8 ⟨(Nat.le_of_ble_eq_true rfl), (Nat.le_of_ble_eq_true rfl)⟩) hV (fun r9 V9 H locs hp hV hle => ?_)
    obtain ⟨rfl, rfl, hz⟩ := hp
    replace hV := uu_same hV hn [] rfl
    rcases tf (isN b) with d_3 | d_3
    · have hn1 := d_3
      have hV : vS G.1 cls lo s H locs (vU V [(x, eO 7 [.ref rd, .ref ck, .ref pr, .ref tw, .ref dr, .int wr]), (tw, eO 5 [.ref ps, .ref bl, .ref sn, .ref tu]), (tu, eO 6 [.ref af, .ref ao, .ref a3, .int (nI L.length), .int (b2i of)]), (af, eI (gI G) 20 fr), (ao, eI (gI G) 20 ov), (a3, eI (gI G) 20 tt)]) := hV
      refine W.eq (g2 := F0 mi 11 ls [.int 1]) (by rw [d_3]; rfl) ?_
      refine lv_if_eq (tgt := 21) hx hb d_SG_barred_11 (by decide) (fun c_4 => absurd c_4 (by decide)) (fun _ => ?_)
      refine lv_iload_n hx hb d_SG_barred_14 rfl (lv_at hl 3 rfl) ?_
      refine v_call (va_runS (As := [.int c]) (rest := []) ⟨hx, hb, hml, hown, hts⟩ (c_SG_isNode l G lo _ _ c) (kwS 1 hts w_co_SG_isNode rfl rfl w_it_SG w_ml_SG_141 w_st_SG_isNode (by decide +kernel) ⟨(Nat.le_of_ble_eq_true rfl), (Nat.le_of_ble_eq_true rfl)⟩) (u_preS hK hV hn [] rfl hz) rfl rfl hl.1 rfl (lv_room (Nat.le_of_ble_eq_true rfl)) d_SG_barred_15 ⟨(Nat.le_of_ble_eq_true rfl), (Nat.le_of_ble_eq_true rfl)⟩) hV (fun r9 V9 H locs hp hV hle => ?_)
      obtain ⟨rfl, rfl, hz⟩ := hp
      replace hV := uu_same hV hn [] rfl
      rcases tf (isN c) with d_5 | d_5
      · have hn2 := d_5
        have hV : vS G.1 cls lo s H locs (vU V [(x, eO 7 [.ref rd, .ref ck, .ref pr, .ref tw, .ref dr, .int wr]), (tw, eO 5 [.ref ps, .ref bl, .ref sn, .ref tu]), (tu, eO 6 [.ref af, .ref ao, .ref a3, .int (nI L.length), .int (b2i of)]), (af, eI (gI G) 20 fr), (ao, eI (gI G) 20 ov), (a3, eI (gI G) 20 tt)]) := hV
        refine W.eq (g2 := F0 mi 18 ls [.int 1]) (by rw [d_5]; rfl) ?_
        refine lv_if_ne (tgt := 31) hx hb d_SG_barred_18 (by decide) (fun _ => ?_) (fun c_6 => absurd c_6 (by decide))
        obtain ⟨j0, g0, m0, e0⟩ := isN_nat hn0
        subst e0
        obtain ⟨j1, g1, m1, e1⟩ := isN_nat hn1
        subst e1
        obtain ⟨j2, g2, m2, e2⟩ := isN_nat hn2
        subst e2
        have hR8 : barR L (nI j0) (nI j1) (nI j2) = .inr (decide ((j0, j1, j2) ∈ L)) := barR_2 hn0 hn1 hn2 m0 m1 m2
        refine lv_aload_n hx hb d_SG_barred_31 rfl (lv_at hl 0 rfl) ?_
        refine u_get hx hb hts inSG hown hK hV hn 0 rfl rfl 3 (by decide) w_fl_SG_33 rfl rfl d_SG_barred_32 ?_
        refine u_get hx hb hts inTw hown hK hV hn 1 rfl rfl 3 (by decide) w_fl_SG_80 rfl rfl d_SG_barred_35 ?_
        refine lv_iload_n hx hb d_SG_barred_38 rfl (lv_at hl 1 rfl) ?_
        refine lv_iload_n hx hb d_SG_barred_39 rfl (lv_at hl 2 rfl) ?_
        refine lv_iload_n hx hb d_SG_barred_40 rfl (lv_at hl 3 rfl) ?_
        refine v_call (va_runV (As := [.int (nI j0), .int (nI j1), .int (nI j2)]) (rest := []) ⟨hx, hb, hml, hown, hts⟩ (c_Tn_has l G lo _ _ tu af ao a3 fr ov tt L of (nd_sub hn [2, 3, 4, 5] (by decide) rfl) hO hL j0 j1 j2 (by omega) (by omega) (by omega)) (kwV 3 hts w_co_Tn_has rfl rfl w_it_Tn w_ml_SG_147 w_im_Tn_has w_se_Tn__Tn_has (by decide +kernel) ⟨(Nat.le_of_ble_eq_true rfl), (Nat.le_of_ble_eq_true rfl)⟩) (u_preV hK hV hn [2, 3, 4, 5] rfl hz 2 rfl rfl) rfl rfl hl.1 rfl (lv_room (Nat.le_of_ble_eq_true rfl)) d_SG_barred_41 ⟨(Nat.le_of_ble_eq_true rfl), (Nat.le_of_ble_eq_true rfl)⟩) hV (fun r9 V9 H locs hp hV hle => ?_)
        obtain ⟨rfl, rfl, hz⟩ := hp
        replace hV := uu_same hV hn [2, 3, 4, 5] rfl
        rcases Classical.em ((j0, j1, j2) ∈ L) with m_7 | m_7
        · have hV : vS G.1 cls lo s H locs (vU V [(x, eO 7 [.ref rd, .ref ck, .ref pr, .ref tw, .ref dr, .int wr]), (tw, eO 5 [.ref ps, .ref bl, .ref sn, .ref tu]), (tu, eO 6 [.ref af, .ref ao, .ref a3, .int (nI L.length), .int (b2i of)]), (af, eI (gI G) 20 fr), (ao, eI (gI G) 20 ov), (a3, eI (gI G) 20 tt)]) := hV
          refine W.eq (g2 := F0 mi 44 ls [.int 1]) (by rw [decide_eq_true m_7]; rfl) ?_
          refine x_ret ?_
          refine W.widen (k := 1) (n := 6) (by omega) (by omega) ?_
          exact W.zret (v := 1) hx hb hr (by decide) (v_end hV ⟨true, rfl, by rw [hR8, decide_eq_true m_7], rfl, hz⟩) hV.2.1.2.2 d_SG_barred_44
        · have hV : vS G.1 cls lo s H locs (vU V [(x, eO 7 [.ref rd, .ref ck, .ref pr, .ref tw, .ref dr, .int wr]), (tw, eO 5 [.ref ps, .ref bl, .ref sn, .ref tu]), (tu, eO 6 [.ref af, .ref ao, .ref a3, .int (nI L.length), .int (b2i of)]), (af, eI (gI G) 20 fr), (ao, eI (gI G) 20 ov), (a3, eI (gI G) 20 tt)]) := hV
          refine W.eq (g2 := F0 mi 44 ls [.int 0]) (by rw [decide_eq_false m_7]; rfl) ?_
          refine x_ret ?_
          refine W.widen (k := 1) (n := 6) (by omega) (by omega) ?_
          exact W.zret (v := 0) hx hb hr (by decide) (v_end hV ⟨false, rfl, by rw [hR8, decide_eq_false m_7], rfl, hz⟩) hV.2.1.2.2 d_SG_barred_44
      · have hR9 : barR L a b c = .inl 1 := barR_1 (Or.inr (Or.inr d_5))
        have hV : vS G.1 cls lo s H locs (vU V [(x, eO 7 [.ref rd, .ref ck, .ref pr, .ref tw, .ref dr, .int wr]), (tw, eO 5 [.ref ps, .ref bl, .ref sn, .ref tu]), (tu, eO 6 [.ref af, .ref ao, .ref a3, .int (nI L.length), .int (b2i of)]), (af, eI (gI G) 20 fr), (ao, eI (gI G) 20 ov), (a3, eI (gI G) 20 tt)]) := hV
        refine W.eq (g2 := F0 mi 18 ls [.int 0]) (by rw [d_5]; rfl) ?_
        refine lv_if_ne (tgt := 31) hx hb d_SG_barred_18 (by decide) (fun c_8 => absurd c_8 (by decide)) (fun _ => ?_)
        exact x_throw (E := "java/lang/IndexOutOfBoundsException") hx hb hlT hown (by decide +kernel) hts xa_44 (List.mem_of_getElem? (i := 8) rfl) hK hV (by rw [hml]; exact hl.1) d_SG_barred_21 d_SG_barred_24 d_SG_barred_25 d_SG_barred_27 d_SG_barred_30 hno (Nat.le_of_ble_eq_true rfl) (Nat.le_of_ble_eq_true rfl) (Nat.le_of_ble_eq_true rfl) (Nat.le_of_ble_eq_true rfl) hlk (Nat.le_of_ble_eq_true rfl) (Nat.le_of_ble_eq_true rfl) ⟨⟨rfl, hR9⟩, rfl, by rw [hz]⟩
    · have hR9 : barR L a b c = .inl 1 := barR_1 (Or.inr (Or.inl d_3))
      have hV : vS G.1 cls lo s H locs (vU V [(x, eO 7 [.ref rd, .ref ck, .ref pr, .ref tw, .ref dr, .int wr]), (tw, eO 5 [.ref ps, .ref bl, .ref sn, .ref tu]), (tu, eO 6 [.ref af, .ref ao, .ref a3, .int (nI L.length), .int (b2i of)]), (af, eI (gI G) 20 fr), (ao, eI (gI G) 20 ov), (a3, eI (gI G) 20 tt)]) := hV
      refine W.eq (g2 := F0 mi 11 ls [.int 0]) (by rw [d_3]; rfl) ?_
      refine lv_if_eq (tgt := 21) hx hb d_SG_barred_11 (by decide) (fun _ => ?_) (fun c_9 => absurd c_9 (by decide))
      exact x_throw (E := "java/lang/IndexOutOfBoundsException") hx hb hlT hown (by decide +kernel) hts xa_44 (List.mem_of_getElem? (i := 8) rfl) hK hV (by rw [hml]; exact hl.1) d_SG_barred_21 d_SG_barred_24 d_SG_barred_25 d_SG_barred_27 d_SG_barred_30 hno (Nat.le_of_ble_eq_true rfl) (Nat.le_of_ble_eq_true rfl) (Nat.le_of_ble_eq_true rfl) (Nat.le_of_ble_eq_true rfl) hlk (Nat.le_of_ble_eq_true rfl) (Nat.le_of_ble_eq_true rfl) ⟨⟨rfl, hR9⟩, rfl, by rw [hz]⟩
  · have hR9 : barR L a b c = .inl 1 := barR_1 (Or.inl d_1)
    have hV : vS G.1 cls lo s H locs (vU V [(x, eO 7 [.ref rd, .ref ck, .ref pr, .ref tw, .ref dr, .int wr]), (tw, eO 5 [.ref ps, .ref bl, .ref sn, .ref tu]), (tu, eO 6 [.ref af, .ref ao, .ref a3, .int (nI L.length), .int (b2i of)]), (af, eI (gI G) 20 fr), (ao, eI (gI G) 20 ov), (a3, eI (gI G) 20 tt)]) := hV
    refine W.eq (g2 := F0 mi 4 ls [.int 0]) (by rw [d_1]; rfl) ?_
    refine lv_if_eq (tgt := 21) hx hb d_SG_barred_4 (by decide) (fun _ => ?_) (fun c_10 => absurd c_10 (by decide))
    exact x_throw (E := "java/lang/IndexOutOfBoundsException") hx hb hlT hown (by decide +kernel) hts xa_44 (List.mem_of_getElem? (i := 8) rfl) hK hV (by rw [hml]; exact hl.1) d_SG_barred_21 d_SG_barred_24 d_SG_barred_25 d_SG_barred_27 d_SG_barred_30 hno (Nat.le_of_ble_eq_true rfl) (Nat.le_of_ble_eq_true rfl) (Nat.le_of_ble_eq_true rfl) (Nat.le_of_ble_eq_true rfl) hlk (Nat.le_of_ble_eq_true rfl) (Nat.le_of_ble_eq_true rfl) ⟨⟨rfl, hR9⟩, rfl, by rw [hz]⟩

set_option maxHeartbeats 4000000 in
set_option maxRecDepth 100000 in
/-- clear -/
theorem c_SG_clear (l : Launch) (G : Gx) (lo : Nat) (V : Vw) (sz : Nat) (x rd ck pr tw dr : Nat) (wr : Int32) (ps bl sn tu af ao a3 : Nat) (L : List Tri) (of : Bool) (hn : [x, tw, tu].Nodup) : Met l y_SG_clear ws_SG_clear ({ frames := 0, cells := 0, slots := 0, locals := 0 } : Room) (vPre G lo [.ref x] (vU V [(x, eO 7 [.ref rd, .ref ck, .ref pr, .ref tw, .ref dr, .int wr]), (tw, eO 5 [.ref ps, .ref bl, .ref sn, .ref tu]), (tu, eO 6 [.ref af, .ref ao, .ref a3, .int (nI L.length), .int (b2i of)])]) sz) (vPost G lo (fun r V' k => r = some (.int (nI L.length)) ∧ V' = vU V [(x, eO 7 [.ref rd, .ref ck, .ref pr, .ref tw, .ref dr, .int wr]), (tw, eO 5 [.ref ps, .ref bl, .ref sn, .ref tu]), (tu, eO 6 [.ref af, .ref ao, .ref a3, .int 0, .int (b2i of)])] ∧ k = sz)) 0 0 (vL lo) := by
  refine vMet (R := RSG) (by decide) rfl (Nat.le_of_ble_eq_true rfl) ?_
  intro pg ev s mi args below meth cd hx hb hr hml hlk hnm hts hown hK hz hV ls hl
  have hl : lv_has ls 2 [(0, .ref x)] := hl
  have hV0 := hV
  obtain ⟨H, hH⟩ : ∃ H, H = s.heap := ⟨_, rfl⟩
  obtain ⟨locs, hlocs⟩ : ∃ locs : List Loc, locs = [] := ⟨_, rfl⟩
  rw [← hH, ← hlocs]
  rw [← hH] at hz
  replace hV : vS G.1 cls lo s H locs (vU V [(x, eO 7 [.ref rd, .ref ck, .ref pr, .ref tw, .ref dr, .int wr]), (tw, eO 5 [.ref ps, .ref bl, .ref sn, .ref tu]), (tu, eO 6 [.ref af, .ref ao, .ref a3, .int (nI L.length), .int (b2i of)])]) := by rw [hH, hlocs]; exact hV
  clear hH hlocs hV0
  refine lv_aload_n hx hb d_SG_clear_0 rfl (lv_at hl 0 rfl) ?_
  refine u_get hx hb hts inSG hown hK hV hn 0 rfl rfl 3 (by decide) w_fl_SG_33 rfl rfl d_SG_clear_1 ?_
  refine u_get hx hb hts inTw hown hK hV hn 1 rfl rfl 3 (by decide) w_fl_SG_80 rfl rfl d_SG_clear_4 ?_
  refine u_get hx hb hts inTn hown hK hV hn 2 rfl rfl 3 (by decide) w_fl_SG_151 rfl rfl d_SG_clear_7 ?_
  refine lv_istore_n (lv' := [(1, .int (nI L.length)), (0, .ref x)]) hx hb d_SG_clear_10 rfl hl (by decide) rfl (fun ls hl => ?_)
  refine lv_aload_n hx hb d_SG_clear_11 rfl (lv_at hl 1 rfl) ?_
  refine u_get hx hb hts inSG hown hK hV hn 0 rfl rfl 3 (by decide) w_fl_SG_33 rfl rfl d_SG_clear_12 ?_
  refine u_get hx hb hts inTw hown hK hV hn 1 rfl rfl 3 (by decide) w_fl_SG_80 rfl rfl d_SG_clear_15 ?_
  refine lv_iconst (v := 0) hx hb d_SG_clear_18 (by decide) ?_
  refine u_put hx hb hts inTn tyTn tyTn_ok nmTn hown hK hV hn 2 rfl rfl 3 (by decide) w_fl_SG_151 rfl rfl rfl rfl (Nat.le_of_ble_eq_true rfl) d_SG_clear_19 (fun H locs hV hz9 => ?_)
  have hV : vS G.1 cls lo s H locs (vU V [(x, eO 7 [.ref rd, .ref ck, .ref pr, .ref tw, .ref dr, .int wr]), (tw, eO 5 [.ref ps, .ref bl, .ref sn, .ref tu]), (tu, eO 6 [.ref af, .ref ao, .ref a3, .int 0, .int (b2i of)])]) := hV
  replace hz := hz9.trans hz
  refine lv_iload_n hx hb d_SG_clear_22 rfl (lv_at hl 0 rfl) ?_
  exact W.iret (v := nI L.length) hx hb hr (v_end hV ⟨rfl, rfl, hz⟩) hV.2.1.2.2 d_SG_clear_23

set_option maxHeartbeats 4000000 in
set_option maxRecDepth 100000 in
/-- spot -/
theorem c_SG_spot (l : Launch) (hlT : l.stackTraces = false) (G : Gx) (lo : Nat) (V : Vw) (sz : Nat) (x rd ck pr tw dr : Nat) (wr : Int32) (ps bl b1 b2 sn s1 s2 tu : Nat) (fb fc fs fd : Nat → Int32) (B S : Nat → Option (Nat × Nat)) (hn : [x, tw, bl, b1, b2, sn, s1, s2].Nodup) (hSb : spOk fb fc B) (hSs : spOk fs fd S) (y st : Int32) : xMet l y_SG_spot ws_SG_spot ({ frames := 6, cells := 1, slots := 6, locals := 130 } : Room) (vPre G lo [.ref x, .int y, .int st] (vU V [(x, eO 7 [.ref rd, .ref ck, .ref pr, .ref tw, .ref dr, .int wr]), (tw, eO 5 [.ref ps, .ref bl, .ref sn, .ref tu]), (bl, eO 4 [.ref b1, .ref b2]), (b1, eI (gI G) 31 fb), (b2, eI (gI G) 31 fc), (sn, eO 4 [.ref s1, .ref s2]), (s1, eI (gI G) 31 fs), (s2, eI (gI G) 31 fd)]) sz) (xEnd G lo (fun r V' k => ∃ v, r = some (.int v) ∧ spoR (if st = 0 then B else S) y = .inr v ∧ V' = vU V [(x, eO 7 [.ref rd, .ref ck, .ref pr, .ref tw, .ref dr, .int wr]), (tw, eO 5 [.ref ps, .ref bl, .ref sn, .ref tu]), (bl, eO 4 [.ref b1, .ref b2]), (b1, eI (gI G) 31 fb), (b2, eI (gI G) 31 fc), (sn, eO 4 [.ref s1, .ref s2]), (s1, eI (gI G) 31 fs), (s2, eI (gI G) 31 fd)] ∧ k = sz) (fun E V' k => (E = eIA ∧ spoR (if st = 0 then B else S) y = .inl 1) ∧ V' = vU V [(x, eO 7 [.ref rd, .ref ck, .ref pr, .ref tw, .ref dr, .int wr]), (tw, eO 5 [.ref ps, .ref bl, .ref sn, .ref tu]), (bl, eO 4 [.ref b1, .ref b2]), (b1, eI (gI G) 31 fb), (b2, eI (gI G) 31 fc), (sn, eO 4 [.ref s1, .ref s2]), (s1, eI (gI G) 31 fs), (s2, eI (gI G) 31 fd)] ∧ k = sz + 1) 1 6) := by
  refine xMet_of (Rn := RSG) (by decide) rfl (Nat.le_of_ble_eq_true rfl) ?_
  intro pg ev s mi args below meth cd hx hb hr hml hlk hno hts hown hK hz hV ls hl
  have hl : lv_has ls 4 [(0, .ref x), (1, .int y), (2, .int st)] := hl
  have hV0 := hV
  obtain ⟨H, hH⟩ : ∃ H, H = s.heap := ⟨_, rfl⟩
  obtain ⟨locs, hlocs⟩ : ∃ locs : List Loc, locs = [] := ⟨_, rfl⟩
  rw [← hH, ← hlocs]
  rw [← hH] at hz
  replace hV : vS G.1 cls lo s H locs (vU V [(x, eO 7 [.ref rd, .ref ck, .ref pr, .ref tw, .ref dr, .int wr]), (tw, eO 5 [.ref ps, .ref bl, .ref sn, .ref tu]), (bl, eO 4 [.ref b1, .ref b2]), (b1, eI (gI G) 31 fb), (b2, eI (gI G) 31 fc), (sn, eO 4 [.ref s1, .ref s2]), (s1, eI (gI G) 31 fs), (s2, eI (gI G) 31 fd)]) := by rw [hH, hlocs]; exact hV
  clear hH hlocs hV0
  refine lv_iload_n hx hb d_SG_spot_0 rfl (lv_at hl 2 rfl) ?_
  refine lv_if_eq (tgt := 14) hx hb d_SG_spot_1 (by decide) (fun c_1 => ?_) (fun c_1 => ?_)
  · have eS : (if st = 0 then B else S) = B := if_pos c_1
    have hSO := hSb
    refine lv_aload_n hx hb d_SG_spot_14 rfl (lv_at hl 0 rfl) ?_
    refine u_get hx hb hts inSG hown hK hV hn 0 rfl rfl 3 (by decide) w_fl_SG_33 rfl rfl d_SG_spot_15 ?_
    refine u_get hx hb hts inTw hown hK hV hn 1 rfl rfl 1 (by decide) w_fl_SG_158 rfl rfl d_SG_spot_18 ?_
    refine lv_astore_n (lv' := [(3, .ref bl), (0, .ref x), (1, .int y), (2, .int st)]) hx hb d_SG_spot_21 rfl hl (by decide) rfl (fun ls hl => ?_)
    refine lv_aload_n hx hb d_SG_spot_22 rfl (lv_at hl 0 rfl) ?_
    refine lv_iload_n hx hb d_SG_spot_23 rfl (lv_at hl 2 rfl) ?_
    refine v_call (va_runV (As := [.int y]) (rest := []) ⟨hx, hb, hml, hown, hts⟩ (c_Sp_has l G lo _ _ bl b1 b2 fb y (nd_sub hn [2, 3] (by decide) rfl)) (kwV 1 hts w_co_Sp_has rfl rfl w_it_Sp w_ml_SG_161 w_im_Sp_has w_se_Sp__Sp_has (by decide +kernel) ⟨(Nat.le_of_ble_eq_true rfl), (Nat.le_of_ble_eq_true rfl)⟩) (u_preV hK hV hn [2, 3] rfl hz 2 rfl rfl) rfl rfl hl.1 rfl (lv_room (Nat.le_of_ble_eq_true rfl)) d_SG_spot_24 ⟨(Nat.le_of_ble_eq_true rfl), (Nat.le_of_ble_eq_true rfl)⟩) hV (fun r9 V9 H locs hp hV hle => ?_)
    obtain ⟨rfl, rfl, hz⟩ := hp
    replace hV := uu_same hV hn [2, 3] rfl
    rcases tf (spHas fb y) with d_2 | d_2
    · obtain ⟨j9, y9, z9, g1, g2, e9, hf1, hf2, hF⟩ := spF_yes hSO d_2
      have hV : vS G.1 cls lo s H locs (vU V [(x, eO 7 [.ref rd, .ref ck, .ref pr, .ref tw, .ref dr, .int wr]), (tw, eO 5 [.ref ps, .ref bl, .ref sn, .ref tu]), (bl, eO 4 [.ref b1, .ref b2]), (b1, eI (gI G) 31 fb), (b2, eI (gI G) 31 fc), (sn, eO 4 [.ref s1, .ref s2]), (s1, eI (gI G) 31 fs), (s2, eI (gI G) 31 fd)]) := hV
      refine W.eq (g2 := F0 mi 27 ls [.int 1]) (by rw [d_2]; rfl) ?_
      refine lv_if_ne (tgt := 40) hx hb d_SG_spot_27 (by decide) (fun _ => ?_) (fun c_3 => absurd c_3 (by decide))
      have hR8 : spoR (if st = 0 then B else S) y = .inr (nI y9) := by rw [eS]; simp only [spoR, hF]
      subst e9
      refine lv_aload_n hx hb d_SG_spot_40 rfl (lv_at hl 0 rfl) ?_
      refine u_get hx hb hts inSp hown hK hV hn 2 rfl rfl 0 (by decide) w_fl_SG_167 rfl rfl d_SG_spot_41 ?_
      refine lv_iload_n hx hb d_SG_spot_44 rfl (lv_at hl 2 rfl) ?_
      refine u_ialdN hx hb hK hV hn 3 rfl (by omega) (by decide) d_SG_spot_45 ?_
      refine x_ret ?_
      refine W.widen (k := 1) (n := 6) (by omega) (by omega) ?_
      exact W.iret (v := fb j9) hx hb hr (v_end hV ⟨_, rfl, by rw [hR8, ← hf1], rfl, hz⟩) hV.2.1.2.2 d_SG_spot_46
    · have hR9 : spoR (if st = 0 then B else S) y = .inl 1 := by rw [eS]; simp only [spoR, spF_no hSO d_2]
      have hV : vS G.1 cls lo s H locs (vU V [(x, eO 7 [.ref rd, .ref ck, .ref pr, .ref tw, .ref dr, .int wr]), (tw, eO 5 [.ref ps, .ref bl, .ref sn, .ref tu]), (bl, eO 4 [.ref b1, .ref b2]), (b1, eI (gI G) 31 fb), (b2, eI (gI G) 31 fc), (sn, eO 4 [.ref s1, .ref s2]), (s1, eI (gI G) 31 fs), (s2, eI (gI G) 31 fd)]) := hV
      refine W.eq (g2 := F0 mi 27 ls [.int 0]) (by rw [d_2]; rfl) ?_
      refine lv_if_ne (tgt := 40) hx hb d_SG_spot_27 (by decide) (fun c_4 => absurd c_4 (by decide)) (fun _ => ?_)
      exact x_throw (E := "java/lang/IllegalArgumentException") hx hb hlT hown (by decide +kernel) hts xa_99 (List.mem_of_getElem? (i := 9) rfl) hK hV (by rw [hml]; exact hl.1) d_SG_spot_30 d_SG_spot_33 d_SG_spot_34 d_SG_spot_36 d_SG_spot_39 hno (Nat.le_of_ble_eq_true rfl) (Nat.le_of_ble_eq_true rfl) (Nat.le_of_ble_eq_true rfl) (Nat.le_of_ble_eq_true rfl) hlk (Nat.le_of_ble_eq_true rfl) (Nat.le_of_ble_eq_true rfl) ⟨⟨rfl, hR9⟩, rfl, by rw [hz]⟩
  · have eS : (if st = 0 then B else S) = S := if_neg c_1
    have hSO := hSs
    refine lv_aload_n hx hb d_SG_spot_4 rfl (lv_at hl 0 rfl) ?_
    refine u_get hx hb hts inSG hown hK hV hn 0 rfl rfl 3 (by decide) w_fl_SG_33 rfl rfl d_SG_spot_5 ?_
    refine u_get hx hb hts inTw hown hK hV hn 1 rfl rfl 2 (by decide) w_fl_SG_154 rfl rfl d_SG_spot_8 ?_
    refine lv_goto (tgt := 21) hx hb d_SG_spot_11 (by decide) ?_
    refine lv_astore_n (lv' := [(3, .ref sn), (0, .ref x), (1, .int y), (2, .int st)]) hx hb d_SG_spot_21 rfl hl (by decide) rfl (fun ls hl => ?_)
    refine lv_aload_n hx hb d_SG_spot_22 rfl (lv_at hl 0 rfl) ?_
    refine lv_iload_n hx hb d_SG_spot_23 rfl (lv_at hl 2 rfl) ?_
    refine v_call (va_runV (As := [.int y]) (rest := []) ⟨hx, hb, hml, hown, hts⟩ (c_Sp_has l G lo _ _ sn s1 s2 fs y (nd_sub hn [5, 6] (by decide) rfl)) (kwV 1 hts w_co_Sp_has rfl rfl w_it_Sp w_ml_SG_161 w_im_Sp_has w_se_Sp__Sp_has (by decide +kernel) ⟨(Nat.le_of_ble_eq_true rfl), (Nat.le_of_ble_eq_true rfl)⟩) (u_preV hK hV hn [5, 6] rfl hz 5 rfl rfl) rfl rfl hl.1 rfl (lv_room (Nat.le_of_ble_eq_true rfl)) d_SG_spot_24 ⟨(Nat.le_of_ble_eq_true rfl), (Nat.le_of_ble_eq_true rfl)⟩) hV (fun r9 V9 H locs hp hV hle => ?_)
    obtain ⟨rfl, rfl, hz⟩ := hp
    replace hV := uu_same hV hn [5, 6] rfl
    rcases tf (spHas fs y) with d_5 | d_5
    · obtain ⟨j9, y9, z9, g1, g2, e9, hf1, hf2, hF⟩ := spF_yes hSO d_5
      have hV : vS G.1 cls lo s H locs (vU V [(x, eO 7 [.ref rd, .ref ck, .ref pr, .ref tw, .ref dr, .int wr]), (tw, eO 5 [.ref ps, .ref bl, .ref sn, .ref tu]), (bl, eO 4 [.ref b1, .ref b2]), (b1, eI (gI G) 31 fb), (b2, eI (gI G) 31 fc), (sn, eO 4 [.ref s1, .ref s2]), (s1, eI (gI G) 31 fs), (s2, eI (gI G) 31 fd)]) := hV
      refine W.eq (g2 := F0 mi 27 ls [.int 1]) (by rw [d_5]; rfl) ?_
      refine lv_if_ne (tgt := 40) hx hb d_SG_spot_27 (by decide) (fun _ => ?_) (fun c_6 => absurd c_6 (by decide))
      have hR8 : spoR (if st = 0 then B else S) y = .inr (nI y9) := by rw [eS]; simp only [spoR, hF]
      subst e9
      refine lv_aload_n hx hb d_SG_spot_40 rfl (lv_at hl 0 rfl) ?_
      refine u_get hx hb hts inSp hown hK hV hn 5 rfl rfl 0 (by decide) w_fl_SG_167 rfl rfl d_SG_spot_41 ?_
      refine lv_iload_n hx hb d_SG_spot_44 rfl (lv_at hl 2 rfl) ?_
      refine u_ialdN hx hb hK hV hn 6 rfl (by omega) (by decide) d_SG_spot_45 ?_
      refine x_ret ?_
      refine W.widen (k := 1) (n := 6) (by omega) (by omega) ?_
      exact W.iret (v := fs j9) hx hb hr (v_end hV ⟨_, rfl, by rw [hR8, ← hf1], rfl, hz⟩) hV.2.1.2.2 d_SG_spot_46
    · have hR9 : spoR (if st = 0 then B else S) y = .inl 1 := by rw [eS]; simp only [spoR, spF_no hSO d_5]
      have hV : vS G.1 cls lo s H locs (vU V [(x, eO 7 [.ref rd, .ref ck, .ref pr, .ref tw, .ref dr, .int wr]), (tw, eO 5 [.ref ps, .ref bl, .ref sn, .ref tu]), (bl, eO 4 [.ref b1, .ref b2]), (b1, eI (gI G) 31 fb), (b2, eI (gI G) 31 fc), (sn, eO 4 [.ref s1, .ref s2]), (s1, eI (gI G) 31 fs), (s2, eI (gI G) 31 fd)]) := hV
      refine W.eq (g2 := F0 mi 27 ls [.int 0]) (by rw [d_5]; rfl) ?_
      refine lv_if_ne (tgt := 40) hx hb d_SG_spot_27 (by decide) (fun c_7 => absurd c_7 (by decide)) (fun _ => ?_)
      exact x_throw (E := "java/lang/IllegalArgumentException") hx hb hlT hown (by decide +kernel) hts xa_99 (List.mem_of_getElem? (i := 9) rfl) hK hV (by rw [hml]; exact hl.1) d_SG_spot_30 d_SG_spot_33 d_SG_spot_34 d_SG_spot_36 d_SG_spot_39 hno (Nat.le_of_ble_eq_true rfl) (Nat.le_of_ble_eq_true rfl) (Nat.le_of_ble_eq_true rfl) (Nat.le_of_ble_eq_true rfl) hlk (Nat.le_of_ble_eq_true rfl) (Nat.le_of_ble_eq_true rfl) ⟨⟨rfl, hR9⟩, rfl, by rw [hz]⟩

set_option maxHeartbeats 4000000 in
set_option maxRecDepth 100000 in
/-- along -/
theorem c_SG_along (l : Launch) (hlT : l.stackTraces = false) (G : Gx) (lo : Nat) (V : Vw) (sz : Nat) (x rd ck pr tw dr : Nat) (wr : Int32) (ps bl b1 b2 sn s1 s2 tu : Nat) (fb fc fs fd : Nat → Int32) (B S : Nat → Option (Nat × Nat)) (hn : [x, tw, bl, b1, b2, sn, s1, s2].Nodup) (hSb : spOk fb fc B) (hSs : spOk fs fd S) (y st : Int32) : xMet l y_SG_along ws_SG_along ({ frames := 6, cells := 1, slots := 6, locals := 130 } : Room) (vPre G lo [.ref x, .int y, .int st] (vU V [(x, eO 7 [.ref rd, .ref ck, .ref pr, .ref tw, .ref dr, .int wr]), (tw, eO 5 [.ref ps, .ref bl, .ref sn, .ref tu]), (bl, eO 4 [.ref b1, .ref b2]), (b1, eI (gI G) 31 fb), (b2, eI (gI G) 31 fc), (sn, eO 4 [.ref s1, .ref s2]), (s1, eI (gI G) 31 fs), (s2, eI (gI G) 31 fd)]) sz) (xEnd G lo (fun r V' k => ∃ v, r = some (.int v) ∧ aloR (if st = 0 then B else S) y = .inr v ∧ V' = vU V [(x, eO 7 [.ref rd, .ref ck, .ref pr, .ref tw, .ref dr, .int wr]), (tw, eO 5 [.ref ps, .ref bl, .ref sn, .ref tu]), (bl, eO 4 [.ref b1, .ref b2]), (b1, eI (gI G) 31 fb), (b2, eI (gI G) 31 fc), (sn, eO 4 [.ref s1, .ref s2]), (s1, eI (gI G) 31 fs), (s2, eI (gI G) 31 fd)] ∧ k = sz) (fun E V' k => (E = eIA ∧ aloR (if st = 0 then B else S) y = .inl 1) ∧ V' = vU V [(x, eO 7 [.ref rd, .ref ck, .ref pr, .ref tw, .ref dr, .int wr]), (tw, eO 5 [.ref ps, .ref bl, .ref sn, .ref tu]), (bl, eO 4 [.ref b1, .ref b2]), (b1, eI (gI G) 31 fb), (b2, eI (gI G) 31 fc), (sn, eO 4 [.ref s1, .ref s2]), (s1, eI (gI G) 31 fs), (s2, eI (gI G) 31 fd)] ∧ k = sz + 1) 1 6) := by
  refine xMet_of (Rn := RSG) (by decide) rfl (Nat.le_of_ble_eq_true rfl) ?_
  intro pg ev s mi args below meth cd hx hb hr hml hlk hno hts hown hK hz hV ls hl
  have hl : lv_has ls 4 [(0, .ref x), (1, .int y), (2, .int st)] := hl
  have hV0 := hV
  obtain ⟨H, hH⟩ : ∃ H, H = s.heap := ⟨_, rfl⟩
  obtain ⟨locs, hlocs⟩ : ∃ locs : List Loc, locs = [] := ⟨_, rfl⟩
  rw [← hH, ← hlocs]
  rw [← hH] at hz
  replace hV : vS G.1 cls lo s H locs (vU V [(x, eO 7 [.ref rd, .ref ck, .ref pr, .ref tw, .ref dr, .int wr]), (tw, eO 5 [.ref ps, .ref bl, .ref sn, .ref tu]), (bl, eO 4 [.ref b1, .ref b2]), (b1, eI (gI G) 31 fb), (b2, eI (gI G) 31 fc), (sn, eO 4 [.ref s1, .ref s2]), (s1, eI (gI G) 31 fs), (s2, eI (gI G) 31 fd)]) := by rw [hH, hlocs]; exact hV
  clear hH hlocs hV0
  refine lv_iload_n hx hb d_SG_along_0 rfl (lv_at hl 2 rfl) ?_
  refine lv_if_eq (tgt := 14) hx hb d_SG_along_1 (by decide) (fun c_1 => ?_) (fun c_1 => ?_)
  · have eS : (if st = 0 then B else S) = B := if_pos c_1
    have hSO := hSb
    refine lv_aload_n hx hb d_SG_along_14 rfl (lv_at hl 0 rfl) ?_
    refine u_get hx hb hts inSG hown hK hV hn 0 rfl rfl 3 (by decide) w_fl_SG_33 rfl rfl d_SG_along_15 ?_
    refine u_get hx hb hts inTw hown hK hV hn 1 rfl rfl 1 (by decide) w_fl_SG_158 rfl rfl d_SG_along_18 ?_
    refine lv_astore_n (lv' := [(3, .ref bl), (0, .ref x), (1, .int y), (2, .int st)]) hx hb d_SG_along_21 rfl hl (by decide) rfl (fun ls hl => ?_)
    refine lv_aload_n hx hb d_SG_along_22 rfl (lv_at hl 0 rfl) ?_
    refine lv_iload_n hx hb d_SG_along_23 rfl (lv_at hl 2 rfl) ?_
    refine v_call (va_runV (As := [.int y]) (rest := []) ⟨hx, hb, hml, hown, hts⟩ (c_Sp_has l G lo _ _ bl b1 b2 fb y (nd_sub hn [2, 3] (by decide) rfl)) (kwV 1 hts w_co_Sp_has rfl rfl w_it_Sp w_ml_SG_161 w_im_Sp_has w_se_Sp__Sp_has (by decide +kernel) ⟨(Nat.le_of_ble_eq_true rfl), (Nat.le_of_ble_eq_true rfl)⟩) (u_preV hK hV hn [2, 3] rfl hz 2 rfl rfl) rfl rfl hl.1 rfl (lv_room (Nat.le_of_ble_eq_true rfl)) d_SG_along_24 ⟨(Nat.le_of_ble_eq_true rfl), (Nat.le_of_ble_eq_true rfl)⟩) hV (fun r9 V9 H locs hp hV hle => ?_)
    obtain ⟨rfl, rfl, hz⟩ := hp
    replace hV := uu_same hV hn [2, 3] rfl
    rcases tf (spHas fb y) with d_2 | d_2
    · obtain ⟨j9, y9, z9, g1, g2, e9, hf1, hf2, hF⟩ := spF_yes hSO d_2
      have hV : vS G.1 cls lo s H locs (vU V [(x, eO 7 [.ref rd, .ref ck, .ref pr, .ref tw, .ref dr, .int wr]), (tw, eO 5 [.ref ps, .ref bl, .ref sn, .ref tu]), (bl, eO 4 [.ref b1, .ref b2]), (b1, eI (gI G) 31 fb), (b2, eI (gI G) 31 fc), (sn, eO 4 [.ref s1, .ref s2]), (s1, eI (gI G) 31 fs), (s2, eI (gI G) 31 fd)]) := hV
      refine W.eq (g2 := F0 mi 27 ls [.int 1]) (by rw [d_2]; rfl) ?_
      refine lv_if_ne (tgt := 40) hx hb d_SG_along_27 (by decide) (fun _ => ?_) (fun c_3 => absurd c_3 (by decide))
      have hR8 : aloR (if st = 0 then B else S) y = .inr (nI z9) := by rw [eS]; simp only [aloR, hF]
      subst e9
      refine lv_aload_n hx hb d_SG_along_40 rfl (lv_at hl 0 rfl) ?_
      refine u_get hx hb hts inSp hown hK hV hn 2 rfl rfl 1 (by decide) w_fl_SG_171 rfl rfl d_SG_along_41 ?_
      refine lv_iload_n hx hb d_SG_along_44 rfl (lv_at hl 2 rfl) ?_
      refine u_ialdN hx hb hK hV hn 4 rfl (by omega) (by decide) d_SG_along_45 ?_
      refine x_ret ?_
      refine W.widen (k := 1) (n := 6) (by omega) (by omega) ?_
      exact W.iret (v := fc j9) hx hb hr (v_end hV ⟨_, rfl, by rw [hR8, ← hf2], rfl, hz⟩) hV.2.1.2.2 d_SG_along_46
    · have hR9 : aloR (if st = 0 then B else S) y = .inl 1 := by rw [eS]; simp only [aloR, spF_no hSO d_2]
      have hV : vS G.1 cls lo s H locs (vU V [(x, eO 7 [.ref rd, .ref ck, .ref pr, .ref tw, .ref dr, .int wr]), (tw, eO 5 [.ref ps, .ref bl, .ref sn, .ref tu]), (bl, eO 4 [.ref b1, .ref b2]), (b1, eI (gI G) 31 fb), (b2, eI (gI G) 31 fc), (sn, eO 4 [.ref s1, .ref s2]), (s1, eI (gI G) 31 fs), (s2, eI (gI G) 31 fd)]) := hV
      refine W.eq (g2 := F0 mi 27 ls [.int 0]) (by rw [d_2]; rfl) ?_
      refine lv_if_ne (tgt := 40) hx hb d_SG_along_27 (by decide) (fun c_4 => absurd c_4 (by decide)) (fun _ => ?_)
      exact x_throw (E := "java/lang/IllegalArgumentException") hx hb hlT hown (by decide +kernel) hts xa_99 (List.mem_of_getElem? (i := 9) rfl) hK hV (by rw [hml]; exact hl.1) d_SG_along_30 d_SG_along_33 d_SG_along_34 d_SG_along_36 d_SG_along_39 hno (Nat.le_of_ble_eq_true rfl) (Nat.le_of_ble_eq_true rfl) (Nat.le_of_ble_eq_true rfl) (Nat.le_of_ble_eq_true rfl) hlk (Nat.le_of_ble_eq_true rfl) (Nat.le_of_ble_eq_true rfl) ⟨⟨rfl, hR9⟩, rfl, by rw [hz]⟩
  · have eS : (if st = 0 then B else S) = S := if_neg c_1
    have hSO := hSs
    refine lv_aload_n hx hb d_SG_along_4 rfl (lv_at hl 0 rfl) ?_
    refine u_get hx hb hts inSG hown hK hV hn 0 rfl rfl 3 (by decide) w_fl_SG_33 rfl rfl d_SG_along_5 ?_
    refine u_get hx hb hts inTw hown hK hV hn 1 rfl rfl 2 (by decide) w_fl_SG_154 rfl rfl d_SG_along_8 ?_
    refine lv_goto (tgt := 21) hx hb d_SG_along_11 (by decide) ?_
    refine lv_astore_n (lv' := [(3, .ref sn), (0, .ref x), (1, .int y), (2, .int st)]) hx hb d_SG_along_21 rfl hl (by decide) rfl (fun ls hl => ?_)
    refine lv_aload_n hx hb d_SG_along_22 rfl (lv_at hl 0 rfl) ?_
    refine lv_iload_n hx hb d_SG_along_23 rfl (lv_at hl 2 rfl) ?_
    refine v_call (va_runV (As := [.int y]) (rest := []) ⟨hx, hb, hml, hown, hts⟩ (c_Sp_has l G lo _ _ sn s1 s2 fs y (nd_sub hn [5, 6] (by decide) rfl)) (kwV 1 hts w_co_Sp_has rfl rfl w_it_Sp w_ml_SG_161 w_im_Sp_has w_se_Sp__Sp_has (by decide +kernel) ⟨(Nat.le_of_ble_eq_true rfl), (Nat.le_of_ble_eq_true rfl)⟩) (u_preV hK hV hn [5, 6] rfl hz 5 rfl rfl) rfl rfl hl.1 rfl (lv_room (Nat.le_of_ble_eq_true rfl)) d_SG_along_24 ⟨(Nat.le_of_ble_eq_true rfl), (Nat.le_of_ble_eq_true rfl)⟩) hV (fun r9 V9 H locs hp hV hle => ?_)
    obtain ⟨rfl, rfl, hz⟩ := hp
    replace hV := uu_same hV hn [5, 6] rfl
    rcases tf (spHas fs y) with d_5 | d_5
    · obtain ⟨j9, y9, z9, g1, g2, e9, hf1, hf2, hF⟩ := spF_yes hSO d_5
      have hV : vS G.1 cls lo s H locs (vU V [(x, eO 7 [.ref rd, .ref ck, .ref pr, .ref tw, .ref dr, .int wr]), (tw, eO 5 [.ref ps, .ref bl, .ref sn, .ref tu]), (bl, eO 4 [.ref b1, .ref b2]), (b1, eI (gI G) 31 fb), (b2, eI (gI G) 31 fc), (sn, eO 4 [.ref s1, .ref s2]), (s1, eI (gI G) 31 fs), (s2, eI (gI G) 31 fd)]) := hV
      refine W.eq (g2 := F0 mi 27 ls [.int 1]) (by rw [d_5]; rfl) ?_
      refine lv_if_ne (tgt := 40) hx hb d_SG_along_27 (by decide) (fun _ => ?_) (fun c_6 => absurd c_6 (by decide))
      have hR8 : aloR (if st = 0 then B else S) y = .inr (nI z9) := by rw [eS]; simp only [aloR, hF]
      subst e9
      refine lv_aload_n hx hb d_SG_along_40 rfl (lv_at hl 0 rfl) ?_
      refine u_get hx hb hts inSp hown hK hV hn 5 rfl rfl 1 (by decide) w_fl_SG_171 rfl rfl d_SG_along_41 ?_
      refine lv_iload_n hx hb d_SG_along_44 rfl (lv_at hl 2 rfl) ?_
      refine u_ialdN hx hb hK hV hn 7 rfl (by omega) (by decide) d_SG_along_45 ?_
      refine x_ret ?_
      refine W.widen (k := 1) (n := 6) (by omega) (by omega) ?_
      exact W.iret (v := fd j9) hx hb hr (v_end hV ⟨_, rfl, by rw [hR8, ← hf2], rfl, hz⟩) hV.2.1.2.2 d_SG_along_46
    · have hR9 : aloR (if st = 0 then B else S) y = .inl 1 := by rw [eS]; simp only [aloR, spF_no hSO d_5]
      have hV : vS G.1 cls lo s H locs (vU V [(x, eO 7 [.ref rd, .ref ck, .ref pr, .ref tw, .ref dr, .int wr]), (tw, eO 5 [.ref ps, .ref bl, .ref sn, .ref tu]), (bl, eO 4 [.ref b1, .ref b2]), (b1, eI (gI G) 31 fb), (b2, eI (gI G) 31 fc), (sn, eO 4 [.ref s1, .ref s2]), (s1, eI (gI G) 31 fs), (s2, eI (gI G) 31 fd)]) := hV
      refine W.eq (g2 := F0 mi 27 ls [.int 0]) (by rw [d_5]; rfl) ?_
      refine lv_if_ne (tgt := 40) hx hb d_SG_along_27 (by decide) (fun c_7 => absurd c_7 (by decide)) (fun _ => ?_)
      exact x_throw (E := "java/lang/IllegalArgumentException") hx hb hlT hown (by decide +kernel) hts xa_99 (List.mem_of_getElem? (i := 9) rfl) hK hV (by rw [hml]; exact hl.1) d_SG_along_30 d_SG_along_33 d_SG_along_34 d_SG_along_36 d_SG_along_39 hno (Nat.le_of_ble_eq_true rfl) (Nat.le_of_ble_eq_true rfl) (Nat.le_of_ble_eq_true rfl) (Nat.le_of_ble_eq_true rfl) hlk (Nat.le_of_ble_eq_true rfl) (Nat.le_of_ble_eq_true rfl) ⟨⟨rfl, hR9⟩, rfl, by rw [hz]⟩

set_option maxHeartbeats 4000000 in
set_option maxRecDepth 100000 in
/-- piece -/
theorem c_SG_piece (l : Launch) (hlT : l.stackTraces = false) (G : Gx) (lo : Nat) (V : Vw) (sz : Nat) (x rd ck pr tw dr : Nat) (wr : Int32) (ps bl sn tu : Nat) (pf : Nat → Option Nat) (Q : Nat → Option PcR) (dy : Nat) (hn : [x, tw, ps].Nodup) (hB : twB G V dy sz pf Q) (hdc : ∀ a ∈ [x, tw, ps], a < dy) (y wh : Int32) : xMet l y_SG_piece ws_SG_piece ({ frames := 6, cells := 1, slots := 6, locals := 130 } : Room) (vPre G lo [.ref x, .int y, .int wh] (vU V [(x, eO 7 [.ref rd, .ref ck, .ref pr, .ref tw, .ref dr, .int wr]), (tw, eO 5 [.ref ps, .ref bl, .ref sn, .ref tu]), (ps, eQ (gP G) 61 pf)]) sz) (xEnd G lo (fun r V' k => ∃ v, r = some (.int v) ∧ pieR Q y wh = .inr v ∧ V' = vU V [(x, eO 7 [.ref rd, .ref ck, .ref pr, .ref tw, .ref dr, .int wr]), (tw, eO 5 [.ref ps, .ref bl, .ref sn, .ref tu]), (ps, eQ (gP G) 61 pf)] ∧ k = sz) (fun E V' k => xK E eIA eIO (pieR Q y wh) ∧ V' = vU V [(x, eO 7 [.ref rd, .ref ck, .ref pr, .ref tw, .ref dr, .int wr]), (tw, eO 5 [.ref ps, .ref bl, .ref sn, .ref tu]), (ps, eQ (gP G) 61 pf)] ∧ k = sz + 1) 1 6) := by
  refine xMet_of (Rn := RSG) (by decide) rfl (Nat.le_of_ble_eq_true rfl) ?_
  intro pg ev s mi args below meth cd hx hb hr hml hlk hno hts hown hK hz hV ls hl
  have hl : lv_has ls 4 [(0, .ref x), (1, .int y), (2, .int wh)] := hl
  have hV0 := hV
  obtain ⟨H, hH⟩ : ∃ H, H = s.heap := ⟨_, rfl⟩
  obtain ⟨locs, hlocs⟩ : ∃ locs : List Loc, locs = [] := ⟨_, rfl⟩
  rw [← hH, ← hlocs]
  rw [← hH] at hz
  replace hV : vS G.1 cls lo s H locs (vU V [(x, eO 7 [.ref rd, .ref ck, .ref pr, .ref tw, .ref dr, .int wr]), (tw, eO 5 [.ref ps, .ref bl, .ref sn, .ref tu]), (ps, eQ (gP G) 61 pf)]) := by rw [hH, hlocs]; exact hV
  clear hH hlocs hV0
  refine lv_aload_n hx hb d_SG_piece_0 rfl (lv_at hl 0 rfl) ?_
  refine u_get hx hb hts inSG hown hK hV hn 0 rfl rfl 3 (by decide) w_fl_SG_33 rfl rfl d_SG_piece_1 ?_
  refine lv_iload_n hx hb d_SG_piece_4 rfl (lv_at hl 1 rfl) ?_
  refine v_call (va_runV (As := [.int y]) (rest := []) ⟨hx, hb, hml, hown, hts⟩ (c_Tw_find l G lo _ _ tw ps bl sn tu pf (nd_sub hn [1, 2] (by decide) rfl) y) (kwV 1 hts w_co_Tw_find rfl rfl w_it_Tw w_ml_SG_95 w_im_Tw_find w_se_Tw__Tw_find (by decide +kernel) ⟨(Nat.le_of_ble_eq_true rfl), (Nat.le_of_ble_eq_true rfl)⟩) (u_preV hK hV hn [1, 2] rfl hz 1 rfl rfl) rfl rfl hl.1 rfl (lv_room (Nat.le_of_ble_eq_true rfl)) d_SG_piece_5 ⟨(Nat.le_of_ble_eq_true rfl), (Nat.le_of_ble_eq_true rfl)⟩) hV (fun r9 V9 H locs hp hV hle => ?_)
  obtain ⟨rfl, rfl, hz⟩ := hp
  replace hV := uu_same hV hn [1, 2] rfl
  have hV : vS G.1 cls lo s H locs (vU V [(x, eO 7 [.ref rd, .ref ck, .ref pr, .ref tw, .ref dr, .int wr]), (tw, eO 5 [.ref ps, .ref bl, .ref sn, .ref tu]), (ps, eQ (gP G) 61 pf)]) := hV
  refine W.eq (g2 := F0 mi 8 ls [va_rf (twFind pf y)]) rfl ?_
  rcases o_1 : twFind pf y with _ | a_1
  · refine W.eq (g2 := F0 mi 8 ls [.null]) rfl ?_
    have hQ := qF_no hB o_1
    have hR9 : pieR Q y wh = .inl 1 := pieR_1 hQ
    refine lv_astore_nN (lv' := [(3, .null), (0, .ref x), (1, .int y), (2, .int wh)]) hx hb d_SG_piece_8 rfl hl (by decide) rfl (fun ls hl => ?_)
    refine lv_aload_nN hx hb d_SG_piece_9 rfl (lv_at hl 0 rfl) ?_
    refine lv_ifnonnullN hx hb d_SG_piece_10 ?_
    exact x_throw (E := "java/lang/IllegalArgumentException") hx hb hlT hown (by decide +kernel) hts xa_99 (List.mem_of_getElem? (i := 4) rfl) hK hV (by rw [hml]; exact hl.1) d_SG_piece_13 d_SG_piece_16 d_SG_piece_17 d_SG_piece_19 d_SG_piece_22 hno (Nat.le_of_ble_eq_true rfl) (Nat.le_of_ble_eq_true rfl) (Nat.le_of_ble_eq_true rfl) (Nat.le_of_ble_eq_true rfl) hlk (Nat.le_of_ble_eq_true rfl) (Nat.le_of_ble_eq_true rfl) ⟨Or.inl ⟨rfl, hR9⟩, rfl, by rw [hz]⟩
  · refine W.eq (g2 := F0 mi 8 ls [.ref a_1]) rfl ?_
    obtain ⟨R, hQ, hp, hdhp⟩ := qF_yes hB o_1
    refine lv_astore_n (lv' := [(3, .ref a_1), (0, .ref x), (1, .int y), (2, .int wh)]) hx hb d_SG_piece_8 rfl hl (by decide) rfl (fun ls hl => ?_)
    refine lv_aload_n hx hb d_SG_piece_9 rfl (lv_at hl 0 rfl) ?_
    refine lv_ifnonnull (tgt := 23) hx hb d_SG_piece_10 (by decide) ?_
    refine lv_iload_n hx hb d_SG_piece_23 rfl (lv_at hl 3 rfl) ?_
    by_cases hw9 : wh < 0 ∨ 7 < wh
    · refine lv_tableOut (tgt := 120) hx hb d_SG_piece_24 (sw_out (b := 7) (by decide) hw9) (by decide) ?_
      have hR9 := pieR_2 hQ hw9
      exact x_throw (E := "java/lang/IndexOutOfBoundsException") hx hb hlT hown (by decide +kernel) hts xa_44 (List.mem_of_getElem? (i := 5) rfl) hK hV (by rw [hml]; exact hl.1) d_SG_piece_120 d_SG_piece_123 d_SG_piece_124 d_SG_piece_126 d_SG_piece_129 hno (Nat.le_of_ble_eq_true rfl) (Nat.le_of_ble_eq_true rfl) (Nat.le_of_ble_eq_true rfl) (Nat.le_of_ble_eq_true rfl) hlk (Nat.le_of_ble_eq_true rfl) (Nat.le_of_ble_eq_true rfl) ⟨Or.inr ⟨rfl, hR9⟩, rfl, by rw [hz]⟩
    · obtain ⟨j9, hj0, hj9, e9⟩ := nI_bd (x := wh) (a := 0) (b := 7) (by decide) (fun z => hw9 (Or.inl z)) (fun z => hw9 (Or.inr z)) (by decide)
      rcases (show j9 = 0 ∨ j9 = 1 ∨ j9 = 2 ∨ j9 = 3 ∨ j9 = 4 ∨ j9 = 5 ∨ j9 = 6 ∨ j9 = 7 by omega) with rfl | rfl | rfl | rfl | rfl | rfl | rfl | rfl <;> subst e9
      · refine lv_tableIn (tgt := 72) (off := 48) hx hb d_SG_piece_24 (by decide) (by decide) (by decide) (by decide) ?_
        have hR8 := pieR_3 (x := y) (j := 0) hQ (by decide)
        refine lv_aload_n hx hb d_SG_piece_72 rfl (lv_at hl 0 rfl) ?_
        refine v_get hx hb hts inPc hown hK.1 hV (pcAt_vU (cs := [(x, eO 7 [.ref rd, .ref ck, .ref pr, .ref tw, .ref dr, .int wr]), (tw, eO 5 [.ref ps, .ref bl, .ref sn, .ref tu]), (ps, eQ (gP G) 61 pf)]) hp hdc hdhp).1 rfl 0 (by decide) (hts _ w_fl_SG_104) (fun _ h9 => h9) rfl d_SG_piece_73 ?_
        refine x_ret ?_
        refine W.widen (k := 1) (n := 6) (by omega) (by omega) ?_
        exact W.iret (v := nI R.1.1) hx hb hr (v_end hV ⟨_, rfl, hR8, rfl, hz⟩) hV.2.1.2.2 d_SG_piece_76
      · refine lv_tableIn (tgt := 77) (off := 53) hx hb d_SG_piece_24 (by decide) (by decide) (by decide) (by decide) ?_
        have hR8 := pieR_3 (x := y) (j := 1) hQ (by decide)
        refine lv_aload_n hx hb d_SG_piece_77 rfl (lv_at hl 0 rfl) ?_
        refine v_get hx hb hts inPc hown hK.1 hV (pcAt_vU (cs := [(x, eO 7 [.ref rd, .ref ck, .ref pr, .ref tw, .ref dr, .int wr]), (tw, eO 5 [.ref ps, .ref bl, .ref sn, .ref tu]), (ps, eQ (gP G) 61 pf)]) hp hdc hdhp).1 rfl 1 (by decide) (hts _ w_fl_SG_109) (fun _ h9 => h9) rfl d_SG_piece_78 ?_
        refine x_ret ?_
        refine W.widen (k := 1) (n := 6) (by omega) (by omega) ?_
        exact W.iret (v := nI R.1.2.2) hx hb hr (v_end hV ⟨_, rfl, hR8, rfl, hz⟩) hV.2.1.2.2 d_SG_piece_81
      · refine lv_tableIn (tgt := 82) (off := 58) hx hb d_SG_piece_24 (by decide) (by decide) (by decide) (by decide) ?_
        have hR8 := pieR_3 (x := y) (j := 2) hQ (by decide)
        refine lv_aload_n hx hb d_SG_piece_82 rfl (lv_at hl 0 rfl) ?_
        refine v_get hx hb hts inPc hown hK.1 hV (pcAt_vU (cs := [(x, eO 7 [.ref rd, .ref ck, .ref pr, .ref tw, .ref dr, .int wr]), (tw, eO 5 [.ref ps, .ref bl, .ref sn, .ref tu]), (ps, eQ (gP G) 61 pf)]) hp hdc hdhp).1 rfl 3 (by decide) (hts _ w_fl_SG_112) (fun _ h9 => h9) rfl d_SG_piece_83 ?_
        refine x_ret ?_
        refine W.widen (k := 1) (n := 6) (by omega) (by omega) ?_
        exact W.iret (v := nI R.2.1.1) hx hb hr (v_end hV ⟨_, rfl, hR8, rfl, hz⟩) hV.2.1.2.2 d_SG_piece_86
      · refine lv_tableIn (tgt := 87) (off := 63) hx hb d_SG_piece_24 (by decide) (by decide) (by decide) (by decide) ?_
        have hR8 := pieR_3 (x := y) (j := 3) hQ (by decide)
        refine lv_aload_n hx hb d_SG_piece_87 rfl (lv_at hl 0 rfl) ?_
        refine v_get hx hb hts inPc hown hK.1 hV (pcAt_vU (cs := [(x, eO 7 [.ref rd, .ref ck, .ref pr, .ref tw, .ref dr, .int wr]), (tw, eO 5 [.ref ps, .ref bl, .ref sn, .ref tu]), (ps, eQ (gP G) 61 pf)]) hp hdc hdhp).1 rfl 4 (by decide) (hts _ w_fl_SG_113) (fun _ h9 => h9) rfl d_SG_piece_88 ?_
        refine x_ret ?_
        refine W.widen (k := 1) (n := 6) (by omega) (by omega) ?_
        exact W.iret (v := nI R.2.1.2.1) hx hb hr (v_end hV ⟨_, rfl, hR8, rfl, hz⟩) hV.2.1.2.2 d_SG_piece_91
      · refine lv_tableIn (tgt := 92) (off := 68) hx hb d_SG_piece_24 (by decide) (by decide) (by decide) (by decide) ?_
        have hR8 := pieR_3 (x := y) (j := 4) hQ (by decide)
        refine lv_aload_n hx hb d_SG_piece_92 rfl (lv_at hl 0 rfl) ?_
        refine v_get hx hb hts inPc hown hK.1 hV (pcAt_vU (cs := [(x, eO 7 [.ref rd, .ref ck, .ref pr, .ref tw, .ref dr, .int wr]), (tw, eO 5 [.ref ps, .ref bl, .ref sn, .ref tu]), (ps, eQ (gP G) 61 pf)]) hp hdc hdhp).1 rfl 2 (by decide) (hts _ w_fl_SG_116) (fun _ h9 => h9) rfl d_SG_piece_93 ?_
        refine lv_if_eq (tgt := 103) hx hb d_SG_piece_96 (by decide) (fun c_2 => ?_) (fun c_2 => ?_)
        · have hb9 : pcW R 4 = 0 := c_2
          refine lv_iconst (v := 0) hx hb d_SG_piece_103 (by decide) ?_
          refine x_ret ?_
          refine W.widen (k := 1) (n := 6) (by omega) (by omega) ?_
          exact W.iret (v := 0) hx hb hr (v_end hV ⟨_, rfl, by rw [hR8, hb9], rfl, hz⟩) hV.2.1.2.2 d_SG_piece_104
        · have hb9 : pcW R 4 = 1 := b2i_1n c_2
          refine lv_iconst (v := 1) hx hb d_SG_piece_99 (by decide) ?_
          refine lv_goto (tgt := 104) hx hb d_SG_piece_100 (by decide) ?_
          refine x_ret ?_
          refine W.widen (k := 1) (n := 6) (by omega) (by omega) ?_
          exact W.iret (v := 1) hx hb hr (v_end hV ⟨_, rfl, by rw [hR8, hb9], rfl, hz⟩) hV.2.1.2.2 d_SG_piece_104
      · refine lv_tableIn (tgt := 105) (off := 81) hx hb d_SG_piece_24 (by decide) (by decide) (by decide) (by decide) ?_
        have hR8 := pieR_3 (x := y) (j := 5) hQ (by decide)
        refine lv_aload_n hx hb d_SG_piece_105 rfl (lv_at hl 0 rfl) ?_
        refine v_get hx hb hts inPc hown hK.1 hV (pcAt_vU (cs := [(x, eO 7 [.ref rd, .ref ck, .ref pr, .ref tw, .ref dr, .int wr]), (tw, eO 5 [.ref ps, .ref bl, .ref sn, .ref tu]), (ps, eQ (gP G) 61 pf)]) hp hdc hdhp).1 rfl 10 (by decide) (hts _ w_fl_SG_119) (fun _ h9 => h9) rfl d_SG_piece_106 ?_
        refine x_ret ?_
        refine W.widen (k := 1) (n := 6) (by omega) (by omega) ?_
        exact W.iret (v := nI R.2.2.2.1.1) hx hb hr (v_end hV ⟨_, rfl, hR8, rfl, hz⟩) hV.2.1.2.2 d_SG_piece_109
      · refine lv_tableIn (tgt := 110) (off := 86) hx hb d_SG_piece_24 (by decide) (by decide) (by decide) (by decide) ?_
        have hR8 := pieR_3 (x := y) (j := 6) hQ (by decide)
        refine lv_aload_n hx hb d_SG_piece_110 rfl (lv_at hl 0 rfl) ?_
        refine v_get hx hb hts inPc hown hK.1 hV (pcAt_vU (cs := [(x, eO 7 [.ref rd, .ref ck, .ref pr, .ref tw, .ref dr, .int wr]), (tw, eO 5 [.ref ps, .ref bl, .ref sn, .ref tu]), (ps, eQ (gP G) 61 pf)]) hp hdc hdhp).1 rfl 11 (by decide) (hts _ w_fl_SG_122) (fun _ h9 => h9) rfl d_SG_piece_111 ?_
        refine x_ret ?_
        refine W.widen (k := 1) (n := 6) (by omega) (by omega) ?_
        exact W.iret (v := nI R.2.2.2.1.2) hx hb hr (v_end hV ⟨_, rfl, hR8, rfl, hz⟩) hV.2.1.2.2 d_SG_piece_114
      · refine lv_tableIn (tgt := 115) (off := 91) hx hb d_SG_piece_24 (by decide) (by decide) (by decide) (by decide) ?_
        have hR8 := pieR_3 (x := y) (j := 7) hQ (by decide)
        refine lv_aload_n hx hb d_SG_piece_115 rfl (lv_at hl 0 rfl) ?_
        refine v_get hx hb hts inPc hown hK.1 hV (pcAt_vU (cs := [(x, eO 7 [.ref rd, .ref ck, .ref pr, .ref tw, .ref dr, .int wr]), (tw, eO 5 [.ref ps, .ref bl, .ref sn, .ref tu]), (ps, eQ (gP G) 61 pf)]) hp hdc hdhp).1 rfl 14 (by decide) (hts _ w_fl_SG_125) (fun _ h9 => h9) rfl d_SG_piece_116 ?_
        refine x_ret ?_
        refine W.widen (k := 1) (n := 6) (by omega) (by omega) ?_
        exact W.iret (v := nmA R.2.2.2.2) hx hb hr (v_end hV ⟨_, rfl, hR8, rfl, hz⟩) hV.2.1.2.2 d_SG_piece_119

set_option maxHeartbeats 4000000 in
set_option maxRecDepth 100000 in
/-- speed -/
theorem c_SG_speed (l : Launch) (hlT : l.stackTraces = false) (G : Gx) (lo : Nat) (V : Vw) (sz : Nat) (x rd ck pr tw dr : Nat) (wr : Int32) (ps bl sn tu : Nat) (pf : Nat → Option Nat) (Q : Nat → Option PcR) (dy : Nat) (hn : [x, tw, ps].Nodup) (hB : twB G V dy sz pf Q) (hdc : ∀ a ∈ [x, tw, ps], a < dy) (y h : Int32) : xMet l y_SG_speed ws_SG_speed ({ frames := 6, cells := 1, slots := 6, locals := 130 } : Room) (vPre G lo [.ref x, .int y, .int h] (vU V [(x, eO 7 [.ref rd, .ref ck, .ref pr, .ref tw, .ref dr, .int wr]), (tw, eO 5 [.ref ps, .ref bl, .ref sn, .ref tu]), (ps, eQ (gP G) 61 pf)]) sz) (xEnd G lo (fun r V' k => ∃ v, r = some (.int v) ∧ speR Q y h = .inr v ∧ V' = vU V [(x, eO 7 [.ref rd, .ref ck, .ref pr, .ref tw, .ref dr, .int wr]), (tw, eO 5 [.ref ps, .ref bl, .ref sn, .ref tu]), (ps, eQ (gP G) 61 pf)] ∧ k = sz) (fun E V' k => xK E eIA eIO (speR Q y h) ∧ V' = vU V [(x, eO 7 [.ref rd, .ref ck, .ref pr, .ref tw, .ref dr, .int wr]), (tw, eO 5 [.ref ps, .ref bl, .ref sn, .ref tu]), (ps, eQ (gP G) 61 pf)] ∧ k = sz + 1) 1 6) := by
  refine xMet_of (Rn := RSG) (by decide) rfl (Nat.le_of_ble_eq_true rfl) ?_
  intro pg ev s mi args below meth cd hx hb hr hml hlk hno hts hown hK hz hV ls hl
  have hl : lv_has ls 4 [(0, .ref x), (1, .int y), (2, .int h)] := hl
  have hV0 := hV
  obtain ⟨H, hH⟩ : ∃ H, H = s.heap := ⟨_, rfl⟩
  obtain ⟨locs, hlocs⟩ : ∃ locs : List Loc, locs = [] := ⟨_, rfl⟩
  rw [← hH, ← hlocs]
  rw [← hH] at hz
  replace hV : vS G.1 cls lo s H locs (vU V [(x, eO 7 [.ref rd, .ref ck, .ref pr, .ref tw, .ref dr, .int wr]), (tw, eO 5 [.ref ps, .ref bl, .ref sn, .ref tu]), (ps, eQ (gP G) 61 pf)]) := by rw [hH, hlocs]; exact hV
  clear hH hlocs hV0
  refine lv_aload_n hx hb d_SG_speed_0 rfl (lv_at hl 0 rfl) ?_
  refine u_get hx hb hts inSG hown hK hV hn 0 rfl rfl 3 (by decide) w_fl_SG_33 rfl rfl d_SG_speed_1 ?_
  refine lv_iload_n hx hb d_SG_speed_4 rfl (lv_at hl 1 rfl) ?_
  refine v_call (va_runV (As := [.int y]) (rest := []) ⟨hx, hb, hml, hown, hts⟩ (c_Tw_find l G lo _ _ tw ps bl sn tu pf (nd_sub hn [1, 2] (by decide) rfl) y) (kwV 1 hts w_co_Tw_find rfl rfl w_it_Tw w_ml_SG_95 w_im_Tw_find w_se_Tw__Tw_find (by decide +kernel) ⟨(Nat.le_of_ble_eq_true rfl), (Nat.le_of_ble_eq_true rfl)⟩) (u_preV hK hV hn [1, 2] rfl hz 1 rfl rfl) rfl rfl hl.1 rfl (lv_room (Nat.le_of_ble_eq_true rfl)) d_SG_speed_5 ⟨(Nat.le_of_ble_eq_true rfl), (Nat.le_of_ble_eq_true rfl)⟩) hV (fun r9 V9 H locs hp hV hle => ?_)
  obtain ⟨rfl, rfl, hz⟩ := hp
  replace hV := uu_same hV hn [1, 2] rfl
  have hV : vS G.1 cls lo s H locs (vU V [(x, eO 7 [.ref rd, .ref ck, .ref pr, .ref tw, .ref dr, .int wr]), (tw, eO 5 [.ref ps, .ref bl, .ref sn, .ref tu]), (ps, eQ (gP G) 61 pf)]) := hV
  refine W.eq (g2 := F0 mi 8 ls [va_rf (twFind pf y)]) rfl ?_
  rcases o_1 : twFind pf y with _ | a_1
  · refine W.eq (g2 := F0 mi 8 ls [.null]) rfl ?_
    have hQ := qF_no hB o_1
    have hR9 : speR Q y h = .inl 1 := speR_1 hQ
    refine lv_astore_nN (lv' := [(3, .null), (0, .ref x), (1, .int y), (2, .int h)]) hx hb d_SG_speed_8 rfl hl (by decide) rfl (fun ls hl => ?_)
    refine lv_aload_nN hx hb d_SG_speed_9 rfl (lv_at hl 0 rfl) ?_
    refine lv_ifnonnullN hx hb d_SG_speed_10 ?_
    exact x_throw (E := "java/lang/IllegalArgumentException") hx hb hlT hown (by decide +kernel) hts xa_99 (List.mem_of_getElem? (i := 4) rfl) hK hV (by rw [hml]; exact hl.1) d_SG_speed_13 d_SG_speed_16 d_SG_speed_17 d_SG_speed_19 d_SG_speed_22 hno (Nat.le_of_ble_eq_true rfl) (Nat.le_of_ble_eq_true rfl) (Nat.le_of_ble_eq_true rfl) (Nat.le_of_ble_eq_true rfl) hlk (Nat.le_of_ble_eq_true rfl) (Nat.le_of_ble_eq_true rfl) ⟨Or.inl ⟨rfl, hR9⟩, rfl, by rw [hz]⟩
  · refine W.eq (g2 := F0 mi 8 ls [.ref a_1]) rfl ?_
    obtain ⟨R, hQ, hp, hdhp⟩ := qF_yes hB o_1
    refine lv_astore_n (lv' := [(3, .ref a_1), (0, .ref x), (1, .int y), (2, .int h)]) hx hb d_SG_speed_8 rfl hl (by decide) rfl (fun ls hl => ?_)
    refine lv_aload_n hx hb d_SG_speed_9 rfl (lv_at hl 0 rfl) ?_
    refine lv_ifnonnull (tgt := 23) hx hb d_SG_speed_10 (by decide) ?_
    refine lv_iload_n hx hb d_SG_speed_23 rfl (lv_at hl 3 rfl) ?_
    refine lv_if_lt (tgt := 33) hx hb d_SG_speed_24 (by decide) (fun c_2 => ?_) (fun c_2 => ?_)
    · have hR9 := speR_2 (x := y) hQ (Or.inl c_2)
      exact x_throw (E := "java/lang/IndexOutOfBoundsException") hx hb hlT hown (by decide +kernel) hts xa_44 (List.mem_of_getElem? (i := 6) rfl) hK hV (by rw [hml]; exact hl.1) d_SG_speed_33 d_SG_speed_36 d_SG_speed_37 d_SG_speed_39 d_SG_speed_42 hno (Nat.le_of_ble_eq_true rfl) (Nat.le_of_ble_eq_true rfl) (Nat.le_of_ble_eq_true rfl) (Nat.le_of_ble_eq_true rfl) hlk (Nat.le_of_ble_eq_true rfl) (Nat.le_of_ble_eq_true rfl) ⟨Or.inr ⟨rfl, hR9⟩, rfl, by rw [hz]⟩
    · refine lv_iload_n hx hb d_SG_speed_27 rfl (lv_at hl 3 rfl) ?_
      refine lv_bipush (v := 24) hx hb d_SG_speed_28 (by decide) ?_
      refine lv_icmp_lt (tgt := 43) hx hb d_SG_speed_30 (by decide) (fun c_3 => ?_) (fun c_3 => ?_)
      · obtain ⟨j9, hj0, hj9, e9⟩ := nI_bd (x := h) (a := 0) (b := 23) (by decide) c_2 (i_24 c_3) (by decide)
        subst e9
        have hR8 := speR_3 (x := y) hQ hj9
        refine lv_aload_n hx hb d_SG_speed_43 rfl (lv_at hl 0 rfl) ?_
        refine lv_iload_n hx hb d_SG_speed_44 rfl (lv_at hl 3 rfl) ?_
        obtain ⟨q1, ⟨g1, g2, g3, k1, k2, k3, gO⟩, q3⟩ := pcAt_vU (cs := [(x, eO 7 [.ref rd, .ref ck, .ref pr, .ref tw, .ref dr, .int wr]), (tw, eO 5 [.ref ps, .ref bl, .ref sn, .ref tu]), (ps, eQ (gP G) 61 pf)]) hp hdc hdhp
        refine v_call (va_runV (As := [.int (nI j9)]) (rest := []) ⟨hx, hb, hml, hown, hts⟩ (c_Pc_speedAt l G lo _ _ a_1 (a_1 + 1) (a_1 + 2) (a_1 + 3) R q3 g1 g2 g3 gO (by simp) j9 (by omega)) (kwV 1 hts w_co_Pc_speedAt rfl rfl w_it_Pc w_ml_SG_132 w_im_Pc_speedAt w_se_Pc__Pc_speedAt (by decide +kernel) ⟨(Nat.le_of_ble_eq_true rfl), (Nat.le_of_ble_eq_true rfl)⟩) (v_preV hK hV (vU_all (fa4 q1 k1 k2 k3)) hz q1 rfl) rfl rfl hl.1 rfl (lv_room (Nat.le_of_ble_eq_true rfl)) d_SG_speed_45 ⟨(Nat.le_of_ble_eq_true rfl), (Nat.le_of_ble_eq_true rfl)⟩) hV (fun r9 V9 H locs hp hV hle => ?_)
        obtain ⟨rfl, rfl, hz⟩ := hp
        replace hV := vS_all (fa4 q1 k1 k2 k3) hV
        have hV : vS G.1 cls lo s H locs (vU V [(x, eO 7 [.ref rd, .ref ck, .ref pr, .ref tw, .ref dr, .int wr]), (tw, eO 5 [.ref ps, .ref bl, .ref sn, .ref tu]), (ps, eQ (gP G) 61 pf)]) := hV
        refine W.eq (g2 := F0 mi 48 ls [.int (nI (spd R.2.1.2.2 R.2.2.1 j9))]) rfl ?_
        refine x_ret ?_
        refine W.widen (k := 1) (n := 6) (by omega) (by omega) ?_
        exact W.iret (v := nI (spd R.2.1.2.2 R.2.2.1 j9)) hx hb hr (v_end hV ⟨_, rfl, hR8, rfl, hz⟩) hV.2.1.2.2 d_SG_speed_48
      · have hR9 := speR_2 (x := y) hQ (Or.inr (i_23 c_3))
        exact x_throw (E := "java/lang/IndexOutOfBoundsException") hx hb hlT hown (by decide +kernel) hts xa_44 (List.mem_of_getElem? (i := 6) rfl) hK hV (by rw [hml]; exact hl.1) d_SG_speed_33 d_SG_speed_36 d_SG_speed_37 d_SG_speed_39 d_SG_speed_42 hno (Nat.le_of_ble_eq_true rfl) (Nat.le_of_ble_eq_true rfl) (Nat.le_of_ble_eq_true rfl) (Nat.le_of_ble_eq_true rfl) hlk (Nat.le_of_ble_eq_true rfl) (Nat.le_of_ble_eq_true rfl) ⟨Or.inr ⟨rfl, hR9⟩, rfl, by rw [hz]⟩

set_option maxHeartbeats 4000000 in
set_option maxRecDepth 100000 in
/-- name -/
theorem c_SG_name (l : Launch) (hlT : l.stackTraces = false) (G : Gx) (lo : Nat) (V : Vw) (sz : Nat) (x rd ck pr tw dr : Nat) (wr : Int32) (ps bl sn tu : Nat) (pf : Nat → Option Nat) (Q : Nat → Option PcR) (dy : Nat) (hn : [x, tw, ps].Nodup) (hB : twB G V dy sz pf Q) (hdc : ∀ a ∈ [x, tw, ps], a < dy) (y i : Int32) : xMet l y_SG_name ws_SG_name ({ frames := 6, cells := 1, slots := 6, locals := 130 } : Room) (vPre G lo [.ref x, .int y, .int i] (vU V [(x, eO 7 [.ref rd, .ref ck, .ref pr, .ref tw, .ref dr, .int wr]), (tw, eO 5 [.ref ps, .ref bl, .ref sn, .ref tu]), (ps, eQ (gP G) 61 pf)]) sz) (xEnd G lo (fun r V' k => ∃ v, r = some (.int v) ∧ nmeR Q y i = .inr v ∧ V' = vU V [(x, eO 7 [.ref rd, .ref ck, .ref pr, .ref tw, .ref dr, .int wr]), (tw, eO 5 [.ref ps, .ref bl, .ref sn, .ref tu]), (ps, eQ (gP G) 61 pf)] ∧ k = sz) (fun E V' k => xK E eIA eIO (nmeR Q y i) ∧ V' = vU V [(x, eO 7 [.ref rd, .ref ck, .ref pr, .ref tw, .ref dr, .int wr]), (tw, eO 5 [.ref ps, .ref bl, .ref sn, .ref tu]), (ps, eQ (gP G) 61 pf)] ∧ k = sz + 1) 1 6) := by
  refine xMet_of (Rn := RSG) (by decide) rfl (Nat.le_of_ble_eq_true rfl) ?_
  intro pg ev s mi args below meth cd hx hb hr hml hlk hno hts hown hK hz hV ls hl
  have hl : lv_has ls 4 [(0, .ref x), (1, .int y), (2, .int i)] := hl
  have hV0 := hV
  obtain ⟨H, hH⟩ : ∃ H, H = s.heap := ⟨_, rfl⟩
  obtain ⟨locs, hlocs⟩ : ∃ locs : List Loc, locs = [] := ⟨_, rfl⟩
  rw [← hH, ← hlocs]
  rw [← hH] at hz
  replace hV : vS G.1 cls lo s H locs (vU V [(x, eO 7 [.ref rd, .ref ck, .ref pr, .ref tw, .ref dr, .int wr]), (tw, eO 5 [.ref ps, .ref bl, .ref sn, .ref tu]), (ps, eQ (gP G) 61 pf)]) := by rw [hH, hlocs]; exact hV
  clear hH hlocs hV0
  refine lv_aload_n hx hb d_SG_name_0 rfl (lv_at hl 0 rfl) ?_
  refine u_get hx hb hts inSG hown hK hV hn 0 rfl rfl 3 (by decide) w_fl_SG_33 rfl rfl d_SG_name_1 ?_
  refine lv_iload_n hx hb d_SG_name_4 rfl (lv_at hl 1 rfl) ?_
  refine v_call (va_runV (As := [.int y]) (rest := []) ⟨hx, hb, hml, hown, hts⟩ (c_Tw_find l G lo _ _ tw ps bl sn tu pf (nd_sub hn [1, 2] (by decide) rfl) y) (kwV 1 hts w_co_Tw_find rfl rfl w_it_Tw w_ml_SG_95 w_im_Tw_find w_se_Tw__Tw_find (by decide +kernel) ⟨(Nat.le_of_ble_eq_true rfl), (Nat.le_of_ble_eq_true rfl)⟩) (u_preV hK hV hn [1, 2] rfl hz 1 rfl rfl) rfl rfl hl.1 rfl (lv_room (Nat.le_of_ble_eq_true rfl)) d_SG_name_5 ⟨(Nat.le_of_ble_eq_true rfl), (Nat.le_of_ble_eq_true rfl)⟩) hV (fun r9 V9 H locs hp hV hle => ?_)
  obtain ⟨rfl, rfl, hz⟩ := hp
  replace hV := uu_same hV hn [1, 2] rfl
  have hV : vS G.1 cls lo s H locs (vU V [(x, eO 7 [.ref rd, .ref ck, .ref pr, .ref tw, .ref dr, .int wr]), (tw, eO 5 [.ref ps, .ref bl, .ref sn, .ref tu]), (ps, eQ (gP G) 61 pf)]) := hV
  refine W.eq (g2 := F0 mi 8 ls [va_rf (twFind pf y)]) rfl ?_
  rcases o_1 : twFind pf y with _ | a_1
  · refine W.eq (g2 := F0 mi 8 ls [.null]) rfl ?_
    have hQ := qF_no hB o_1
    have hR9 : nmeR Q y i = .inl 1 := nmeR_1 hQ
    refine lv_astore_nN (lv' := [(3, .null), (0, .ref x), (1, .int y), (2, .int i)]) hx hb d_SG_name_8 rfl hl (by decide) rfl (fun ls hl => ?_)
    refine lv_aload_nN hx hb d_SG_name_9 rfl (lv_at hl 0 rfl) ?_
    refine lv_ifnonnullN hx hb d_SG_name_10 ?_
    exact x_throw (E := "java/lang/IllegalArgumentException") hx hb hlT hown (by decide +kernel) hts xa_99 (List.mem_of_getElem? (i := 4) rfl) hK hV (by rw [hml]; exact hl.1) d_SG_name_13 d_SG_name_16 d_SG_name_17 d_SG_name_19 d_SG_name_22 hno (Nat.le_of_ble_eq_true rfl) (Nat.le_of_ble_eq_true rfl) (Nat.le_of_ble_eq_true rfl) (Nat.le_of_ble_eq_true rfl) hlk (Nat.le_of_ble_eq_true rfl) (Nat.le_of_ble_eq_true rfl) ⟨Or.inl ⟨rfl, hR9⟩, rfl, by rw [hz]⟩
  · refine W.eq (g2 := F0 mi 8 ls [.ref a_1]) rfl ?_
    obtain ⟨R, hQ, hp, hdhp⟩ := qF_yes hB o_1
    refine lv_astore_n (lv' := [(3, .ref a_1), (0, .ref x), (1, .int y), (2, .int i)]) hx hb d_SG_name_8 rfl hl (by decide) rfl (fun ls hl => ?_)
    refine lv_aload_n hx hb d_SG_name_9 rfl (lv_at hl 0 rfl) ?_
    refine lv_ifnonnull (tgt := 23) hx hb d_SG_name_10 (by decide) ?_
    refine lv_iload_n hx hb d_SG_name_23 rfl (lv_at hl 3 rfl) ?_
    refine lv_if_ge (tgt := 37) hx hb d_SG_name_24 (by decide) (fun c_2 => ?_) (fun c_2 => ?_)
    · have hR8 := nmeR_3 (x := y) hQ (Int32.not_lt.mpr c_2)
      refine lv_aload_n hx hb d_SG_name_37 rfl (lv_at hl 0 rfl) ?_
      refine lv_iload_n hx hb d_SG_name_38 rfl (lv_at hl 3 rfl) ?_
      refine v_call (va_runV (As := [.int i]) (rest := []) ⟨hx, hb, hml, hown, hts⟩ (c_Pc_letter l G lo _ _ a_1 _ _ _ R hp.2.2 i) (kwV 1 hts w_co_Pc_letter rfl rfl w_it_Pc w_ml_SG_138 w_im_Pc_letter w_se_Pc__Pc_letter (by decide +kernel) ⟨(Nat.le_of_ble_eq_true rfl), (Nat.le_of_ble_eq_true rfl)⟩) (v_preV hK hV (vU_all (fa1 (pcAt_vU (cs := [(x, eO 7 [.ref rd, .ref ck, .ref pr, .ref tw, .ref dr, .int wr]), (tw, eO 5 [.ref ps, .ref bl, .ref sn, .ref tu]), (ps, eQ (gP G) 61 pf)]) hp hdc hdhp).1)) hz (pcAt_vU (cs := [(x, eO 7 [.ref rd, .ref ck, .ref pr, .ref tw, .ref dr, .int wr]), (tw, eO 5 [.ref ps, .ref bl, .ref sn, .ref tu]), (ps, eQ (gP G) 61 pf)]) hp hdc hdhp).1 rfl) rfl rfl hl.1 rfl (lv_room (Nat.le_of_ble_eq_true rfl)) d_SG_name_39 ⟨(Nat.le_of_ble_eq_true rfl), (Nat.le_of_ble_eq_true rfl)⟩) hV (fun r9 V9 H locs hp hV hle => ?_)
      obtain ⟨rfl, rfl, hz⟩ := hp
      replace hV := vS_all (fa1 (pcAt_vU (cs := [(x, eO 7 [.ref rd, .ref ck, .ref pr, .ref tw, .ref dr, .int wr]), (tw, eO 5 [.ref ps, .ref bl, .ref sn, .ref tu]), (ps, eQ (gP G) 61 pf)]) hp hdc hdhp).1) hV
      have hV : vS G.1 cls lo s H locs (vU V [(x, eO 7 [.ref rd, .ref ck, .ref pr, .ref tw, .ref dr, .int wr]), (tw, eO 5 [.ref ps, .ref bl, .ref sn, .ref tu]), (ps, eQ (gP G) 61 pf)]) := hV
      refine W.eq (g2 := F0 mi 42 ls [.int (letC (nmL R.2.2.2.2) i)]) rfl ?_
      refine x_ret ?_
      refine W.widen (k := 1) (n := 6) (by omega) (by omega) ?_
      exact W.iret (v := letC (nmL R.2.2.2.2) i) hx hb hr (v_end hV ⟨_, rfl, hR8, rfl, hz⟩) hV.2.1.2.2 d_SG_name_42
    · have hR9 := nmeR_2 (x := y) hQ (Int32.not_le.mp c_2)
      exact x_throw (E := "java/lang/IndexOutOfBoundsException") hx hb hlT hown (by decide +kernel) hts xa_44 (List.mem_of_getElem? (i := 7) rfl) hK hV (by rw [hml]; exact hl.1) d_SG_name_27 d_SG_name_30 d_SG_name_31 d_SG_name_33 d_SG_name_36 hno (Nat.le_of_ble_eq_true rfl) (Nat.le_of_ble_eq_true rfl) (Nat.le_of_ble_eq_true rfl) (Nat.le_of_ble_eq_true rfl) hlk (Nat.le_of_ble_eq_true rfl) (Nat.le_of_ble_eq_true rfl) ⟨Or.inr ⟨rfl, hR9⟩, rfl, by rw [hz]⟩

set_option maxHeartbeats 4000000 in
set_option maxRecDepth 100000 in
/-- fault -/
theorem c_SG_fault (l : Launch) (hlT : l.stackTraces = false) (G : Gx) (lo : Nat) (V : Vw) (sz : Nat) (x rd ck pr tw dr : Nat) (wr : Int32) (kk kn : Nat) (fk fn : Nat → Int32) (F : List Two) (hn : [x, ck, kk, kn].Nodup) (hO : ckOk fk fn F) (hF : F.length ≤ 250) (i wh : Int32) : xMet l y_SG_fault ws_SG_fault ({ frames := 6, cells := 1, slots := 6, locals := 130 } : Room) (vPre G lo [.ref x, .int i, .int wh] (vU V [(x, eO 7 [.ref rd, .ref ck, .ref pr, .ref tw, .ref dr, .int wr]), (ck, eO 0 [.ref kk, .ref kn, .int (nI F.length)]), (kk, eI (gI G) 250 fk), (kn, eI (gI G) 250 fn)]) sz) (xEnd G lo (fun r V' k => ∃ v, r = some (.int v) ∧ fauR F i wh = .inr v ∧ V' = vU V [(x, eO 7 [.ref rd, .ref ck, .ref pr, .ref tw, .ref dr, .int wr]), (ck, eO 0 [.ref kk, .ref kn, .int (nI F.length)]), (kk, eI (gI G) 250 fk), (kn, eI (gI G) 250 fn)] ∧ k = sz) (fun E V' k => xK E eIA eIO (fauR F i wh) ∧ V' = vU V [(x, eO 7 [.ref rd, .ref ck, .ref pr, .ref tw, .ref dr, .int wr]), (ck, eO 0 [.ref kk, .ref kn, .int (nI F.length)]), (kk, eI (gI G) 250 fk), (kn, eI (gI G) 250 fn)] ∧ k = sz + 1) 1 6) := by
  refine xMet_of (Rn := RSG) (by decide) rfl (Nat.le_of_ble_eq_true rfl) ?_
  intro pg ev s mi args below meth cd hx hb hr hml hlk hno hts hown hK hz hV ls hl
  have hl : lv_has ls 3 [(0, .ref x), (1, .int i), (2, .int wh)] := hl
  have hV0 := hV
  obtain ⟨H, hH⟩ : ∃ H, H = s.heap := ⟨_, rfl⟩
  obtain ⟨locs, hlocs⟩ : ∃ locs : List Loc, locs = [] := ⟨_, rfl⟩
  rw [← hH, ← hlocs]
  rw [← hH] at hz
  replace hV : vS G.1 cls lo s H locs (vU V [(x, eO 7 [.ref rd, .ref ck, .ref pr, .ref tw, .ref dr, .int wr]), (ck, eO 0 [.ref kk, .ref kn, .int (nI F.length)]), (kk, eI (gI G) 250 fk), (kn, eI (gI G) 250 fn)]) := by rw [hH, hlocs]; exact hV
  clear hH hlocs hV0
  refine lv_iload_n hx hb d_SG_fault_0 rfl (lv_at hl 1 rfl) ?_
  refine lv_if_lt (tgt := 15) hx hb d_SG_fault_1 (by decide) (fun c_1 => ?_) (fun c_1 => ?_)
  · have hR9 : fauR F i wh = .inl 1 := if_pos (Or.inl c_1)
    exact x_throw (E := "java/lang/IllegalArgumentException") hx hb hlT hown (by decide +kernel) hts xa_99 (List.mem_of_getElem? (i := 10) rfl) hK hV (by rw [hml]; exact hl.1) d_SG_fault_15 d_SG_fault_18 d_SG_fault_19 d_SG_fault_21 d_SG_fault_24 hno (Nat.le_of_ble_eq_true rfl) (Nat.le_of_ble_eq_true rfl) (Nat.le_of_ble_eq_true rfl) (Nat.le_of_ble_eq_true rfl) hlk (Nat.le_of_ble_eq_true rfl) (Nat.le_of_ble_eq_true rfl) ⟨Or.inl ⟨rfl, hR9⟩, rfl, by rw [hz]⟩
  · refine lv_iload_n hx hb d_SG_fault_4 rfl (lv_at hl 1 rfl) ?_
    refine lv_aload_n hx hb d_SG_fault_5 rfl (lv_at hl 0 rfl) ?_
    refine u_get hx hb hts inSG hown hK hV hn 0 rfl rfl 1 (by decide) w_fl_SG_19 rfl rfl d_SG_fault_6 ?_
    refine u_get hx hb hts inCk hown hK hV hn 1 rfl rfl 2 (by decide) w_fl_SG_177 rfl rfl d_SG_fault_9 ?_
    refine lv_icmp_lt (tgt := 25) hx hb d_SG_fault_12 (by decide) (fun c_2 => ?_) (fun c_2 => ?_)
    · have hi9 : ¬ (i < 0 ∨ nI F.length ≤ i) := fun z => z.elim c_1 (fun z => absurd c_2 (Int32.not_lt.mpr z))
      obtain ⟨j9, hj9, e9⟩ := i_neg c_1
      subst e9
      have hj8 : j9 < F.length := (nI_ltI hj9 (by omega)).mp c_2
      obtain ⟨o1, o2⟩ := hO j9 hj8
      refine lv_iload_n hx hb d_SG_fault_25 rfl (lv_at hl 2 rfl) ?_
      refine lv_if_eq (tgt := 44) hx hb d_SG_fault_26 (by decide) (fun c_3 => ?_) (fun c_3 => ?_)
      · have hw9 : ¬ (wh ≠ 0 ∧ wh ≠ 1) := fun z => z.1 c_3
        refine lv_iload_n hx hb d_SG_fault_44 rfl (lv_at hl 2 rfl) ?_
        refine lv_if_ne (tgt := 60) hx hb d_SG_fault_45 (by decide) (fun c_4 => ?_) (fun c_4 => ?_)
        · have hR8 : fauR F (nI j9) wh = .inr (nI (F.getD j9 z2).2) := by unfold fauR; rw [if_neg hi9, if_neg hw9, if_neg c_4, nI_clamp hj9]
          rw [← o2] at hR8
          refine lv_aload_n hx hb d_SG_fault_60 rfl (lv_at hl 0 rfl) ?_
          refine u_get hx hb hts inSG hown hK hV hn 0 rfl rfl 1 (by decide) w_fl_SG_19 rfl rfl d_SG_fault_61 ?_
          refine u_get hx hb hts inCk hown hK hV hn 1 rfl rfl 1 (by decide) w_fl_SG_183 rfl rfl d_SG_fault_64 ?_
          refine lv_iload_n hx hb d_SG_fault_67 rfl (lv_at hl 1 rfl) ?_
          refine u_ialdN hx hb hK hV hn 3 rfl (by omega) (by decide) d_SG_fault_68 ?_
          refine x_ret ?_
          refine W.widen (k := 1) (n := 6) (by omega) (by omega) ?_
          exact W.iret (v := fn j9) hx hb hr (v_end hV ⟨_, rfl, hR8, rfl, hz⟩) hV.2.1.2.2 d_SG_fault_69
        · have hR8 : fauR F (nI j9) wh = .inr (nI (F.getD j9 z2).1) := by unfold fauR; rw [if_neg hi9, if_neg hw9, if_pos c_4, nI_clamp hj9]
          rw [← o1] at hR8
          refine lv_aload_n hx hb d_SG_fault_48 rfl (lv_at hl 0 rfl) ?_
          refine u_get hx hb hts inSG hown hK hV hn 0 rfl rfl 1 (by decide) w_fl_SG_19 rfl rfl d_SG_fault_49 ?_
          refine u_get hx hb hts inCk hown hK hV hn 1 rfl rfl 0 (by decide) w_fl_SG_180 rfl rfl d_SG_fault_52 ?_
          refine lv_iload_n hx hb d_SG_fault_55 rfl (lv_at hl 1 rfl) ?_
          refine u_ialdN hx hb hK hV hn 2 rfl (by omega) (by decide) d_SG_fault_56 ?_
          refine lv_goto (tgt := 69) hx hb d_SG_fault_57 (by decide) ?_
          refine x_ret ?_
          refine W.widen (k := 1) (n := 6) (by omega) (by omega) ?_
          exact W.iret (v := fk j9) hx hb hr (v_end hV ⟨_, rfl, hR8, rfl, hz⟩) hV.2.1.2.2 d_SG_fault_69
      · refine lv_iload_n hx hb d_SG_fault_29 rfl (lv_at hl 2 rfl) ?_
        refine lv_iconst (v := 1) hx hb d_SG_fault_30 (by decide) ?_
        refine lv_icmp_eq (tgt := 44) hx hb d_SG_fault_31 (by decide) (fun c_5 => ?_) (fun c_5 => ?_)
        · have hw9 : ¬ (wh ≠ 0 ∧ wh ≠ 1) := fun z => z.2 c_5
          refine lv_iload_n hx hb d_SG_fault_44 rfl (lv_at hl 2 rfl) ?_
          refine lv_if_ne (tgt := 60) hx hb d_SG_fault_45 (by decide) (fun c_6 => ?_) (fun c_6 => ?_)
          · have hR8 : fauR F (nI j9) wh = .inr (nI (F.getD j9 z2).2) := by unfold fauR; rw [if_neg hi9, if_neg hw9, if_neg c_6, nI_clamp hj9]
            rw [← o2] at hR8
            refine lv_aload_n hx hb d_SG_fault_60 rfl (lv_at hl 0 rfl) ?_
            refine u_get hx hb hts inSG hown hK hV hn 0 rfl rfl 1 (by decide) w_fl_SG_19 rfl rfl d_SG_fault_61 ?_
            refine u_get hx hb hts inCk hown hK hV hn 1 rfl rfl 1 (by decide) w_fl_SG_183 rfl rfl d_SG_fault_64 ?_
            refine lv_iload_n hx hb d_SG_fault_67 rfl (lv_at hl 1 rfl) ?_
            refine u_ialdN hx hb hK hV hn 3 rfl (by omega) (by decide) d_SG_fault_68 ?_
            refine x_ret ?_
            refine W.widen (k := 1) (n := 6) (by omega) (by omega) ?_
            exact W.iret (v := fn j9) hx hb hr (v_end hV ⟨_, rfl, hR8, rfl, hz⟩) hV.2.1.2.2 d_SG_fault_69
          · have hR8 : fauR F (nI j9) wh = .inr (nI (F.getD j9 z2).1) := by unfold fauR; rw [if_neg hi9, if_neg hw9, if_pos c_6, nI_clamp hj9]
            rw [← o1] at hR8
            refine lv_aload_n hx hb d_SG_fault_48 rfl (lv_at hl 0 rfl) ?_
            refine u_get hx hb hts inSG hown hK hV hn 0 rfl rfl 1 (by decide) w_fl_SG_19 rfl rfl d_SG_fault_49 ?_
            refine u_get hx hb hts inCk hown hK hV hn 1 rfl rfl 0 (by decide) w_fl_SG_180 rfl rfl d_SG_fault_52 ?_
            refine lv_iload_n hx hb d_SG_fault_55 rfl (lv_at hl 1 rfl) ?_
            refine u_ialdN hx hb hK hV hn 2 rfl (by omega) (by decide) d_SG_fault_56 ?_
            refine lv_goto (tgt := 69) hx hb d_SG_fault_57 (by decide) ?_
            refine x_ret ?_
            refine W.widen (k := 1) (n := 6) (by omega) (by omega) ?_
            exact W.iret (v := fk j9) hx hb hr (v_end hV ⟨_, rfl, hR8, rfl, hz⟩) hV.2.1.2.2 d_SG_fault_69
        · have hR9 : fauR F (nI j9) wh = .inl 2 := by unfold fauR; rw [if_neg hi9, if_pos ⟨c_3, c_5⟩]
          exact x_throw (E := "java/lang/IndexOutOfBoundsException") hx hb hlT hown (by decide +kernel) hts xa_44 (List.mem_of_getElem? (i := 5) rfl) hK hV (by rw [hml]; exact hl.1) d_SG_fault_34 d_SG_fault_37 d_SG_fault_38 d_SG_fault_40 d_SG_fault_43 hno (Nat.le_of_ble_eq_true rfl) (Nat.le_of_ble_eq_true rfl) (Nat.le_of_ble_eq_true rfl) (Nat.le_of_ble_eq_true rfl) hlk (Nat.le_of_ble_eq_true rfl) (Nat.le_of_ble_eq_true rfl) ⟨Or.inr ⟨rfl, hR9⟩, rfl, by rw [hz]⟩
    · have hR9 : fauR F i wh = .inl 1 := if_pos (Or.inr (Int32.not_lt.mp c_2))
      exact x_throw (E := "java/lang/IllegalArgumentException") hx hb hlT hown (by decide +kernel) hts xa_99 (List.mem_of_getElem? (i := 10) rfl) hK hV (by rw [hml]; exact hl.1) d_SG_fault_15 d_SG_fault_18 d_SG_fault_19 d_SG_fault_21 d_SG_fault_24 hno (Nat.le_of_ble_eq_true rfl) (Nat.le_of_ble_eq_true rfl) (Nat.le_of_ble_eq_true rfl) (Nat.le_of_ble_eq_true rfl) hlk (Nat.le_of_ble_eq_true rfl) (Nat.le_of_ble_eq_true rfl) ⟨Or.inl ⟨rfl, hR9⟩, rfl, by rw [hz]⟩

set_option maxHeartbeats 4000000 in
set_option maxRecDepth 100000 in
/-- at -/
theorem c_SG_at (l : Launch) (hlT : l.stackTraces = false) (G : Gx) (lo : Nat) (V : Vw) (sz : Nat) (x rd ck pr tw dr : Nat) (wr : Int32) (bs : Nat) (fo : Nat → Int32) (PB : List Nat) (hn : [x, pr, bs].Nodup) (hO : prOk fo PB) (hF : PB.length ≤ 4880) (i : Int32) : xMet l y_SG_at ws_SG_at ({ frames := 6, cells := 1, slots := 6, locals := 130 } : Room) (vPre G lo [.ref x, .int i] (vU V [(x, eO 7 [.ref rd, .ref ck, .ref pr, .ref tw, .ref dr, .int wr]), (pr, eO 2 [.ref bs, .int (nI PB.length)]), (bs, eI (gB G) 4880 fo)]) sz) (xEnd G lo (fun r V' k => ∃ v, r = some (.int v) ∧ atR PB i = .inr v ∧ V' = vU V [(x, eO 7 [.ref rd, .ref ck, .ref pr, .ref tw, .ref dr, .int wr]), (pr, eO 2 [.ref bs, .int (nI PB.length)]), (bs, eI (gB G) 4880 fo)] ∧ k = sz) (fun E V' k => (E = eIO ∧ atR PB i = .inl 1) ∧ V' = vU V [(x, eO 7 [.ref rd, .ref ck, .ref pr, .ref tw, .ref dr, .int wr]), (pr, eO 2 [.ref bs, .int (nI PB.length)]), (bs, eI (gB G) 4880 fo)] ∧ k = sz + 1) 1 6) := by
  refine xMet_of (Rn := RSG) (by decide) rfl (Nat.le_of_ble_eq_true rfl) ?_
  intro pg ev s mi args below meth cd hx hb hr hml hlk hno hts hown hK hz hV ls hl
  have hl : lv_has ls 2 [(0, .ref x), (1, .int i)] := hl
  have hV0 := hV
  obtain ⟨H, hH⟩ : ∃ H, H = s.heap := ⟨_, rfl⟩
  obtain ⟨locs, hlocs⟩ : ∃ locs : List Loc, locs = [] := ⟨_, rfl⟩
  rw [← hH, ← hlocs]
  rw [← hH] at hz
  replace hV : vS G.1 cls lo s H locs (vU V [(x, eO 7 [.ref rd, .ref ck, .ref pr, .ref tw, .ref dr, .int wr]), (pr, eO 2 [.ref bs, .int (nI PB.length)]), (bs, eI (gB G) 4880 fo)]) := by rw [hH, hlocs]; exact hV
  clear hH hlocs hV0
  refine lv_iload_n hx hb d_SG_at_0 rfl (lv_at hl 1 rfl) ?_
  refine lv_if_ge (tgt := 14) hx hb d_SG_at_1 (by decide) (fun c_1 => ?_) (fun c_1 => ?_)
  · have hi0 : ¬ i < 0 := Int32.not_lt.mpr c_1
    obtain ⟨j9, hj9, e9⟩ := i_neg hi0
    subst e9
    refine lv_iload_n hx hb d_SG_at_14 rfl (lv_at hl 1 rfl) ?_
    refine lv_aload_n hx hb d_SG_at_15 rfl (lv_at hl 0 rfl) ?_
    refine u_get hx hb hts inSG hown hK hV hn 0 rfl rfl 2 (by decide) w_fl_SG_26 rfl rfl d_SG_at_16 ?_
    refine u_get hx hb hts inPr hown hK hV hn 1 rfl rfl 1 (by decide) w_fl_SG_189 rfl rfl d_SG_at_19 ?_
    refine lv_icmp_ge (tgt := 37) hx hb d_SG_at_22 (by decide) (fun c_2 => ?_) (fun c_2 => ?_)
    · replace c_2 : PB.length ≤ j9 := (nI_leI (a := PB.length) (b := j9) (by omega) (by omega)).mp c_2
      have hR8 : atR PB (nI j9) = .inr (-1) := by unfold atR; rw [if_neg hi0, if_neg (fun z => absurd ((nI_ltI hj9 (by omega)).mp z) (by omega))]
      refine lv_iconst (v := (-1)) hx hb d_SG_at_37 (by decide) ?_
      refine x_ret ?_
      refine W.widen (k := 1) (n := 6) (by omega) (by omega) ?_
      exact W.iret (v := (-1)) hx hb hr (v_end hV ⟨_, rfl, hR8, rfl, hz⟩) hV.2.1.2.2 d_SG_at_38
    · replace c_2 : ¬ PB.length ≤ j9 := fun z9 => c_2 ((nI_leI (a := PB.length) (b := j9) (by omega) (by omega)).mpr z9)
      have hj8 : j9 < PB.length := by omega
      have o1 := hO j9 hj8
      have hR8 : atR PB (nI j9) = .inr (nI (PB.getD j9 0)) := by unfold atR; rw [if_neg hi0, if_pos ((nI_ltI hj9 (by omega)).mpr hj8), nI_clamp hj9]
      rw [← o1] at hR8
      refine lv_aload_n hx hb d_SG_at_25 rfl (lv_at hl 0 rfl) ?_
      refine u_get hx hb hts inSG hown hK hV hn 0 rfl rfl 2 (by decide) w_fl_SG_26 rfl rfl d_SG_at_26 ?_
      refine u_get hx hb hts inPr hown hK hV hn 1 rfl rfl 0 (by decide) w_fl_SG_190 rfl rfl d_SG_at_29 ?_
      refine lv_iload_n hx hb d_SG_at_32 rfl (lv_at hl 1 rfl) ?_
      refine u_baldN hx hb hK hV hn 2 rfl (by omega) (by decide) d_SG_at_33 ?_
      refine lv_goto (tgt := 38) hx hb d_SG_at_34 (by decide) ?_
      refine x_ret ?_
      refine W.widen (k := 1) (n := 6) (by omega) (by omega) ?_
      exact W.iret (v := fo j9) hx hb hr (v_end hV ⟨_, rfl, hR8, rfl, hz⟩) hV.2.1.2.2 d_SG_at_38
  · have hR9 : atR PB i = .inl 1 := if_pos (Int32.not_le.mp c_1)
    exact x_throw (E := "java/lang/IndexOutOfBoundsException") hx hb hlT hown (by decide +kernel) hts xa_44 (List.mem_of_getElem? (i := 7) rfl) hK hV (by rw [hml]; exact hl.1) d_SG_at_4 d_SG_at_7 d_SG_at_8 d_SG_at_10 d_SG_at_13 hno (Nat.le_of_ble_eq_true rfl) (Nat.le_of_ble_eq_true rfl) (Nat.le_of_ble_eq_true rfl) (Nat.le_of_ble_eq_true rfl) hlk (Nat.le_of_ble_eq_true rfl) (Nat.le_of_ble_eq_true rfl) ⟨⟨rfl, hR9⟩, rfl, by rw [hz]⟩
