theorem d_Rd_init_0 : decode b_Rd_init 0 = .ok (.aload_n 0, 1) := by decide +kernel
theorem d_Rd_init_1 : decode b_Rd_init 1 = .ok (.invokespecial 3, 3) := by decide +kernel
theorem d_Rd_init_4 : decode b_Rd_init 4 = .ok (.aload_n 0, 1) := by decide +kernel
theorem d_Rd_init_5 : decode b_Rd_init 5 = .ok (.sipush 400, 3) := by decide +kernel
theorem d_Rd_init_8 : decode b_Rd_init 8 = .ok (.newarray .byte, 2) := by decide +kernel
theorem d_Rd_init_10 : decode b_Rd_init 10 = .ok (.putfield 9, 3) := by decide +kernel
theorem d_Rd_init_13 : decode b_Rd_init 13 = .ok (.return_, 1) := by decide +kernel
theorem d_Rd_room_0 : decode b_Rd_room 0 = .ok (.sipush 400, 3) := by decide +kernel
theorem d_Rd_room_3 : decode b_Rd_room 3 = .ok (.aload_n 0, 1) := by decide +kernel
theorem d_Rd_room_4 : decode b_Rd_room 4 = .ok (.getfield 15, 3) := by decide +kernel
theorem d_Rd_room_7 : decode b_Rd_room 7 = .ok (.isub, 1) := by decide +kernel
theorem d_Rd_room_8 : decode b_Rd_room 8 = .ok (.ireturn, 1) := by decide +kernel
theorem d_Rd_append_0 : decode b_Rd_append 0 = .ok (.aload_n 0, 1) := by decide +kernel
theorem d_Rd_append_1 : decode b_Rd_append 1 = .ok (.getfield 15, 3) := by decide +kernel
theorem d_Rd_append_4 : decode b_Rd_append 4 = .ok (.sipush 400, 3) := by decide +kernel
theorem d_Rd_append_7 : decode b_Rd_append 7 = .ok (.if_icmp .ge 23, 3) := by decide +kernel
theorem d_Rd_append_10 : decode b_Rd_append 10 = .ok (.aload_n 0, 1) := by decide +kernel
theorem d_Rd_append_11 : decode b_Rd_append 11 = .ok (.getfield 9, 3) := by decide +kernel
theorem d_Rd_append_14 : decode b_Rd_append 14 = .ok (.aload_n 0, 1) := by decide +kernel
theorem d_Rd_append_15 : decode b_Rd_append 15 = .ok (.getfield 15, 3) := by decide +kernel
theorem d_Rd_append_18 : decode b_Rd_append 18 = .ok (.iload_n 1, 1) := by decide +kernel
theorem d_Rd_append_19 : decode b_Rd_append 19 = .ok (.bastore, 1) := by decide +kernel
theorem d_Rd_append_20 : decode b_Rd_append 20 = .ok (.aload_n 0, 1) := by decide +kernel
theorem d_Rd_append_21 : decode b_Rd_append 21 = .ok (.dup, 1) := by decide +kernel
theorem d_Rd_append_22 : decode b_Rd_append 22 = .ok (.getfield 15, 3) := by decide +kernel
theorem d_Rd_append_25 : decode b_Rd_append 25 = .ok (.iconst 1, 1) := by decide +kernel
theorem d_Rd_append_26 : decode b_Rd_append 26 = .ok (.iadd, 1) := by decide +kernel
theorem d_Rd_append_27 : decode b_Rd_append 27 = .ok (.putfield 15, 3) := by decide +kernel
theorem d_Rd_append_30 : decode b_Rd_append 30 = .ok (.return_, 1) := by decide +kernel
theorem d_Rd_peek_0 : decode b_Rd_peek 0 = .ok (.aload_n 0, 1) := by decide +kernel
theorem d_Rd_peek_1 : decode b_Rd_peek 1 = .ok (.invokevirtual 152, 3) := by decide +kernel
theorem d_Rd_peek_4 : decode b_Rd_peek 4 = .ok (.aload_n 0, 1) := by decide +kernel
theorem d_Rd_peek_5 : decode b_Rd_peek 5 = .ok (.getfield 19, 3) := by decide +kernel
theorem d_Rd_peek_8 : decode b_Rd_peek 8 = .ok (.aload_n 0, 1) := by decide +kernel
theorem d_Rd_peek_9 : decode b_Rd_peek 9 = .ok (.getfield 15, 3) := by decide +kernel
theorem d_Rd_peek_12 : decode b_Rd_peek 12 = .ok (.if_icmp .ge 19, 3) := by decide +kernel
theorem d_Rd_peek_15 : decode b_Rd_peek 15 = .ok (.aload_n 0, 1) := by decide +kernel
theorem d_Rd_peek_16 : decode b_Rd_peek 16 = .ok (.getfield 9, 3) := by decide +kernel
theorem d_Rd_peek_19 : decode b_Rd_peek 19 = .ok (.aload_n 0, 1) := by decide +kernel
theorem d_Rd_peek_20 : decode b_Rd_peek 20 = .ok (.getfield 19, 3) := by decide +kernel
theorem d_Rd_peek_23 : decode b_Rd_peek 23 = .ok (.baload, 1) := by decide +kernel
theorem d_Rd_peek_24 : decode b_Rd_peek 24 = .ok (.sipush 255, 3) := by decide +kernel
theorem d_Rd_peek_27 : decode b_Rd_peek 27 = .ok (.iand, 1) := by decide +kernel
theorem d_Rd_peek_28 : decode b_Rd_peek 28 = .ok (.goto 4, 3) := by decide +kernel
theorem d_Rd_peek_31 : decode b_Rd_peek 31 = .ok (.iconst (-1), 1) := by decide +kernel
theorem d_Rd_peek_32 : decode b_Rd_peek 32 = .ok (.ireturn, 1) := by decide +kernel
theorem d_Rd_take_0 : decode b_Rd_take 0 = .ok (.aload_n 0, 1) := by decide +kernel
theorem d_Rd_take_1 : decode b_Rd_take 1 = .ok (.invokevirtual 152, 3) := by decide +kernel
theorem d_Rd_take_4 : decode b_Rd_take 4 = .ok (.aload_n 0, 1) := by decide +kernel
theorem d_Rd_take_5 : decode b_Rd_take 5 = .ok (.getfield 19, 3) := by decide +kernel
theorem d_Rd_take_8 : decode b_Rd_take 8 = .ok (.aload_n 0, 1) := by decide +kernel
theorem d_Rd_take_9 : decode b_Rd_take 9 = .ok (.getfield 15, 3) := by decide +kernel
theorem d_Rd_take_12 : decode b_Rd_take 12 = .ok (.if_icmp .ge 16, 3) := by decide +kernel
theorem d_Rd_take_15 : decode b_Rd_take 15 = .ok (.aload_n 0, 1) := by decide +kernel
theorem d_Rd_take_16 : decode b_Rd_take 16 = .ok (.getfield 9, 3) := by decide +kernel
theorem d_Rd_take_19 : decode b_Rd_take 19 = .ok (.aload_n 0, 1) := by decide +kernel
theorem d_Rd_take_20 : decode b_Rd_take 20 = .ok (.getfield 19, 3) := by decide +kernel
theorem d_Rd_take_23 : decode b_Rd_take 23 = .ok (.baload, 1) := by decide +kernel
theorem d_Rd_take_24 : decode b_Rd_take 24 = .ok (.iload_n 1, 1) := by decide +kernel
theorem d_Rd_take_25 : decode b_Rd_take 25 = .ok (.if_icmp .eq 5, 3) := by decide +kernel
theorem d_Rd_take_28 : decode b_Rd_take 28 = .ok (.iconst 0, 1) := by decide +kernel
theorem d_Rd_take_29 : decode b_Rd_take 29 = .ok (.ireturn, 1) := by decide +kernel
theorem d_Rd_take_30 : decode b_Rd_take 30 = .ok (.aload_n 0, 1) := by decide +kernel
theorem d_Rd_take_31 : decode b_Rd_take 31 = .ok (.dup, 1) := by decide +kernel
theorem d_Rd_take_32 : decode b_Rd_take 32 = .ok (.getfield 19, 3) := by decide +kernel
theorem d_Rd_take_35 : decode b_Rd_take 35 = .ok (.iconst 1, 1) := by decide +kernel
theorem d_Rd_take_36 : decode b_Rd_take 36 = .ok (.iadd, 1) := by decide +kernel
theorem d_Rd_take_37 : decode b_Rd_take 37 = .ok (.putfield 19, 3) := by decide +kernel
theorem d_Rd_take_40 : decode b_Rd_take 40 = .ok (.iconst 1, 1) := by decide +kernel
theorem d_Rd_take_41 : decode b_Rd_take 41 = .ok (.ireturn, 1) := by decide +kernel
theorem d_Rd_isDigitHere_0 : decode b_Rd_isDigitHere 0 = .ok (.aload_n 0, 1) := by decide +kernel
theorem d_Rd_isDigitHere_1 : decode b_Rd_isDigitHere 1 = .ok (.getfield 19, 3) := by decide +kernel
theorem d_Rd_isDigitHere_4 : decode b_Rd_isDigitHere 4 = .ok (.aload_n 0, 1) := by decide +kernel
theorem d_Rd_isDigitHere_5 : decode b_Rd_isDigitHere 5 = .ok (.getfield 15, 3) := by decide +kernel
theorem d_Rd_isDigitHere_8 : decode b_Rd_isDigitHere 8 = .ok (.if_icmp .ge 35, 3) := by decide +kernel
theorem d_Rd_isDigitHere_11 : decode b_Rd_isDigitHere 11 = .ok (.aload_n 0, 1) := by decide +kernel
theorem d_Rd_isDigitHere_12 : decode b_Rd_isDigitHere 12 = .ok (.getfield 9, 3) := by decide +kernel
theorem d_Rd_isDigitHere_15 : decode b_Rd_isDigitHere 15 = .ok (.aload_n 0, 1) := by decide +kernel
theorem d_Rd_isDigitHere_16 : decode b_Rd_isDigitHere 16 = .ok (.getfield 19, 3) := by decide +kernel
theorem d_Rd_isDigitHere_19 : decode b_Rd_isDigitHere 19 = .ok (.baload, 1) := by decide +kernel
theorem d_Rd_isDigitHere_20 : decode b_Rd_isDigitHere 20 = .ok (.bipush 48, 2) := by decide +kernel
theorem d_Rd_isDigitHere_22 : decode b_Rd_isDigitHere 22 = .ok (.if_icmp .lt 21, 3) := by decide +kernel
theorem d_Rd_isDigitHere_25 : decode b_Rd_isDigitHere 25 = .ok (.aload_n 0, 1) := by decide +kernel
theorem d_Rd_isDigitHere_26 : decode b_Rd_isDigitHere 26 = .ok (.getfield 9, 3) := by decide +kernel
theorem d_Rd_isDigitHere_29 : decode b_Rd_isDigitHere 29 = .ok (.aload_n 0, 1) := by decide +kernel
theorem d_Rd_isDigitHere_30 : decode b_Rd_isDigitHere 30 = .ok (.getfield 19, 3) := by decide +kernel
theorem d_Rd_isDigitHere_33 : decode b_Rd_isDigitHere 33 = .ok (.baload, 1) := by decide +kernel
theorem d_Rd_isDigitHere_34 : decode b_Rd_isDigitHere 34 = .ok (.bipush 57, 2) := by decide +kernel
theorem d_Rd_isDigitHere_36 : decode b_Rd_isDigitHere 36 = .ok (.if_icmp .gt 7, 3) := by decide +kernel
theorem d_Rd_isDigitHere_39 : decode b_Rd_isDigitHere 39 = .ok (.iconst 1, 1) := by decide +kernel
theorem d_Rd_isDigitHere_40 : decode b_Rd_isDigitHere 40 = .ok (.goto 4, 3) := by decide +kernel
theorem d_Rd_isDigitHere_43 : decode b_Rd_isDigitHere 43 = .ok (.iconst 0, 1) := by decide +kernel
theorem d_Rd_isDigitHere_44 : decode b_Rd_isDigitHere 44 = .ok (.ireturn, 1) := by decide +kernel
theorem d_Rd_isLetterHere_0 : decode b_Rd_isLetterHere 0 = .ok (.aload_n 0, 1) := by decide +kernel
theorem d_Rd_isLetterHere_1 : decode b_Rd_isLetterHere 1 = .ok (.getfield 19, 3) := by decide +kernel
theorem d_Rd_isLetterHere_4 : decode b_Rd_isLetterHere 4 = .ok (.aload_n 0, 1) := by decide +kernel
theorem d_Rd_isLetterHere_5 : decode b_Rd_isLetterHere 5 = .ok (.getfield 15, 3) := by decide +kernel
theorem d_Rd_isLetterHere_8 : decode b_Rd_isLetterHere 8 = .ok (.if_icmp .ge 35, 3) := by decide +kernel
theorem d_Rd_isLetterHere_11 : decode b_Rd_isLetterHere 11 = .ok (.aload_n 0, 1) := by decide +kernel
theorem d_Rd_isLetterHere_12 : decode b_Rd_isLetterHere 12 = .ok (.getfield 9, 3) := by decide +kernel
theorem d_Rd_isLetterHere_15 : decode b_Rd_isLetterHere 15 = .ok (.aload_n 0, 1) := by decide +kernel
theorem d_Rd_isLetterHere_16 : decode b_Rd_isLetterHere 16 = .ok (.getfield 19, 3) := by decide +kernel
theorem d_Rd_isLetterHere_19 : decode b_Rd_isLetterHere 19 = .ok (.baload, 1) := by decide +kernel
theorem d_Rd_isLetterHere_20 : decode b_Rd_isLetterHere 20 = .ok (.bipush 97, 2) := by decide +kernel
theorem d_Rd_isLetterHere_22 : decode b_Rd_isLetterHere 22 = .ok (.if_icmp .lt 21, 3) := by decide +kernel
theorem d_Rd_isLetterHere_25 : decode b_Rd_isLetterHere 25 = .ok (.aload_n 0, 1) := by decide +kernel
theorem d_Rd_isLetterHere_26 : decode b_Rd_isLetterHere 26 = .ok (.getfield 9, 3) := by decide +kernel
theorem d_Rd_isLetterHere_29 : decode b_Rd_isLetterHere 29 = .ok (.aload_n 0, 1) := by decide +kernel
theorem d_Rd_isLetterHere_30 : decode b_Rd_isLetterHere 30 = .ok (.getfield 19, 3) := by decide +kernel
theorem d_Rd_isLetterHere_33 : decode b_Rd_isLetterHere 33 = .ok (.baload, 1) := by decide +kernel
theorem d_Rd_isLetterHere_34 : decode b_Rd_isLetterHere 34 = .ok (.bipush 122, 2) := by decide +kernel
theorem d_Rd_isLetterHere_36 : decode b_Rd_isLetterHere 36 = .ok (.if_icmp .gt 7, 3) := by decide +kernel
theorem d_Rd_isLetterHere_39 : decode b_Rd_isLetterHere 39 = .ok (.iconst 1, 1) := by decide +kernel
theorem d_Rd_isLetterHere_40 : decode b_Rd_isLetterHere 40 = .ok (.goto 4, 3) := by decide +kernel
theorem d_Rd_isLetterHere_43 : decode b_Rd_isLetterHere 43 = .ok (.iconst 0, 1) := by decide +kernel
theorem d_Rd_isLetterHere_44 : decode b_Rd_isLetterHere 44 = .ok (.ireturn, 1) := by decide +kernel
theorem d_Rd_readNumber_0 : decode b_Rd_readNumber 0 = .ok (.aload_n 0, 1) := by decide +kernel
theorem d_Rd_readNumber_1 : decode b_Rd_readNumber 1 = .ok (.invokevirtual 152, 3) := by decide +kernel
theorem d_Rd_readNumber_4 : decode b_Rd_readNumber 4 = .ok (.iconst 0, 1) := by decide +kernel
theorem d_Rd_readNumber_5 : decode b_Rd_readNumber 5 = .ok (.istore_n 3, 1) := by decide +kernel
theorem d_Rd_readNumber_6 : decode b_Rd_readNumber 6 = .ok (.iconst 0, 1) := by decide +kernel
theorem d_Rd_readNumber_7 : decode b_Rd_readNumber 7 = .ok (.istore 4, 2) := by decide +kernel
theorem d_Rd_readNumber_9 : decode b_Rd_readNumber 9 = .ok (.iload 4, 2) := by decide +kernel
theorem d_Rd_readNumber_11 : decode b_Rd_readNumber 11 = .ok (.iconst 4, 1) := by decide +kernel
theorem d_Rd_readNumber_12 : decode b_Rd_readNumber 12 = .ok (.if_icmp .ge 53, 3) := by decide +kernel
theorem d_Rd_readNumber_15 : decode b_Rd_readNumber 15 = .ok (.aload_n 0, 1) := by decide +kernel
theorem d_Rd_readNumber_16 : decode b_Rd_readNumber 16 = .ok (.invokevirtual 155, 3) := by decide +kernel
theorem d_Rd_readNumber_19 : decode b_Rd_readNumber 19 = .ok (.ifCond .eq 46, 3) := by decide +kernel
theorem d_Rd_readNumber_22 : decode b_Rd_readNumber 22 = .ok (.iload 4, 2) := by decide +kernel
theorem d_Rd_readNumber_24 : decode b_Rd_readNumber 24 = .ok (.ifCond .eq 7, 3) := by decide +kernel
theorem d_Rd_readNumber_27 : decode b_Rd_readNumber 27 = .ok (.iload_n 3, 1) := by decide +kernel
theorem d_Rd_readNumber_28 : decode b_Rd_readNumber 28 = .ok (.ifCond .eq 37, 3) := by decide +kernel
theorem d_Rd_readNumber_31 : decode b_Rd_readNumber 31 = .ok (.bipush 10, 2) := by decide +kernel
theorem d_Rd_readNumber_33 : decode b_Rd_readNumber 33 = .ok (.iload_n 3, 1) := by decide +kernel
theorem d_Rd_readNumber_34 : decode b_Rd_readNumber 34 = .ok (.imul, 1) := by decide +kernel
theorem d_Rd_readNumber_35 : decode b_Rd_readNumber 35 = .ok (.aload_n 0, 1) := by decide +kernel
theorem d_Rd_readNumber_36 : decode b_Rd_readNumber 36 = .ok (.getfield 9, 3) := by decide +kernel
theorem d_Rd_readNumber_39 : decode b_Rd_readNumber 39 = .ok (.aload_n 0, 1) := by decide +kernel
theorem d_Rd_readNumber_40 : decode b_Rd_readNumber 40 = .ok (.getfield 19, 3) := by decide +kernel
theorem d_Rd_readNumber_43 : decode b_Rd_readNumber 43 = .ok (.baload, 1) := by decide +kernel
theorem d_Rd_readNumber_44 : decode b_Rd_readNumber 44 = .ok (.bipush 48, 2) := by decide +kernel
theorem d_Rd_readNumber_46 : decode b_Rd_readNumber 46 = .ok (.isub, 1) := by decide +kernel
theorem d_Rd_readNumber_47 : decode b_Rd_readNumber 47 = .ok (.iadd, 1) := by decide +kernel
theorem d_Rd_readNumber_48 : decode b_Rd_readNumber 48 = .ok (.istore_n 3, 1) := by decide +kernel
theorem d_Rd_readNumber_49 : decode b_Rd_readNumber 49 = .ok (.iinc 4 1, 3) := by decide +kernel
theorem d_Rd_readNumber_52 : decode b_Rd_readNumber 52 = .ok (.aload_n 0, 1) := by decide +kernel
theorem d_Rd_readNumber_53 : decode b_Rd_readNumber 53 = .ok (.dup, 1) := by decide +kernel
theorem d_Rd_readNumber_54 : decode b_Rd_readNumber 54 = .ok (.getfield 19, 3) := by decide +kernel
theorem d_Rd_readNumber_57 : decode b_Rd_readNumber 57 = .ok (.iconst 1, 1) := by decide +kernel
theorem d_Rd_readNumber_58 : decode b_Rd_readNumber 58 = .ok (.iadd, 1) := by decide +kernel
theorem d_Rd_readNumber_59 : decode b_Rd_readNumber 59 = .ok (.putfield 19, 3) := by decide +kernel
theorem d_Rd_readNumber_62 : decode b_Rd_readNumber 62 = .ok (.goto (-53), 3) := by decide +kernel
theorem d_Rd_readNumber_65 : decode b_Rd_readNumber 65 = .ok (.iload 4, 2) := by decide +kernel
theorem d_Rd_readNumber_67 : decode b_Rd_readNumber 67 = .ok (.ifCond .eq 16, 3) := by decide +kernel
theorem d_Rd_readNumber_70 : decode b_Rd_readNumber 70 = .ok (.iload 4, 2) := by decide +kernel
theorem d_Rd_readNumber_72 : decode b_Rd_readNumber 72 = .ok (.iconst 4, 1) := by decide +kernel
theorem d_Rd_readNumber_73 : decode b_Rd_readNumber 73 = .ok (.if_icmp .ne 12, 3) := by decide +kernel
theorem d_Rd_readNumber_76 : decode b_Rd_readNumber 76 = .ok (.aload_n 0, 1) := by decide +kernel
theorem d_Rd_readNumber_77 : decode b_Rd_readNumber 77 = .ok (.invokevirtual 155, 3) := by decide +kernel
theorem d_Rd_readNumber_80 : decode b_Rd_readNumber 80 = .ok (.ifCond .eq 5, 3) := by decide +kernel
theorem d_Rd_readNumber_83 : decode b_Rd_readNumber 83 = .ok (.iconst (-1), 1) := by decide +kernel
theorem d_Rd_readNumber_84 : decode b_Rd_readNumber 84 = .ok (.ireturn, 1) := by decide +kernel
theorem d_Rd_readNumber_85 : decode b_Rd_readNumber 85 = .ok (.iload_n 3, 1) := by decide +kernel
theorem d_Rd_readNumber_86 : decode b_Rd_readNumber 86 = .ok (.iload_n 1, 1) := by decide +kernel
theorem d_Rd_readNumber_87 : decode b_Rd_readNumber 87 = .ok (.if_icmp .lt 8, 3) := by decide +kernel
theorem d_Rd_readNumber_90 : decode b_Rd_readNumber 90 = .ok (.iload_n 3, 1) := by decide +kernel
theorem d_Rd_readNumber_91 : decode b_Rd_readNumber 91 = .ok (.iload_n 2, 1) := by decide +kernel
theorem d_Rd_readNumber_92 : decode b_Rd_readNumber 92 = .ok (.if_icmp .le 15, 3) := by decide +kernel
theorem d_Rd_readNumber_95 : decode b_Rd_readNumber 95 = .ok (.aload_n 0, 1) := by decide +kernel
theorem d_Rd_readNumber_96 : decode b_Rd_readNumber 96 = .ok (.dup, 1) := by decide +kernel
theorem d_Rd_readNumber_97 : decode b_Rd_readNumber 97 = .ok (.getfield 19, 3) := by decide +kernel
theorem d_Rd_readNumber_100 : decode b_Rd_readNumber 100 = .ok (.iconst 1, 1) := by decide +kernel
theorem d_Rd_readNumber_101 : decode b_Rd_readNumber 101 = .ok (.isub, 1) := by decide +kernel
theorem d_Rd_readNumber_102 : decode b_Rd_readNumber 102 = .ok (.putfield 19, 3) := by decide +kernel
theorem d_Rd_readNumber_105 : decode b_Rd_readNumber 105 = .ok (.iconst (-1), 1) := by decide +kernel
theorem d_Rd_readNumber_106 : decode b_Rd_readNumber 106 = .ok (.ireturn, 1) := by decide +kernel
theorem d_Rd_readNumber_107 : decode b_Rd_readNumber 107 = .ok (.iload_n 3, 1) := by decide +kernel
theorem d_Rd_readNumber_108 : decode b_Rd_readNumber 108 = .ok (.ireturn, 1) := by decide +kernel
theorem d_Rd_skipBlanks_0 : decode b_Rd_skipBlanks 0 = .ok (.aload_n 0, 1) := by decide +kernel
theorem d_Rd_skipBlanks_1 : decode b_Rd_skipBlanks 1 = .ok (.getfield 19, 3) := by decide +kernel
theorem d_Rd_skipBlanks_4 : decode b_Rd_skipBlanks 4 = .ok (.aload_n 0, 1) := by decide +kernel
theorem d_Rd_skipBlanks_5 : decode b_Rd_skipBlanks 5 = .ok (.getfield 15, 3) := by decide +kernel
theorem d_Rd_skipBlanks_8 : decode b_Rd_skipBlanks 8 = .ok (.if_icmp .ge 30, 3) := by decide +kernel
theorem d_Rd_skipBlanks_11 : decode b_Rd_skipBlanks 11 = .ok (.aload_n 0, 1) := by decide +kernel
theorem d_Rd_skipBlanks_12 : decode b_Rd_skipBlanks 12 = .ok (.getfield 9, 3) := by decide +kernel
theorem d_Rd_skipBlanks_15 : decode b_Rd_skipBlanks 15 = .ok (.aload_n 0, 1) := by decide +kernel
theorem d_Rd_skipBlanks_16 : decode b_Rd_skipBlanks 16 = .ok (.getfield 19, 3) := by decide +kernel
theorem d_Rd_skipBlanks_19 : decode b_Rd_skipBlanks 19 = .ok (.baload, 1) := by decide +kernel
theorem d_Rd_skipBlanks_20 : decode b_Rd_skipBlanks 20 = .ok (.bipush 32, 2) := by decide +kernel
theorem d_Rd_skipBlanks_22 : decode b_Rd_skipBlanks 22 = .ok (.if_icmp .ne 16, 3) := by decide +kernel
theorem d_Rd_skipBlanks_25 : decode b_Rd_skipBlanks 25 = .ok (.aload_n 0, 1) := by decide +kernel
theorem d_Rd_skipBlanks_26 : decode b_Rd_skipBlanks 26 = .ok (.dup, 1) := by decide +kernel
theorem d_Rd_skipBlanks_27 : decode b_Rd_skipBlanks 27 = .ok (.getfield 19, 3) := by decide +kernel
theorem d_Rd_skipBlanks_30 : decode b_Rd_skipBlanks 30 = .ok (.iconst 1, 1) := by decide +kernel
theorem d_Rd_skipBlanks_31 : decode b_Rd_skipBlanks 31 = .ok (.iadd, 1) := by decide +kernel
theorem d_Rd_skipBlanks_32 : decode b_Rd_skipBlanks 32 = .ok (.putfield 19, 3) := by decide +kernel
theorem d_Rd_skipBlanks_35 : decode b_Rd_skipBlanks 35 = .ok (.goto (-35), 3) := by decide +kernel
theorem d_Rd_skipBlanks_38 : decode b_Rd_skipBlanks 38 = .ok (.return_, 1) := by decide +kernel

set_option maxHeartbeats 4000000 in
set_option maxRecDepth 100000 in
/-- Reader.skipBlanks -/
theorem c_Rd_skipBlanks (l : Launch) (G : Gx) (lo : Nat) (V : Vw) (sz : Nat) (rd tp : Nat) (f : Nat → Int32) (t : Nat → Nat) (n p : Nat) (hn : [rd, tp].Nodup) (hT : tpOk f t n) (h4 : n ≤ 400) (hp : p ≤ n) : Met l y_Rd_skipBlanks ws_Rd_skipBlanks ({ frames := 0, cells := 0, slots := 0, locals := 0 } : Room) (vPre G lo [.ref rd] (vU V [(rd, eO 3 [.ref tp, .int (nI n), .int (nI p)]), (tp, eI (gB G) 400 f)]) sz) (vPost G lo (fun r V' k => r = none ∧ V' = vU V [(rd, eO 3 [.ref tp, .int (nI n), .int (nI (sk t n p))]), (tp, eI (gB G) 400 f)] ∧ k = sz)) 0 0 (vL lo) := by
  refine vMet (R := RRd) (by decide) rfl (Nat.le_of_ble_eq_true rfl) ?_
  intro pg ev s mi args below meth cd hx hb hr hml hlk hnm hts hown hK hz hV ls hl
  have hl : lv_has ls 1 [(0, .ref rd)] := hl
  have hV0 := hV
  obtain ⟨H, hH⟩ : ∃ H, H = s.heap := ⟨_, rfl⟩
  obtain ⟨locs, hlocs⟩ : ∃ locs : List Loc, locs = [] := ⟨_, rfl⟩
  rw [← hH, ← hlocs]
  rw [← hH] at hz
  replace hV : vS G.1 cls lo s H locs (vU V [(rd, eO 3 [.ref tp, .int (nI n), .int (nI p)]), (tp, eI (gB G) 400 f)]) := by rw [hH, hlocs]; exact hV
  clear hH hlocs hV0
  have loop : ∀ (k : Nat) (q : Nat), n - q < k → q ≤ n → sk t n q = sk t n p → ∀ (H : Heap) (locs : List Loc) (ls : Array Slot), H.size = sz → vS G.1 cls lo s H locs (vU V [(rd, eO 3 [.ref tp, .int (nI n), .int (nI q)]), (tp, eI (gB G) 400 f)]) → lv_has ls 1 [(0, .ref rd)] → W pg l ev ({ frames := 0, cells := 0, slots := 0, locals := 0 } : Room) s mi args below meth cd H locs 0 0 (MQ below (vPost G lo (fun r V' k => r = none ∧ V' = vU V [(rd, eO 3 [.ref tp, .int (nI n), .int (nI (sk t n p))]), (tp, eI (gB G) 400 f)] ∧ k = sz)) args s 0 0 (vL lo)) (F0 mi 0 ls []) := by
    intro k
    induction k with
    | zero => intro q hk; exact absurd hk (by omega)
    | succ k ih =>
      intro q hk hqn hq H locs ls hz hV hl
      refine lv_aload_n hx hb d_Rd_skipBlanks_0 rfl (lv_at hl 0 rfl) ?_
      refine u_get hx hb hts inRd hown hK hV hn 0 rfl rfl 2 (by decide) w_fl_Rd_19 rfl rfl d_Rd_skipBlanks_1 ?_
      refine lv_aload_n hx hb d_Rd_skipBlanks_4 rfl (lv_at hl 0 rfl) ?_
      refine u_get hx hb hts inRd hown hK hV hn 0 rfl rfl 1 (by decide) w_fl_Rd_15 rfl rfl d_Rd_skipBlanks_5 ?_
      refine lv_icmp_ge (tgt := 38) hx hb d_Rd_skipBlanks_8 (by decide) (fun c_1 => ?_) (fun c_1 => ?_)
      · replace c_1 : n ≤ q := (nI_leI (a := n) (b := q) (by omega) (by omega)).mp c_1
        have hs : sk t n q = q := sk_stop (by omega)
        exact W.vret hx hb hr (v_end hV ⟨rfl, by rw [← hq, hs], hz⟩) hV.2.1.2.2 d_Rd_skipBlanks_38
      · replace c_1 : ¬ n ≤ q := fun z9 => c_1 ((nI_leI (a := n) (b := q) (by omega) (by omega)).mpr z9)
        refine lv_aload_n hx hb d_Rd_skipBlanks_11 rfl (lv_at hl 0 rfl) ?_
        refine u_get hx hb hts inRd hown hK hV hn 0 rfl rfl 0 (by decide) w_fl_Rd_9 rfl rfl d_Rd_skipBlanks_12 ?_
        refine lv_aload_n hx hb d_Rd_skipBlanks_15 rfl (lv_at hl 0 rfl) ?_
        refine u_get hx hb hts inRd hown hK hV hn 0 rfl rfl 2 (by decide) w_fl_Rd_19 rfl rfl d_Rd_skipBlanks_16 ?_
        refine u_baldN hx hb hK hV hn 1 rfl (by omega) (by decide) d_Rd_skipBlanks_19 ?_
        refine lv_bipush (v := 32) hx hb d_Rd_skipBlanks_20 (by decide) ?_
        refine lv_icmp_ne (tgt := 38) hx hb d_Rd_skipBlanks_22 (by decide) (fun c_2 => ?_) (fun c_2 => ?_)
        · have hs : sk t n q = q := sk_stop (fun z => c_2 ((hT.eq (k := 32) (by omega) (by decide)).mpr z.2))
          exact W.vret hx hb hr (v_end hV ⟨rfl, by rw [← hq, hs], hz⟩) hV.2.1.2.2 d_Rd_skipBlanks_38
        · replace c_2 : t q = 32 := (hT.eq (k := 32) (by omega) (by decide)).mp c_2
          refine lv_aload_n hx hb d_Rd_skipBlanks_25 rfl (lv_at hl 0 rfl) ?_
          refine lv_dup hx hb d_Rd_skipBlanks_26 rfl ?_
          refine u_get hx hb hts inRd hown hK hV hn 0 rfl rfl 2 (by decide) w_fl_Rd_19 rfl rfl d_Rd_skipBlanks_27 ?_
          refine lv_iconst (v := 1) hx hb d_Rd_skipBlanks_30 (by decide) ?_
          refine e_iadd (v := nI (q + 1)) hx hb d_Rd_skipBlanks_31 (nI_add q 1) ?_
          refine u_put hx hb hts inRd tyRd tyRd_ok nmRd hown hK hV hn 0 rfl rfl 2 (by decide) w_fl_Rd_19 rfl rfl rfl rfl (Nat.le_of_ble_eq_true rfl) d_Rd_skipBlanks_32 (fun H locs hV hz9 => ?_)
          have hV : vS G.1 cls lo s H locs (vU V [(rd, eO 3 [.ref tp, .int (nI n), .int (nI (q + 1))]), (tp, eI (gB G) 400 f)]) := hV
          replace hz := hz9.trans hz
          refine lv_goto (tgt := 0) hx hb d_Rd_skipBlanks_35 (by decide) ?_
          exact ih (q + 1) (by omega) (by omega) (by rw [← hq]; exact (sk_go (by omega) c_2).symm) H locs ls hz hV (lv_sub hl [0] rfl)
  exact loop (n - p + 1) p (by omega) hp rfl H locs ls hz hV hl

set_option maxHeartbeats 4000000 in
set_option maxRecDepth 100000 in
/-- Reader.room -/
theorem c_Rd_room (l : Launch) (G : Gx) (lo : Nat) (V : Vw) (sz : Nat) (rd tp : Nat) (f : Nat → Int32) (n p : Nat) (hn : [rd, tp].Nodup) (h4 : n ≤ 400) : Met l y_Rd_room ws_Rd_room ({ frames := 0, cells := 0, slots := 0, locals := 0 } : Room) (vPre G lo [.ref rd] (vU V [(rd, eO 3 [.ref tp, .int (nI n), .int (nI p)]), (tp, eI (gB G) 400 f)]) sz) (vPost G lo (fun r V' k => r = some (.int (nI (400 - n))) ∧ V' = vU V [(rd, eO 3 [.ref tp, .int (nI n), .int (nI p)]), (tp, eI (gB G) 400 f)] ∧ k = sz)) 0 0 (vL lo) := by
  refine vMet (R := RRd) (by decide) rfl (Nat.le_of_ble_eq_true rfl) ?_
  intro pg ev s mi args below meth cd hx hb hr hml hlk hnm hts hown hK hz hV ls hl
  have hl : lv_has ls 1 [(0, .ref rd)] := hl
  have hV0 := hV
  obtain ⟨H, hH⟩ : ∃ H, H = s.heap := ⟨_, rfl⟩
  obtain ⟨locs, hlocs⟩ : ∃ locs : List Loc, locs = [] := ⟨_, rfl⟩
  rw [← hH, ← hlocs]
  rw [← hH] at hz
  replace hV : vS G.1 cls lo s H locs (vU V [(rd, eO 3 [.ref tp, .int (nI n), .int (nI p)]), (tp, eI (gB G) 400 f)]) := by rw [hH, hlocs]; exact hV
  clear hH hlocs hV0
  refine lv_sipush (v := 400) hx hb d_Rd_room_0 (by decide) ?_
  refine lv_aload_n hx hb d_Rd_room_3 rfl (lv_at hl 0 rfl) ?_
  refine u_get hx hb hts inRd hown hK hV hn 0 rfl rfl 1 (by decide) w_fl_Rd_15 rfl rfl d_Rd_room_4 ?_
  refine e_isub (v := nI (400 - n)) hx hb d_Rd_room_7 (pk_sub (a := 400) h4) ?_
  exact W.iret (v := nI (400 - n)) hx hb hr (v_end hV ⟨rfl, rfl, hz⟩) hV.2.1.2.2 d_Rd_room_8

set_option maxHeartbeats 4000000 in
set_option maxRecDepth 100000 in
/-- Reader.append -/
theorem c_Rd_append (l : Launch) (G : Gx) (lo : Nat) (V : Vw) (sz : Nat) (rd tp : Nat) (f : Nat → Int32) (n p : Nat) (x : Int32) (hn : [rd, tp].Nodup) (h4 : n < 400) : Met l y_Rd_append ws_Rd_append ({ frames := 0, cells := 0, slots := 0, locals := 0 } : Room) (vPre G lo [.ref rd, .int x] (vU V [(rd, eO 3 [.ref tp, .int (nI n), .int (nI p)]), (tp, eI (gB G) 400 f)]) sz) (vPost G lo (fun r V' k => r = none ∧ V' = vU V [(rd, eO 3 [.ref tp, .int (nI (n + 1)), .int (nI p)]), (tp, eI (gB G) 400 (upd f n (vp_nar .byte x)))] ∧ k = sz)) 0 0 (vL lo) := by
  refine vMet (R := RRd) (by decide) rfl (Nat.le_of_ble_eq_true rfl) ?_
  intro pg ev s mi args below meth cd hx hb hr hml hlk hnm hts hown hK hz hV ls hl
  have hl : lv_has ls 2 [(0, .ref rd), (1, .int x)] := hl
  have hV0 := hV
  obtain ⟨H, hH⟩ : ∃ H, H = s.heap := ⟨_, rfl⟩
  obtain ⟨locs, hlocs⟩ : ∃ locs : List Loc, locs = [] := ⟨_, rfl⟩
  rw [← hH, ← hlocs]
  rw [← hH] at hz
  replace hV : vS G.1 cls lo s H locs (vU V [(rd, eO 3 [.ref tp, .int (nI n), .int (nI p)]), (tp, eI (gB G) 400 f)]) := by rw [hH, hlocs]; exact hV
  clear hH hlocs hV0
  refine lv_aload_n hx hb d_Rd_append_0 rfl (lv_at hl 0 rfl) ?_
  refine u_get hx hb hts inRd hown hK hV hn 0 rfl rfl 1 (by decide) w_fl_Rd_15 rfl rfl d_Rd_append_1 ?_
  refine lv_sipush (v := 400) hx hb d_Rd_append_4 (by decide) ?_
  refine lv_icmp_ge (tgt := 30) hx hb d_Rd_append_7 (by decide) (fun c_1 => absurd c_1 (nI_ge (a := n) (b := 400) h4 (by decide))) (fun c_1 => ?_)
  replace c_1 : ¬ 400 ≤ n := fun z9 => c_1 ((nI_leI (a := 400) (b := n) (by omega) (by omega)).mpr z9)
  refine lv_aload_n hx hb d_Rd_append_10 rfl (lv_at hl 0 rfl) ?_
  refine u_get hx hb hts inRd hown hK hV hn 0 rfl rfl 0 (by decide) w_fl_Rd_9 rfl rfl d_Rd_append_11 ?_
  refine lv_aload_n hx hb d_Rd_append_14 rfl (lv_at hl 0 rfl) ?_
  refine u_get hx hb hts inRd hown hK hV hn 0 rfl rfl 1 (by decide) w_fl_Rd_15 rfl rfl d_Rd_append_15 ?_
  refine lv_iload_n hx hb d_Rd_append_18 rfl (lv_at hl 1 rfl) ?_
  refine u_bastN hx hb hK hV hn 1 rfl (by omega) (by decide) d_Rd_append_19 (fun H locs hV hz9 => ?_)
  have hV : vS G.1 cls lo s H locs (vU V [(rd, eO 3 [.ref tp, .int (nI n), .int (nI p)]), (tp, eI (gB G) 400 (upd f n (vp_nar .byte x)))]) := hV
  replace hz := hz9.trans hz
  refine lv_aload_n hx hb d_Rd_append_20 rfl (lv_at hl 0 rfl) ?_
  refine lv_dup hx hb d_Rd_append_21 rfl ?_
  refine u_get hx hb hts inRd hown hK hV hn 0 rfl rfl 1 (by decide) w_fl_Rd_15 rfl rfl d_Rd_append_22 ?_
  refine lv_iconst (v := 1) hx hb d_Rd_append_25 (by decide) ?_
  refine e_iadd (v := nI (n + 1)) hx hb d_Rd_append_26 (nI_add n 1) ?_
  refine u_put hx hb hts inRd tyRd tyRd_ok nmRd hown hK hV hn 0 rfl rfl 1 (by decide) w_fl_Rd_15 rfl rfl rfl rfl (Nat.le_of_ble_eq_true rfl) d_Rd_append_27 (fun H locs hV hz9 => ?_)
  have hV : vS G.1 cls lo s H locs (vU V [(rd, eO 3 [.ref tp, .int (nI (n + 1)), .int (nI p)]), (tp, eI (gB G) 400 (upd f n (vp_nar .byte x)))]) := hV
  replace hz := hz9.trans hz
  exact W.vret hx hb hr (v_end hV ⟨rfl, rfl, hz⟩) hV.2.1.2.2 d_Rd_append_30

set_option maxHeartbeats 4000000 in
set_option maxRecDepth 100000 in
/-- Reader.peek -/
theorem c_Rd_peek (l : Launch) (G : Gx) (lo : Nat) (V : Vw) (sz : Nat) (rd tp : Nat) (f : Nat → Int32) (t : Nat → Nat) (n p : Nat) (hn : [rd, tp].Nodup) (hT : tpOk f t n) (h4 : n ≤ 400) (hp : p ≤ n) : Met l y_Rd_peek ws_Rd_peek ({ frames := 1, cells := 0, slots := 0, locals := 20 } : Room) (vPre G lo [.ref rd] (vU V [(rd, eO 3 [.ref tp, .int (nI n), .int (nI p)]), (tp, eI (gB G) 400 f)]) sz) (vPost G lo (fun r V' k => r = some (.int (rK t n (sk t n p))) ∧ V' = vU V [(rd, eO 3 [.ref tp, .int (nI n), .int (nI (sk t n p))]), (tp, eI (gB G) 400 f)] ∧ k = sz)) 0 0 (vL lo) := by
  refine vMet (R := RRd) (by decide) rfl (Nat.le_of_ble_eq_true rfl) ?_
  intro pg ev s mi args below meth cd hx hb hr hml hlk hnm hts hown hK hz hV ls hl
  have hl : lv_has ls 1 [(0, .ref rd)] := hl
  have hV0 := hV
  obtain ⟨H, hH⟩ : ∃ H, H = s.heap := ⟨_, rfl⟩
  obtain ⟨locs, hlocs⟩ : ∃ locs : List Loc, locs = [] := ⟨_, rfl⟩
  rw [← hH, ← hlocs]
  rw [← hH] at hz
  replace hV : vS G.1 cls lo s H locs (vU V [(rd, eO 3 [.ref tp, .int (nI n), .int (nI p)]), (tp, eI (gB G) 400 f)]) := by rw [hH, hlocs]; exact hV
  clear hH hlocs hV0
  refine lv_aload_n hx hb d_Rd_peek_0 rfl (lv_at hl 0 rfl) ?_
  refine v_call (va_runV (As := []) (rest := []) ⟨hx, hb, hml, hown, hts⟩ (c_Rd_skipBlanks l G lo _ _ rd tp f t n p hn hT h4 (by omega)) (kwV 0 hts w_co_Rd_skipBlanks rfl rfl w_it_Rd w_ml_Rd_152 w_im_Rd_skipBlanks w_se_Rd__Rd_skipBlanks (by decide +kernel) ⟨by decide, by decide⟩) (u_preV hK hV hn [0, 1] rfl hz 0 rfl rfl) rfl rfl hl.1 rfl (lv_room (Nat.le_of_ble_eq_true rfl)) d_Rd_peek_1 ⟨(Nat.le_of_ble_eq_true rfl), (Nat.le_of_ble_eq_true rfl)⟩) hV (fun r9 V9 H locs hp hV hle => ?_)
  obtain ⟨rfl, rfl, hz⟩ := hp
  replace hV := u_back hV hn [0, 1] rfl
  have hV : vS G.1 cls lo s H locs (vU V [(rd, eO 3 [.ref tp, .int (nI n), .int (nI (sk t n p))]), (tp, eI (gB G) 400 f)]) := hV
  obtain ⟨q_1, hq_1⟩ : ∃ z, sk t n p = z := ⟨_, rfl⟩
  rw [hq_1] at hV
  have bq_1 : q_1 ≤ n := by rw [← hq_1]; exact sk_le (by omega)
  have gq_1 : p ≤ q_1 := by rw [← hq_1]; exact sk_ge t n p
  have hV : vS G.1 cls lo s H locs (vU V [(rd, eO 3 [.ref tp, .int (nI n), .int (nI q_1)]), (tp, eI (gB G) 400 f)]) := hV
  refine lv_aload_n hx hb d_Rd_peek_4 rfl (lv_at hl 0 rfl) ?_
  refine u_get hx hb hts inRd hown hK hV hn 0 rfl rfl 2 (by decide) w_fl_Rd_19 rfl rfl d_Rd_peek_5 ?_
  refine lv_aload_n hx hb d_Rd_peek_8 rfl (lv_at hl 0 rfl) ?_
  refine u_get hx hb hts inRd hown hK hV hn 0 rfl rfl 1 (by decide) w_fl_Rd_15 rfl rfl d_Rd_peek_9 ?_
  refine lv_icmp_ge (tgt := 31) hx hb d_Rd_peek_12 (by decide) (fun c_2 => ?_) (fun c_2 => ?_)
  · replace c_2 : n ≤ q_1 := (nI_leI (a := n) (b := q_1) (by omega) (by omega)).mp c_2
    refine lv_iconst (v := (-1)) hx hb d_Rd_peek_31 (by decide) ?_
    exact W.iret (v := (-1)) hx hb hr (v_end hV ⟨by rw [hq_1, rK_out (by omega)], by rw [hq_1], hz⟩) hV.2.1.2.2 d_Rd_peek_32
  · replace c_2 : ¬ n ≤ q_1 := fun z9 => c_2 ((nI_leI (a := n) (b := q_1) (by omega) (by omega)).mpr z9)
    refine lv_aload_n hx hb d_Rd_peek_15 rfl (lv_at hl 0 rfl) ?_
    refine u_get hx hb hts inRd hown hK hV hn 0 rfl rfl 0 (by decide) w_fl_Rd_9 rfl rfl d_Rd_peek_16 ?_
    refine lv_aload_n hx hb d_Rd_peek_19 rfl (lv_at hl 0 rfl) ?_
    refine u_get hx hb hts inRd hown hK hV hn 0 rfl rfl 2 (by decide) w_fl_Rd_19 rfl rfl d_Rd_peek_20 ?_
    refine u_baldN hx hb hK hV hn 1 rfl (by omega) (by decide) d_Rd_peek_23 ?_
    refine lv_sipush (v := 255) hx hb d_Rd_peek_24 (by decide) ?_
    refine e_iand (v := rK t n q_1) hx hb d_Rd_peek_27 (by rw [rK_in (by omega)]; exact hT.and (by omega)) ?_
    refine lv_goto (tgt := 32) hx hb d_Rd_peek_28 (by decide) ?_
    exact W.iret (v := rK t n q_1) hx hb hr (v_end hV ⟨by rw [hq_1], by rw [hq_1], hz⟩) hV.2.1.2.2 d_Rd_peek_32

set_option maxHeartbeats 4000000 in
set_option maxRecDepth 100000 in
/-- Reader.take -/
theorem c_Rd_take (l : Launch) (G : Gx) (lo : Nat) (V : Vw) (sz : Nat) (rd tp : Nat) (f : Nat → Int32) (t : Nat → Nat) (n p : Nat) (hn : [rd, tp].Nodup) (hT : tpOk f t n) (h4 : n ≤ 400) (hp : p ≤ n) (x : Nat) (hx1 : x < 128) : Met l y_Rd_take ws_Rd_take ({ frames := 1, cells := 0, slots := 0, locals := 20 } : Room) (vPre G lo [.ref rd, .int (nI x)] (vU V [(rd, eO 3 [.ref tp, .int (nI n), .int (nI p)]), (tp, eI (gB G) 400 f)]) sz) (vPost G lo (fun r V' k => r = some (.int (rB (tk t n x p))) ∧ V' = vU V [(rd, eO 3 [.ref tp, .int (nI n), .int (nI (rQ (tk t n x p)))]), (tp, eI (gB G) 400 f)] ∧ k = sz)) 0 0 (vL lo) := by
  refine vMet (R := RRd) (by decide) rfl (Nat.le_of_ble_eq_true rfl) ?_
  intro pg ev s mi args below meth cd hx hb hr hml hlk hnm hts hown hK hz hV ls hl
  have hl : lv_has ls 2 [(0, .ref rd), (1, .int (nI x))] := hl
  have hV0 := hV
  obtain ⟨H, hH⟩ : ∃ H, H = s.heap := ⟨_, rfl⟩
  obtain ⟨locs, hlocs⟩ : ∃ locs : List Loc, locs = [] := ⟨_, rfl⟩
  rw [← hH, ← hlocs]
  rw [← hH] at hz
  replace hV : vS G.1 cls lo s H locs (vU V [(rd, eO 3 [.ref tp, .int (nI n), .int (nI p)]), (tp, eI (gB G) 400 f)]) := by rw [hH, hlocs]; exact hV
  clear hH hlocs hV0
  refine lv_aload_n hx hb d_Rd_take_0 rfl (lv_at hl 0 rfl) ?_
  refine v_call (va_runV (As := []) (rest := []) ⟨hx, hb, hml, hown, hts⟩ (c_Rd_skipBlanks l G lo _ _ rd tp f t n p hn hT h4 (by omega)) (kwV 0 hts w_co_Rd_skipBlanks rfl rfl w_it_Rd w_ml_Rd_152 w_im_Rd_skipBlanks w_se_Rd__Rd_skipBlanks (by decide +kernel) ⟨by decide, by decide⟩) (u_preV hK hV hn [0, 1] rfl hz 0 rfl rfl) rfl rfl hl.1 rfl (lv_room (Nat.le_of_ble_eq_true rfl)) d_Rd_take_1 ⟨(Nat.le_of_ble_eq_true rfl), (Nat.le_of_ble_eq_true rfl)⟩) hV (fun r9 V9 H locs hp hV hle => ?_)
  obtain ⟨rfl, rfl, hz⟩ := hp
  replace hV := u_back hV hn [0, 1] rfl
  have hV : vS G.1 cls lo s H locs (vU V [(rd, eO 3 [.ref tp, .int (nI n), .int (nI (sk t n p))]), (tp, eI (gB G) 400 f)]) := hV
  obtain ⟨q_1, hq_1⟩ : ∃ z, sk t n p = z := ⟨_, rfl⟩
  rw [hq_1] at hV
  have bq_1 : q_1 ≤ n := by rw [← hq_1]; exact sk_le (by omega)
  have gq_1 : p ≤ q_1 := by rw [← hq_1]; exact sk_ge t n p
  have hV : vS G.1 cls lo s H locs (vU V [(rd, eO 3 [.ref tp, .int (nI n), .int (nI q_1)]), (tp, eI (gB G) 400 f)]) := hV
  refine lv_aload_n hx hb d_Rd_take_4 rfl (lv_at hl 0 rfl) ?_
  refine u_get hx hb hts inRd hown hK hV hn 0 rfl rfl 2 (by decide) w_fl_Rd_19 rfl rfl d_Rd_take_5 ?_
  refine lv_aload_n hx hb d_Rd_take_8 rfl (lv_at hl 0 rfl) ?_
  refine u_get hx hb hts inRd hown hK hV hn 0 rfl rfl 1 (by decide) w_fl_Rd_15 rfl rfl d_Rd_take_9 ?_
  refine lv_icmp_ge (tgt := 28) hx hb d_Rd_take_12 (by decide) (fun c_2 => ?_) (fun c_2 => ?_)
  · replace c_2 : n ≤ q_1 := (nI_leI (a := n) (b := q_1) (by omega) (by omega)).mp c_2
    have hE : tk t n x p = .inl q_1 := by unfold tk; rw [hq_1, if_neg (by omega)]
    refine lv_iconst (v := 0) hx hb d_Rd_take_28 (by decide) ?_
    exact W.zret (v := 0) hx hb hr (by decide) (v_end hV ⟨by rw [hE]; rfl, by rw [hE]; rfl, hz⟩) hV.2.1.2.2 d_Rd_take_29
  · replace c_2 : ¬ n ≤ q_1 := fun z9 => c_2 ((nI_leI (a := n) (b := q_1) (by omega) (by omega)).mpr z9)
    refine lv_aload_n hx hb d_Rd_take_15 rfl (lv_at hl 0 rfl) ?_
    refine u_get hx hb hts inRd hown hK hV hn 0 rfl rfl 0 (by decide) w_fl_Rd_9 rfl rfl d_Rd_take_16 ?_
    refine lv_aload_n hx hb d_Rd_take_19 rfl (lv_at hl 0 rfl) ?_
    refine u_get hx hb hts inRd hown hK hV hn 0 rfl rfl 2 (by decide) w_fl_Rd_19 rfl rfl d_Rd_take_20 ?_
    refine u_baldN hx hb hK hV hn 1 rfl (by omega) (by decide) d_Rd_take_23 ?_
    refine lv_iload_n hx hb d_Rd_take_24 rfl (lv_at hl 1 rfl) ?_
    refine lv_icmp_eq (tgt := 30) hx hb d_Rd_take_25 (by decide) (fun c_3 => ?_) (fun c_3 => ?_)
    · have hE : tk t n x p = .inr (q_1 + 1) := by unfold tk; rw [hq_1, if_pos ⟨by omega, (hT.eq (by omega) hx1).mp c_3⟩]
      refine lv_aload_n hx hb d_Rd_take_30 rfl (lv_at hl 0 rfl) ?_
      refine lv_dup hx hb d_Rd_take_31 rfl ?_
      refine u_get hx hb hts inRd hown hK hV hn 0 rfl rfl 2 (by decide) w_fl_Rd_19 rfl rfl d_Rd_take_32 ?_
      refine lv_iconst (v := 1) hx hb d_Rd_take_35 (by decide) ?_
      refine e_iadd (v := nI (q_1 + 1)) hx hb d_Rd_take_36 (nI_add q_1 1) ?_
      refine u_put hx hb hts inRd tyRd tyRd_ok nmRd hown hK hV hn 0 rfl rfl 2 (by decide) w_fl_Rd_19 rfl rfl rfl rfl (Nat.le_of_ble_eq_true rfl) d_Rd_take_37 (fun H locs hV hz9 => ?_)
      have hV : vS G.1 cls lo s H locs (vU V [(rd, eO 3 [.ref tp, .int (nI n), .int (nI (q_1 + 1))]), (tp, eI (gB G) 400 f)]) := hV
      replace hz := hz9.trans hz
      refine lv_iconst (v := 1) hx hb d_Rd_take_40 (by decide) ?_
      exact W.zret (v := 1) hx hb hr (by decide) (v_end hV ⟨by rw [hE]; rfl, by rw [hE]; rfl, hz⟩) hV.2.1.2.2 d_Rd_take_41
    · have hE : tk t n x p = .inl q_1 := by unfold tk; rw [hq_1, if_neg (fun z => c_3 ((hT.eq (by omega) hx1).mpr z.2))]
      refine lv_iconst (v := 0) hx hb d_Rd_take_28 (by decide) ?_
      exact W.zret (v := 0) hx hb hr (by decide) (v_end hV ⟨by rw [hE]; rfl, by rw [hE]; rfl, hz⟩) hV.2.1.2.2 d_Rd_take_29

set_option maxHeartbeats 4000000 in
set_option maxRecDepth 100000 in
/-- Reader.isDigitHere -/
theorem c_Rd_isDigitHere (l : Launch) (G : Gx) (lo : Nat) (V : Vw) (sz : Nat) (rd tp : Nat) (f : Nat → Int32) (t : Nat → Nat) (n p : Nat) (hn : [rd, tp].Nodup) (hT : tpOk f t n) (h4 : n ≤ 400) (hp : p ≤ n) : Met l y_Rd_isDigitHere ws_Rd_isDigitHere ({ frames := 0, cells := 0, slots := 0, locals := 0 } : Room) (vPre G lo [.ref rd] (vU V [(rd, eO 3 [.ref tp, .int (nI n), .int (nI p)]), (tp, eI (gB G) 400 f)]) sz) (vPost G lo (fun r V' k => r = some (.int (b2i (isD t n p))) ∧ V' = vU V [(rd, eO 3 [.ref tp, .int (nI n), .int (nI p)]), (tp, eI (gB G) 400 f)] ∧ k = sz)) 0 0 (vL lo) := by
  refine vMet (R := RRd) (by decide) rfl (Nat.le_of_ble_eq_true rfl) ?_
  intro pg ev s mi args below meth cd hx hb hr hml hlk hnm hts hown hK hz hV ls hl
  have hl : lv_has ls 1 [(0, .ref rd)] := hl
  have hV0 := hV
  obtain ⟨H, hH⟩ : ∃ H, H = s.heap := ⟨_, rfl⟩
  obtain ⟨locs, hlocs⟩ : ∃ locs : List Loc, locs = [] := ⟨_, rfl⟩
  rw [← hH, ← hlocs]
  rw [← hH] at hz
  replace hV : vS G.1 cls lo s H locs (vU V [(rd, eO 3 [.ref tp, .int (nI n), .int (nI p)]), (tp, eI (gB G) 400 f)]) := by rw [hH, hlocs]; exact hV
  clear hH hlocs hV0
  refine lv_aload_n hx hb d_Rd_isDigitHere_0 rfl (lv_at hl 0 rfl) ?_
  refine u_get hx hb hts inRd hown hK hV hn 0 rfl rfl 2 (by decide) w_fl_Rd_19 rfl rfl d_Rd_isDigitHere_1 ?_
  refine lv_aload_n hx hb d_Rd_isDigitHere_4 rfl (lv_at hl 0 rfl) ?_
  refine u_get hx hb hts inRd hown hK hV hn 0 rfl rfl 1 (by decide) w_fl_Rd_15 rfl rfl d_Rd_isDigitHere_5 ?_
  refine lv_icmp_ge (tgt := 43) hx hb d_Rd_isDigitHere_8 (by decide) (fun c_1 => ?_) (fun c_1 => ?_)
  · replace c_1 : n ≤ p := (nI_leI (a := n) (b := p) (by omega) (by omega)).mp c_1
    have hE : isD t n p = false := isD_no (by omega)
    refine lv_iconst (v := 0) hx hb d_Rd_isDigitHere_43 (by decide) ?_
    exact W.zret (v := 0) hx hb hr (by decide) (v_end hV ⟨by rw [hE]; rfl, rfl, hz⟩) hV.2.1.2.2 d_Rd_isDigitHere_44
  · replace c_1 : ¬ n ≤ p := fun z9 => c_1 ((nI_leI (a := n) (b := p) (by omega) (by omega)).mpr z9)
    refine lv_aload_n hx hb d_Rd_isDigitHere_11 rfl (lv_at hl 0 rfl) ?_
    refine u_get hx hb hts inRd hown hK hV hn 0 rfl rfl 0 (by decide) w_fl_Rd_9 rfl rfl d_Rd_isDigitHere_12 ?_
    refine lv_aload_n hx hb d_Rd_isDigitHere_15 rfl (lv_at hl 0 rfl) ?_
    refine u_get hx hb hts inRd hown hK hV hn 0 rfl rfl 2 (by decide) w_fl_Rd_19 rfl rfl d_Rd_isDigitHere_16 ?_
    refine u_baldN hx hb hK hV hn 1 rfl (by omega) (by decide) d_Rd_isDigitHere_19 ?_
    refine lv_bipush (v := 48) hx hb d_Rd_isDigitHere_20 (by decide) ?_
    refine lv_icmp_lt (tgt := 43) hx hb d_Rd_isDigitHere_22 (by decide) (fun c_2 => ?_) (fun c_2 => ?_)
    · have hE : isD t n p = false := isD_no (fun z => absurd c_2 (Int32.not_lt.mpr ((hT.ge (k := 48) (by omega) (by decide) (by decide)).mpr ⟨z.2.1, by omega⟩)))
      refine lv_iconst (v := 0) hx hb d_Rd_isDigitHere_43 (by decide) ?_
      exact W.zret (v := 0) hx hb hr (by decide) (v_end hV ⟨by rw [hE]; rfl, rfl, hz⟩) hV.2.1.2.2 d_Rd_isDigitHere_44
    · obtain ⟨hlo, hhi⟩ := (hT.ge (k := 48) (p := p) (by omega) (by decide) (by decide)).mp (Int32.not_lt.mp c_2)
      refine lv_aload_n hx hb d_Rd_isDigitHere_25 rfl (lv_at hl 0 rfl) ?_
      refine u_get hx hb hts inRd hown hK hV hn 0 rfl rfl 0 (by decide) w_fl_Rd_9 rfl rfl d_Rd_isDigitHere_26 ?_
      refine lv_aload_n hx hb d_Rd_isDigitHere_29 rfl (lv_at hl 0 rfl) ?_
      refine u_get hx hb hts inRd hown hK hV hn 0 rfl rfl 2 (by decide) w_fl_Rd_19 rfl rfl d_Rd_isDigitHere_30 ?_
      refine u_baldN hx hb hK hV hn 1 rfl (by omega) (by decide) d_Rd_isDigitHere_33 ?_
      refine lv_bipush (v := 57) hx hb d_Rd_isDigitHere_34 (by decide) ?_
      refine lv_icmp_gt (tgt := 43) hx hb d_Rd_isDigitHere_36 (by decide) (fun c_3 => ?_) (fun c_3 => ?_)
      · have hE : isD t n p = false := isD_no (fun z => absurd c_3 (Int32.not_lt.mpr ((hT.le (k := 57) (by omega) hhi (by decide)).mpr z.2.2)))
        refine lv_iconst (v := 0) hx hb d_Rd_isDigitHere_43 (by decide) ?_
        exact W.zret (v := 0) hx hb hr (by decide) (v_end hV ⟨by rw [hE]; rfl, rfl, hz⟩) hV.2.1.2.2 d_Rd_isDigitHere_44
      · have hE : isD t n p = true := isD_yes (by omega) hlo ((hT.le (k := 57) (by omega) hhi (by decide)).mp (Int32.not_lt.mp c_3))
        refine lv_iconst (v := 1) hx hb d_Rd_isDigitHere_39 (by decide) ?_
        refine lv_goto (tgt := 44) hx hb d_Rd_isDigitHere_40 (by decide) ?_
        exact W.zret (v := 1) hx hb hr (by decide) (v_end hV ⟨by rw [hE]; rfl, rfl, hz⟩) hV.2.1.2.2 d_Rd_isDigitHere_44

set_option maxHeartbeats 4000000 in
set_option maxRecDepth 100000 in
/-- Reader.isLetterHere -/
theorem c_Rd_isLetterHere (l : Launch) (G : Gx) (lo : Nat) (V : Vw) (sz : Nat) (rd tp : Nat) (f : Nat → Int32) (t : Nat → Nat) (n p : Nat) (hn : [rd, tp].Nodup) (hT : tpOk f t n) (h4 : n ≤ 400) (hp : p ≤ n) : Met l y_Rd_isLetterHere ws_Rd_isLetterHere ({ frames := 0, cells := 0, slots := 0, locals := 0 } : Room) (vPre G lo [.ref rd] (vU V [(rd, eO 3 [.ref tp, .int (nI n), .int (nI p)]), (tp, eI (gB G) 400 f)]) sz) (vPost G lo (fun r V' k => r = some (.int (b2i (isL t n p))) ∧ V' = vU V [(rd, eO 3 [.ref tp, .int (nI n), .int (nI p)]), (tp, eI (gB G) 400 f)] ∧ k = sz)) 0 0 (vL lo) := by
  refine vMet (R := RRd) (by decide) rfl (Nat.le_of_ble_eq_true rfl) ?_
  intro pg ev s mi args below meth cd hx hb hr hml hlk hnm hts hown hK hz hV ls hl
  have hl : lv_has ls 1 [(0, .ref rd)] := hl
  have hV0 := hV
  obtain ⟨H, hH⟩ : ∃ H, H = s.heap := ⟨_, rfl⟩
  obtain ⟨locs, hlocs⟩ : ∃ locs : List Loc, locs = [] := ⟨_, rfl⟩
  rw [← hH, ← hlocs]
  rw [← hH] at hz
  replace hV : vS G.1 cls lo s H locs (vU V [(rd, eO 3 [.ref tp, .int (nI n), .int (nI p)]), (tp, eI (gB G) 400 f)]) := by rw [hH, hlocs]; exact hV
  clear hH hlocs hV0
  refine lv_aload_n hx hb d_Rd_isLetterHere_0 rfl (lv_at hl 0 rfl) ?_
  refine u_get hx hb hts inRd hown hK hV hn 0 rfl rfl 2 (by decide) w_fl_Rd_19 rfl rfl d_Rd_isLetterHere_1 ?_
  refine lv_aload_n hx hb d_Rd_isLetterHere_4 rfl (lv_at hl 0 rfl) ?_
  refine u_get hx hb hts inRd hown hK hV hn 0 rfl rfl 1 (by decide) w_fl_Rd_15 rfl rfl d_Rd_isLetterHere_5 ?_
  refine lv_icmp_ge (tgt := 43) hx hb d_Rd_isLetterHere_8 (by decide) (fun c_1 => ?_) (fun c_1 => ?_)
  · replace c_1 : n ≤ p := (nI_leI (a := n) (b := p) (by omega) (by omega)).mp c_1
    have hE : isL t n p = false := isL_no (by omega)
    refine lv_iconst (v := 0) hx hb d_Rd_isLetterHere_43 (by decide) ?_
    exact W.zret (v := 0) hx hb hr (by decide) (v_end hV ⟨by rw [hE]; rfl, rfl, hz⟩) hV.2.1.2.2 d_Rd_isLetterHere_44
  · replace c_1 : ¬ n ≤ p := fun z9 => c_1 ((nI_leI (a := n) (b := p) (by omega) (by omega)).mpr z9)
    refine lv_aload_n hx hb d_Rd_isLetterHere_11 rfl (lv_at hl 0 rfl) ?_
    refine u_get hx hb hts inRd hown hK hV hn 0 rfl rfl 0 (by decide) w_fl_Rd_9 rfl rfl d_Rd_isLetterHere_12 ?_
    refine lv_aload_n hx hb d_Rd_isLetterHere_15 rfl (lv_at hl 0 rfl) ?_
    refine u_get hx hb hts inRd hown hK hV hn 0 rfl rfl 2 (by decide) w_fl_Rd_19 rfl rfl d_Rd_isLetterHere_16 ?_
    refine u_baldN hx hb hK hV hn 1 rfl (by omega) (by decide) d_Rd_isLetterHere_19 ?_
    refine lv_bipush (v := 97) hx hb d_Rd_isLetterHere_20 (by decide) ?_
    refine lv_icmp_lt (tgt := 43) hx hb d_Rd_isLetterHere_22 (by decide) (fun c_2 => ?_) (fun c_2 => ?_)
    · have hE : isL t n p = false := isL_no (fun z => absurd c_2 (Int32.not_lt.mpr ((hT.ge (k := 97) (by omega) (by decide) (by decide)).mpr ⟨z.2.1, by omega⟩)))
      refine lv_iconst (v := 0) hx hb d_Rd_isLetterHere_43 (by decide) ?_
      exact W.zret (v := 0) hx hb hr (by decide) (v_end hV ⟨by rw [hE]; rfl, rfl, hz⟩) hV.2.1.2.2 d_Rd_isLetterHere_44
    · obtain ⟨hlo, hhi⟩ := (hT.ge (k := 97) (p := p) (by omega) (by decide) (by decide)).mp (Int32.not_lt.mp c_2)
      refine lv_aload_n hx hb d_Rd_isLetterHere_25 rfl (lv_at hl 0 rfl) ?_
      refine u_get hx hb hts inRd hown hK hV hn 0 rfl rfl 0 (by decide) w_fl_Rd_9 rfl rfl d_Rd_isLetterHere_26 ?_
      refine lv_aload_n hx hb d_Rd_isLetterHere_29 rfl (lv_at hl 0 rfl) ?_
      refine u_get hx hb hts inRd hown hK hV hn 0 rfl rfl 2 (by decide) w_fl_Rd_19 rfl rfl d_Rd_isLetterHere_30 ?_
      refine u_baldN hx hb hK hV hn 1 rfl (by omega) (by decide) d_Rd_isLetterHere_33 ?_
      refine lv_bipush (v := 122) hx hb d_Rd_isLetterHere_34 (by decide) ?_
      refine lv_icmp_gt (tgt := 43) hx hb d_Rd_isLetterHere_36 (by decide) (fun c_3 => ?_) (fun c_3 => ?_)
      · have hE : isL t n p = false := isL_no (fun z => absurd c_3 (Int32.not_lt.mpr ((hT.le (k := 122) (by omega) hhi (by decide)).mpr z.2.2)))
        refine lv_iconst (v := 0) hx hb d_Rd_isLetterHere_43 (by decide) ?_
        exact W.zret (v := 0) hx hb hr (by decide) (v_end hV ⟨by rw [hE]; rfl, rfl, hz⟩) hV.2.1.2.2 d_Rd_isLetterHere_44
      · have hE : isL t n p = true := isL_yes (by omega) hlo ((hT.le (k := 122) (by omega) hhi (by decide)).mp (Int32.not_lt.mp c_3))
        refine lv_iconst (v := 1) hx hb d_Rd_isLetterHere_39 (by decide) ?_
        refine lv_goto (tgt := 44) hx hb d_Rd_isLetterHere_40 (by decide) ?_
        exact W.zret (v := 1) hx hb hr (by decide) (v_end hV ⟨by rw [hE]; rfl, rfl, hz⟩) hV.2.1.2.2 d_Rd_isLetterHere_44
