theorem take_getD {L : List Nat} {i : Nat} (h : i < L.length) : L.take i ++ [L.getD i 0] = L.take (i + 1) := by
  rw [getD_in h]
  exact (List.take_succ_eq_append_getElem h).symm
theorem prSp_le9 {c : Nat} {fp fm : Nat → Int32} {B : Nat → Option (Nat × Nat)} (h : spOk fp fm B) : ∀ k, k ≤ 30 → (prSp c B k).length ≤ 12 * k
  | 0, _ => by simp [prSp]
  | k + 1, hk => by
    have ih := prSp_le9 (c := c) h k (by omega)
    rcases h (k + 1) (by omega) hk with ⟨-, e⟩ | ⟨x, y, -, -, e, -, h2, -⟩
    · rw [prSp_n e]; omega
    · have := prSp_bd (c := c) (B := B) (x := x) (y := y) hk h2
      rw [prSp_s e, List.length_append]
      omega
theorem d_Pr_init_0 : decode b_Pr_init 0 = .ok (.aload_n 0, 1) := by decide +kernel
theorem d_Pr_init_1 : decode b_Pr_init 1 = .ok (.invokespecial 5, 3) := by decide +kernel
theorem d_Pr_init_4 : decode b_Pr_init 4 = .ok (.aload_n 0, 1) := by decide +kernel
theorem d_Pr_init_5 : decode b_Pr_init 5 = .ok (.sipush 4880, 3) := by decide +kernel
theorem d_Pr_init_8 : decode b_Pr_init 8 = .ok (.newarray .byte, 2) := by decide +kernel
theorem d_Pr_init_10 : decode b_Pr_init 10 = .ok (.putfield 11, 3) := by decide +kernel
theorem d_Pr_init_13 : decode b_Pr_init 13 = .ok (.return_, 1) := by decide +kernel
theorem d_Pr_putTown_0 : decode b_Pr_putTown 0 = .ok (.aload_n 0, 1) := by decide +kernel
theorem d_Pr_putTown_1 : decode b_Pr_putTown 1 = .ok (.iconst 0, 1) := by decide +kernel
theorem d_Pr_putTown_2 : decode b_Pr_putTown 2 = .ok (.putfield 15, 3) := by decide +kernel
theorem d_Pr_putTown_5 : decode b_Pr_putTown 5 = .ok (.iconst 1, 1) := by decide +kernel
theorem d_Pr_putTown_6 : decode b_Pr_putTown 6 = .ok (.istore_n 2, 1) := by decide +kernel
theorem d_Pr_putTown_7 : decode b_Pr_putTown 7 = .ok (.iload_n 2, 1) := by decide +kernel
theorem d_Pr_putTown_8 : decode b_Pr_putTown 8 = .ok (.bipush 60, 2) := by decide +kernel
theorem d_Pr_putTown_10 : decode b_Pr_putTown 10 = .ok (.if_icmp .gt 25, 3) := by decide +kernel
theorem d_Pr_putTown_13 : decode b_Pr_putTown 13 = .ok (.aload_n 1, 1) := by decide +kernel
theorem d_Pr_putTown_14 : decode b_Pr_putTown 14 = .ok (.iload_n 2, 1) := by decide +kernel
theorem d_Pr_putTown_15 : decode b_Pr_putTown 15 = .ok (.invokevirtual 19, 3) := by decide +kernel
theorem d_Pr_putTown_18 : decode b_Pr_putTown 18 = .ok (.astore_n 3, 1) := by decide +kernel
theorem d_Pr_putTown_19 : decode b_Pr_putTown 19 = .ok (.aload_n 3, 1) := by decide +kernel
theorem d_Pr_putTown_20 : decode b_Pr_putTown 20 = .ok (.ifnull 9, 3) := by decide +kernel
theorem d_Pr_putTown_23 : decode b_Pr_putTown 23 = .ok (.aload_n 0, 1) := by decide +kernel
theorem d_Pr_putTown_24 : decode b_Pr_putTown 24 = .ok (.iload_n 2, 1) := by decide +kernel
theorem d_Pr_putTown_25 : decode b_Pr_putTown 25 = .ok (.aload_n 3, 1) := by decide +kernel
theorem d_Pr_putTown_26 : decode b_Pr_putTown 26 = .ok (.invokevirtual 25, 3) := by decide +kernel
theorem d_Pr_putTown_29 : decode b_Pr_putTown 29 = .ok (.iinc 2 1, 3) := by decide +kernel
theorem d_Pr_putTown_32 : decode b_Pr_putTown 32 = .ok (.goto (-25), 3) := by decide +kernel
theorem d_Pr_putTown_35 : decode b_Pr_putTown 35 = .ok (.aload_n 0, 1) := by decide +kernel
theorem d_Pr_putTown_36 : decode b_Pr_putTown 36 = .ok (.bipush 104, 2) := by decide +kernel
theorem d_Pr_putTown_38 : decode b_Pr_putTown 38 = .ok (.aload_n 1, 1) := by decide +kernel
theorem d_Pr_putTown_39 : decode b_Pr_putTown 39 = .ok (.getfield 29, 3) := by decide +kernel
theorem d_Pr_putTown_42 : decode b_Pr_putTown 42 = .ok (.invokevirtual 33, 3) := by decide +kernel
theorem d_Pr_putTown_45 : decode b_Pr_putTown 45 = .ok (.aload_n 0, 1) := by decide +kernel
theorem d_Pr_putTown_46 : decode b_Pr_putTown 46 = .ok (.bipush 115, 2) := by decide +kernel
theorem d_Pr_putTown_48 : decode b_Pr_putTown 48 = .ok (.aload_n 1, 1) := by decide +kernel
theorem d_Pr_putTown_49 : decode b_Pr_putTown 49 = .ok (.getfield 37, 3) := by decide +kernel
theorem d_Pr_putTown_52 : decode b_Pr_putTown 52 = .ok (.invokevirtual 33, 3) := by decide +kernel
theorem d_Pr_putTown_55 : decode b_Pr_putTown 55 = .ok (.aload_n 0, 1) := by decide +kernel
theorem d_Pr_putTown_56 : decode b_Pr_putTown 56 = .ok (.aload_n 1, 1) := by decide +kernel
theorem d_Pr_putTown_57 : decode b_Pr_putTown 57 = .ok (.getfield 40, 3) := by decide +kernel
theorem d_Pr_putTown_60 : decode b_Pr_putTown 60 = .ok (.invokevirtual 44, 3) := by decide +kernel
theorem d_Pr_putTown_63 : decode b_Pr_putTown 63 = .ok (.return_, 1) := by decide +kernel
theorem d_Pr_putPiece_0 : decode b_Pr_putPiece 0 = .ok (.aload_n 0, 1) := by decide +kernel
theorem d_Pr_putPiece_1 : decode b_Pr_putPiece 1 = .ok (.bipush 112, 2) := by decide +kernel
theorem d_Pr_putPiece_3 : decode b_Pr_putPiece 3 = .ok (.iload_n 1, 1) := by decide +kernel
theorem d_Pr_putPiece_4 : decode b_Pr_putPiece 4 = .ok (.invokevirtual 48, 3) := by decide +kernel
theorem d_Pr_putPiece_7 : decode b_Pr_putPiece 7 = .ok (.aload_n 0, 1) := by decide +kernel
theorem d_Pr_putPiece_8 : decode b_Pr_putPiece 8 = .ok (.bipush 61, 2) := by decide +kernel
theorem d_Pr_putPiece_10 : decode b_Pr_putPiece 10 = .ok (.aload_n 2, 1) := by decide +kernel
theorem d_Pr_putPiece_11 : decode b_Pr_putPiece 11 = .ok (.getfield 52, 3) := by decide +kernel
theorem d_Pr_putPiece_14 : decode b_Pr_putPiece 14 = .ok (.invokevirtual 48, 3) := by decide +kernel
theorem d_Pr_putPiece_17 : decode b_Pr_putPiece 17 = .ok (.aload_n 0, 1) := by decide +kernel
theorem d_Pr_putPiece_18 : decode b_Pr_putPiece 18 = .ok (.aload_n 2, 1) := by decide +kernel
theorem d_Pr_putPiece_19 : decode b_Pr_putPiece 19 = .ok (.getfield 57, 3) := by decide +kernel
theorem d_Pr_putPiece_22 : decode b_Pr_putPiece 22 = .ok (.ifCond .eq 8, 3) := by decide +kernel
theorem d_Pr_putPiece_25 : decode b_Pr_putPiece 25 = .ok (.bipush 62, 2) := by decide +kernel
theorem d_Pr_putPiece_27 : decode b_Pr_putPiece 27 = .ok (.goto 5, 3) := by decide +kernel
theorem d_Pr_putPiece_30 : decode b_Pr_putPiece 30 = .ok (.bipush 45, 2) := by decide +kernel
theorem d_Pr_putPiece_32 : decode b_Pr_putPiece 32 = .ok (.aload_n 2, 1) := by decide +kernel
theorem d_Pr_putPiece_33 : decode b_Pr_putPiece 33 = .ok (.getfield 61, 3) := by decide +kernel
theorem d_Pr_putPiece_36 : decode b_Pr_putPiece 36 = .ok (.invokevirtual 48, 3) := by decide +kernel
theorem d_Pr_putPiece_39 : decode b_Pr_putPiece 39 = .ok (.aload_n 0, 1) := by decide +kernel
theorem d_Pr_putPiece_40 : decode b_Pr_putPiece 40 = .ok (.bipush 58, 2) := by decide +kernel
theorem d_Pr_putPiece_42 : decode b_Pr_putPiece 42 = .ok (.aload_n 2, 1) := by decide +kernel
theorem d_Pr_putPiece_43 : decode b_Pr_putPiece 43 = .ok (.getfield 64, 3) := by decide +kernel
theorem d_Pr_putPiece_46 : decode b_Pr_putPiece 46 = .ok (.invokevirtual 48, 3) := by decide +kernel
theorem d_Pr_putPiece_49 : decode b_Pr_putPiece 49 = .ok (.aload_n 0, 1) := by decide +kernel
theorem d_Pr_putPiece_50 : decode b_Pr_putPiece 50 = .ok (.aload_n 2, 1) := by decide +kernel
theorem d_Pr_putPiece_51 : decode b_Pr_putPiece 51 = .ok (.getfield 65, 3) := by decide +kernel
theorem d_Pr_putPiece_54 : decode b_Pr_putPiece 54 = .ok (.invokestatic 68, 3) := by decide +kernel
theorem d_Pr_putPiece_57 : decode b_Pr_putPiece 57 = .ok (.aload_n 2, 1) := by decide +kernel
theorem d_Pr_putPiece_58 : decode b_Pr_putPiece 58 = .ok (.getfield 72, 3) := by decide +kernel
theorem d_Pr_putPiece_61 : decode b_Pr_putPiece 61 = .ok (.invokevirtual 48, 3) := by decide +kernel
theorem d_Pr_putPiece_64 : decode b_Pr_putPiece 64 = .ok (.iconst 0, 1) := by decide +kernel
theorem d_Pr_putPiece_65 : decode b_Pr_putPiece 65 = .ok (.istore_n 3, 1) := by decide +kernel
theorem d_Pr_putPiece_66 : decode b_Pr_putPiece 66 = .ok (.iload_n 3, 1) := by decide +kernel
theorem d_Pr_putPiece_67 : decode b_Pr_putPiece 67 = .ok (.aload_n 2, 1) := by decide +kernel
theorem d_Pr_putPiece_68 : decode b_Pr_putPiece 68 = .ok (.getfield 75, 3) := by decide +kernel
theorem d_Pr_putPiece_71 : decode b_Pr_putPiece 71 = .ok (.if_icmp .ge 56, 3) := by decide +kernel
theorem d_Pr_putPiece_74 : decode b_Pr_putPiece 74 = .ok (.iload_n 3, 1) := by decide +kernel
theorem d_Pr_putPiece_75 : decode b_Pr_putPiece 75 = .ok (.iconst 3, 1) := by decide +kernel
theorem d_Pr_putPiece_76 : decode b_Pr_putPiece 76 = .ok (.if_icmp .ge 51, 3) := by decide +kernel
theorem d_Pr_putPiece_79 : decode b_Pr_putPiece 79 = .ok (.aload_n 0, 1) := by decide +kernel
theorem d_Pr_putPiece_80 : decode b_Pr_putPiece 80 = .ok (.bipush 91, 2) := by decide +kernel
theorem d_Pr_putPiece_82 : decode b_Pr_putPiece 82 = .ok (.aload_n 2, 1) := by decide +kernel
theorem d_Pr_putPiece_83 : decode b_Pr_putPiece 83 = .ok (.getfield 78, 3) := by decide +kernel
theorem d_Pr_putPiece_86 : decode b_Pr_putPiece 86 = .ok (.iload_n 3, 1) := by decide +kernel
theorem d_Pr_putPiece_87 : decode b_Pr_putPiece 87 = .ok (.iaload, 1) := by decide +kernel
theorem d_Pr_putPiece_88 : decode b_Pr_putPiece 88 = .ok (.invokevirtual 48, 3) := by decide +kernel
theorem d_Pr_putPiece_91 : decode b_Pr_putPiece 91 = .ok (.aload_n 0, 1) := by decide +kernel
theorem d_Pr_putPiece_92 : decode b_Pr_putPiece 92 = .ok (.bipush 45, 2) := by decide +kernel
theorem d_Pr_putPiece_94 : decode b_Pr_putPiece 94 = .ok (.aload_n 2, 1) := by decide +kernel
theorem d_Pr_putPiece_95 : decode b_Pr_putPiece 95 = .ok (.getfield 82, 3) := by decide +kernel
theorem d_Pr_putPiece_98 : decode b_Pr_putPiece 98 = .ok (.iload_n 3, 1) := by decide +kernel
theorem d_Pr_putPiece_99 : decode b_Pr_putPiece 99 = .ok (.iaload, 1) := by decide +kernel
theorem d_Pr_putPiece_100 : decode b_Pr_putPiece 100 = .ok (.invokevirtual 48, 3) := by decide +kernel
theorem d_Pr_putPiece_103 : decode b_Pr_putPiece 103 = .ok (.aload_n 0, 1) := by decide +kernel
theorem d_Pr_putPiece_104 : decode b_Pr_putPiece 104 = .ok (.bipush 58, 2) := by decide +kernel
theorem d_Pr_putPiece_106 : decode b_Pr_putPiece 106 = .ok (.aload_n 2, 1) := by decide +kernel
theorem d_Pr_putPiece_107 : decode b_Pr_putPiece 107 = .ok (.getfield 85, 3) := by decide +kernel
theorem d_Pr_putPiece_110 : decode b_Pr_putPiece 110 = .ok (.iload_n 3, 1) := by decide +kernel
theorem d_Pr_putPiece_111 : decode b_Pr_putPiece 111 = .ok (.iaload, 1) := by decide +kernel
theorem d_Pr_putPiece_112 : decode b_Pr_putPiece 112 = .ok (.invokevirtual 48, 3) := by decide +kernel
theorem d_Pr_putPiece_115 : decode b_Pr_putPiece 115 = .ok (.aload_n 0, 1) := by decide +kernel
theorem d_Pr_putPiece_116 : decode b_Pr_putPiece 116 = .ok (.bipush 93, 2) := by decide +kernel
theorem d_Pr_putPiece_118 : decode b_Pr_putPiece 118 = .ok (.invokevirtual 88, 3) := by decide +kernel
theorem d_Pr_putPiece_121 : decode b_Pr_putPiece 121 = .ok (.iinc 3 1, 3) := by decide +kernel
theorem d_Pr_putPiece_124 : decode b_Pr_putPiece 124 = .ok (.goto (-58), 3) := by decide +kernel
theorem d_Pr_putPiece_127 : decode b_Pr_putPiece 127 = .ok (.aload_n 2, 1) := by decide +kernel
theorem d_Pr_putPiece_128 : decode b_Pr_putPiece 128 = .ok (.getfield 92, 3) := by decide +kernel
theorem d_Pr_putPiece_131 : decode b_Pr_putPiece 131 = .ok (.ifCond .eq 13, 3) := by decide +kernel
theorem d_Pr_putPiece_134 : decode b_Pr_putPiece 134 = .ok (.aload_n 0, 1) := by decide +kernel
theorem d_Pr_putPiece_135 : decode b_Pr_putPiece 135 = .ok (.bipush 94, 2) := by decide +kernel
theorem d_Pr_putPiece_137 : decode b_Pr_putPiece 137 = .ok (.aload_n 2, 1) := by decide +kernel
theorem d_Pr_putPiece_138 : decode b_Pr_putPiece 138 = .ok (.getfield 92, 3) := by decide +kernel
theorem d_Pr_putPiece_141 : decode b_Pr_putPiece 141 = .ok (.invokevirtual 48, 3) := by decide +kernel
theorem d_Pr_putPiece_144 : decode b_Pr_putPiece 144 = .ok (.aload_n 2, 1) := by decide +kernel
theorem d_Pr_putPiece_145 : decode b_Pr_putPiece 145 = .ok (.getfield 95, 3) := by decide +kernel
theorem d_Pr_putPiece_148 : decode b_Pr_putPiece 148 = .ok (.ifCond .eq 13, 3) := by decide +kernel
theorem d_Pr_putPiece_151 : decode b_Pr_putPiece 151 = .ok (.aload_n 0, 1) := by decide +kernel
theorem d_Pr_putPiece_152 : decode b_Pr_putPiece 152 = .ok (.bipush 33, 2) := by decide +kernel
theorem d_Pr_putPiece_154 : decode b_Pr_putPiece 154 = .ok (.aload_n 2, 1) := by decide +kernel
theorem d_Pr_putPiece_155 : decode b_Pr_putPiece 155 = .ok (.getfield 95, 3) := by decide +kernel
theorem d_Pr_putPiece_158 : decode b_Pr_putPiece 158 = .ok (.invokevirtual 48, 3) := by decide +kernel
theorem d_Pr_putPiece_161 : decode b_Pr_putPiece 161 = .ok (.aload_n 2, 1) := by decide +kernel
theorem d_Pr_putPiece_162 : decode b_Pr_putPiece 162 = .ok (.getfield 98, 3) := by decide +kernel
theorem d_Pr_putPiece_165 : decode b_Pr_putPiece 165 = .ok (.iconst (-1), 1) := by decide +kernel
theorem d_Pr_putPiece_166 : decode b_Pr_putPiece 166 = .ok (.if_icmp .eq 8, 3) := by decide +kernel
theorem d_Pr_putPiece_169 : decode b_Pr_putPiece 169 = .ok (.aload_n 0, 1) := by decide +kernel
theorem d_Pr_putPiece_170 : decode b_Pr_putPiece 170 = .ok (.aload_n 2, 1) := by decide +kernel
theorem d_Pr_putPiece_171 : decode b_Pr_putPiece 171 = .ok (.invokevirtual 101, 3) := by decide +kernel
theorem d_Pr_putPiece_174 : decode b_Pr_putPiece 174 = .ok (.aload_n 0, 1) := by decide +kernel
theorem d_Pr_putPiece_175 : decode b_Pr_putPiece 175 = .ok (.bipush 59, 2) := by decide +kernel
theorem d_Pr_putPiece_177 : decode b_Pr_putPiece 177 = .ok (.invokevirtual 88, 3) := by decide +kernel
theorem d_Pr_putPiece_180 : decode b_Pr_putPiece 180 = .ok (.return_, 1) := by decide +kernel
theorem d_Pr_putWithNumber_0 : decode b_Pr_putWithNumber 0 = .ok (.aload_n 0, 1) := by decide +kernel
theorem d_Pr_putWithNumber_1 : decode b_Pr_putWithNumber 1 = .ok (.iload_n 1, 1) := by decide +kernel
theorem d_Pr_putWithNumber_2 : decode b_Pr_putWithNumber 2 = .ok (.invokevirtual 88, 3) := by decide +kernel
theorem d_Pr_putWithNumber_5 : decode b_Pr_putWithNumber 5 = .ok (.iload_n 2, 1) := by decide +kernel
theorem d_Pr_putWithNumber_6 : decode b_Pr_putWithNumber 6 = .ok (.sipush 1000, 3) := by decide +kernel
theorem d_Pr_putWithNumber_9 : decode b_Pr_putWithNumber 9 = .ok (.if_icmp .lt 15, 3) := by decide +kernel
theorem d_Pr_putWithNumber_12 : decode b_Pr_putWithNumber 12 = .ok (.aload_n 0, 1) := by decide +kernel
theorem d_Pr_putWithNumber_13 : decode b_Pr_putWithNumber 13 = .ok (.bipush 48, 2) := by decide +kernel
theorem d_Pr_putWithNumber_15 : decode b_Pr_putWithNumber 15 = .ok (.iload_n 2, 1) := by decide +kernel
theorem d_Pr_putWithNumber_16 : decode b_Pr_putWithNumber 16 = .ok (.sipush 1000, 3) := by decide +kernel
theorem d_Pr_putWithNumber_19 : decode b_Pr_putWithNumber 19 = .ok (.idiv, 1) := by decide +kernel
theorem d_Pr_putWithNumber_20 : decode b_Pr_putWithNumber 20 = .ok (.iadd, 1) := by decide +kernel
theorem d_Pr_putWithNumber_21 : decode b_Pr_putWithNumber 21 = .ok (.invokevirtual 88, 3) := by decide +kernel
theorem d_Pr_putWithNumber_24 : decode b_Pr_putWithNumber 24 = .ok (.iload_n 2, 1) := by decide +kernel
theorem d_Pr_putWithNumber_25 : decode b_Pr_putWithNumber 25 = .ok (.bipush 100, 2) := by decide +kernel
theorem d_Pr_putWithNumber_27 : decode b_Pr_putWithNumber 27 = .ok (.if_icmp .lt 17, 3) := by decide +kernel
theorem d_Pr_putWithNumber_30 : decode b_Pr_putWithNumber 30 = .ok (.aload_n 0, 1) := by decide +kernel
theorem d_Pr_putWithNumber_31 : decode b_Pr_putWithNumber 31 = .ok (.bipush 48, 2) := by decide +kernel
theorem d_Pr_putWithNumber_33 : decode b_Pr_putWithNumber 33 = .ok (.iload_n 2, 1) := by decide +kernel
theorem d_Pr_putWithNumber_34 : decode b_Pr_putWithNumber 34 = .ok (.bipush 100, 2) := by decide +kernel
theorem d_Pr_putWithNumber_36 : decode b_Pr_putWithNumber 36 = .ok (.idiv, 1) := by decide +kernel
theorem d_Pr_putWithNumber_37 : decode b_Pr_putWithNumber 37 = .ok (.bipush 10, 2) := by decide +kernel
theorem d_Pr_putWithNumber_39 : decode b_Pr_putWithNumber 39 = .ok (.irem, 1) := by decide +kernel
theorem d_Pr_putWithNumber_40 : decode b_Pr_putWithNumber 40 = .ok (.iadd, 1) := by decide +kernel
theorem d_Pr_putWithNumber_41 : decode b_Pr_putWithNumber 41 = .ok (.invokevirtual 88, 3) := by decide +kernel
theorem d_Pr_putWithNumber_44 : decode b_Pr_putWithNumber 44 = .ok (.iload_n 2, 1) := by decide +kernel
theorem d_Pr_putWithNumber_45 : decode b_Pr_putWithNumber 45 = .ok (.bipush 10, 2) := by decide +kernel
theorem d_Pr_putWithNumber_47 : decode b_Pr_putWithNumber 47 = .ok (.if_icmp .lt 17, 3) := by decide +kernel
theorem d_Pr_putWithNumber_50 : decode b_Pr_putWithNumber 50 = .ok (.aload_n 0, 1) := by decide +kernel
theorem d_Pr_putWithNumber_51 : decode b_Pr_putWithNumber 51 = .ok (.bipush 48, 2) := by decide +kernel
theorem d_Pr_putWithNumber_53 : decode b_Pr_putWithNumber 53 = .ok (.iload_n 2, 1) := by decide +kernel
theorem d_Pr_putWithNumber_54 : decode b_Pr_putWithNumber 54 = .ok (.bipush 10, 2) := by decide +kernel
theorem d_Pr_putWithNumber_56 : decode b_Pr_putWithNumber 56 = .ok (.idiv, 1) := by decide +kernel
theorem d_Pr_putWithNumber_57 : decode b_Pr_putWithNumber 57 = .ok (.bipush 10, 2) := by decide +kernel
theorem d_Pr_putWithNumber_59 : decode b_Pr_putWithNumber 59 = .ok (.irem, 1) := by decide +kernel
theorem d_Pr_putWithNumber_60 : decode b_Pr_putWithNumber 60 = .ok (.iadd, 1) := by decide +kernel
theorem d_Pr_putWithNumber_61 : decode b_Pr_putWithNumber 61 = .ok (.invokevirtual 88, 3) := by decide +kernel
theorem d_Pr_putWithNumber_64 : decode b_Pr_putWithNumber 64 = .ok (.aload_n 0, 1) := by decide +kernel
theorem d_Pr_putWithNumber_65 : decode b_Pr_putWithNumber 65 = .ok (.bipush 48, 2) := by decide +kernel
theorem d_Pr_putWithNumber_67 : decode b_Pr_putWithNumber 67 = .ok (.iload_n 2, 1) := by decide +kernel
theorem d_Pr_putWithNumber_68 : decode b_Pr_putWithNumber 68 = .ok (.bipush 10, 2) := by decide +kernel
theorem d_Pr_putWithNumber_70 : decode b_Pr_putWithNumber 70 = .ok (.irem, 1) := by decide +kernel
theorem d_Pr_putWithNumber_71 : decode b_Pr_putWithNumber 71 = .ok (.iadd, 1) := by decide +kernel
theorem d_Pr_putWithNumber_72 : decode b_Pr_putWithNumber 72 = .ok (.invokevirtual 88, 3) := by decide +kernel
theorem d_Pr_putWithNumber_75 : decode b_Pr_putWithNumber 75 = .ok (.return_, 1) := by decide +kernel
theorem d_Pr_put_0 : decode b_Pr_put 0 = .ok (.aload_n 0, 1) := by decide +kernel
theorem d_Pr_put_1 : decode b_Pr_put 1 = .ok (.getfield 15, 3) := by decide +kernel
theorem d_Pr_put_4 : decode b_Pr_put 4 = .ok (.sipush 4880, 3) := by decide +kernel
theorem d_Pr_put_7 : decode b_Pr_put 7 = .ok (.if_icmp .ge 24, 3) := by decide +kernel
theorem d_Pr_put_10 : decode b_Pr_put 10 = .ok (.aload_n 0, 1) := by decide +kernel
theorem d_Pr_put_11 : decode b_Pr_put 11 = .ok (.getfield 11, 3) := by decide +kernel
theorem d_Pr_put_14 : decode b_Pr_put 14 = .ok (.aload_n 0, 1) := by decide +kernel
theorem d_Pr_put_15 : decode b_Pr_put 15 = .ok (.getfield 15, 3) := by decide +kernel
theorem d_Pr_put_18 : decode b_Pr_put 18 = .ok (.iload_n 1, 1) := by decide +kernel
theorem d_Pr_put_19 : decode b_Pr_put 19 = .ok (.i2b, 1) := by decide +kernel
theorem d_Pr_put_20 : decode b_Pr_put 20 = .ok (.bastore, 1) := by decide +kernel
theorem d_Pr_put_21 : decode b_Pr_put 21 = .ok (.aload_n 0, 1) := by decide +kernel
theorem d_Pr_put_22 : decode b_Pr_put 22 = .ok (.dup, 1) := by decide +kernel
theorem d_Pr_put_23 : decode b_Pr_put 23 = .ok (.getfield 15, 3) := by decide +kernel
theorem d_Pr_put_26 : decode b_Pr_put 26 = .ok (.iconst 1, 1) := by decide +kernel
theorem d_Pr_put_27 : decode b_Pr_put 27 = .ok (.iadd, 1) := by decide +kernel
theorem d_Pr_put_28 : decode b_Pr_put 28 = .ok (.putfield 15, 3) := by decide +kernel
theorem d_Pr_put_31 : decode b_Pr_put 31 = .ok (.return_, 1) := by decide +kernel
theorem d_Pr_putNameAndArea_0 : decode b_Pr_putNameAndArea 0 = .ok (.aload_n 0, 1) := by decide +kernel
theorem d_Pr_putNameAndArea_1 : decode b_Pr_putNameAndArea 1 = .ok (.bipush 34, 2) := by decide +kernel
theorem d_Pr_putNameAndArea_3 : decode b_Pr_putNameAndArea 3 = .ok (.invokevirtual 88, 3) := by decide +kernel
theorem d_Pr_putNameAndArea_6 : decode b_Pr_putNameAndArea 6 = .ok (.iconst 0, 1) := by decide +kernel
theorem d_Pr_putNameAndArea_7 : decode b_Pr_putNameAndArea 7 = .ok (.istore_n 2, 1) := by decide +kernel
theorem d_Pr_putNameAndArea_8 : decode b_Pr_putNameAndArea 8 = .ok (.iload_n 2, 1) := by decide +kernel
theorem d_Pr_putNameAndArea_9 : decode b_Pr_putNameAndArea 9 = .ok (.aload_n 1, 1) := by decide +kernel
theorem d_Pr_putNameAndArea_10 : decode b_Pr_putNameAndArea 10 = .ok (.getfield 116, 3) := by decide +kernel
theorem d_Pr_putNameAndArea_13 : decode b_Pr_putNameAndArea 13 = .ok (.if_icmp .ge 18, 3) := by decide +kernel
theorem d_Pr_putNameAndArea_16 : decode b_Pr_putNameAndArea 16 = .ok (.aload_n 0, 1) := by decide +kernel
theorem d_Pr_putNameAndArea_17 : decode b_Pr_putNameAndArea 17 = .ok (.aload_n 1, 1) := by decide +kernel
theorem d_Pr_putNameAndArea_18 : decode b_Pr_putNameAndArea 18 = .ok (.iload_n 2, 1) := by decide +kernel
theorem d_Pr_putNameAndArea_19 : decode b_Pr_putNameAndArea 19 = .ok (.invokevirtual 119, 3) := by decide +kernel
theorem d_Pr_putNameAndArea_22 : decode b_Pr_putNameAndArea 22 = .ok (.invokevirtual 88, 3) := by decide +kernel
theorem d_Pr_putNameAndArea_25 : decode b_Pr_putNameAndArea 25 = .ok (.iinc 2 1, 3) := by decide +kernel
theorem d_Pr_putNameAndArea_28 : decode b_Pr_putNameAndArea 28 = .ok (.goto (-20), 3) := by decide +kernel
theorem d_Pr_putNameAndArea_31 : decode b_Pr_putNameAndArea 31 = .ok (.aload_n 0, 1) := by decide +kernel
theorem d_Pr_putNameAndArea_32 : decode b_Pr_putNameAndArea 32 = .ok (.bipush 34, 2) := by decide +kernel
theorem d_Pr_putNameAndArea_34 : decode b_Pr_putNameAndArea 34 = .ok (.invokevirtual 88, 3) := by decide +kernel
theorem d_Pr_putNameAndArea_37 : decode b_Pr_putNameAndArea 37 = .ok (.aload_n 0, 1) := by decide +kernel
theorem d_Pr_putNameAndArea_38 : decode b_Pr_putNameAndArea 38 = .ok (.bipush 35, 2) := by decide +kernel
theorem d_Pr_putNameAndArea_40 : decode b_Pr_putNameAndArea 40 = .ok (.aload_n 1, 1) := by decide +kernel
theorem d_Pr_putNameAndArea_41 : decode b_Pr_putNameAndArea 41 = .ok (.getfield 98, 3) := by decide +kernel
theorem d_Pr_putNameAndArea_44 : decode b_Pr_putNameAndArea 44 = .ok (.invokevirtual 48, 3) := by decide +kernel
theorem d_Pr_putNameAndArea_47 : decode b_Pr_putNameAndArea 47 = .ok (.return_, 1) := by decide +kernel
theorem d_Pr_putSpots_0 : decode b_Pr_putSpots 0 = .ok (.iconst 1, 1) := by decide +kernel
theorem d_Pr_putSpots_1 : decode b_Pr_putSpots 1 = .ok (.istore_n 3, 1) := by decide +kernel
theorem d_Pr_putSpots_2 : decode b_Pr_putSpots 2 = .ok (.iload_n 3, 1) := by decide +kernel
theorem d_Pr_putSpots_3 : decode b_Pr_putSpots 3 = .ok (.bipush 30, 2) := by decide +kernel
theorem d_Pr_putSpots_5 : decode b_Pr_putSpots 5 = .ok (.if_icmp .gt 53, 3) := by decide +kernel
theorem d_Pr_putSpots_8 : decode b_Pr_putSpots 8 = .ok (.aload_n 2, 1) := by decide +kernel
theorem d_Pr_putSpots_9 : decode b_Pr_putSpots 9 = .ok (.iload_n 3, 1) := by decide +kernel
theorem d_Pr_putSpots_10 : decode b_Pr_putSpots 10 = .ok (.invokevirtual 122, 3) := by decide +kernel
theorem d_Pr_putSpots_13 : decode b_Pr_putSpots 13 = .ok (.ifCond .eq 39, 3) := by decide +kernel
theorem d_Pr_putSpots_16 : decode b_Pr_putSpots 16 = .ok (.aload_n 0, 1) := by decide +kernel
theorem d_Pr_putSpots_17 : decode b_Pr_putSpots 17 = .ok (.iload_n 1, 1) := by decide +kernel
theorem d_Pr_putSpots_18 : decode b_Pr_putSpots 18 = .ok (.iload_n 3, 1) := by decide +kernel
theorem d_Pr_putSpots_19 : decode b_Pr_putSpots 19 = .ok (.invokevirtual 48, 3) := by decide +kernel
theorem d_Pr_putSpots_22 : decode b_Pr_putSpots 22 = .ok (.aload_n 0, 1) := by decide +kernel
theorem d_Pr_putSpots_23 : decode b_Pr_putSpots 23 = .ok (.bipush 64, 2) := by decide +kernel
theorem d_Pr_putSpots_25 : decode b_Pr_putSpots 25 = .ok (.aload_n 2, 1) := by decide +kernel
theorem d_Pr_putSpots_26 : decode b_Pr_putSpots 26 = .ok (.getfield 128, 3) := by decide +kernel
theorem d_Pr_putSpots_29 : decode b_Pr_putSpots 29 = .ok (.iload_n 3, 1) := by decide +kernel
theorem d_Pr_putSpots_30 : decode b_Pr_putSpots 30 = .ok (.iaload, 1) := by decide +kernel
theorem d_Pr_putSpots_31 : decode b_Pr_putSpots 31 = .ok (.invokevirtual 48, 3) := by decide +kernel
theorem d_Pr_putSpots_34 : decode b_Pr_putSpots 34 = .ok (.aload_n 0, 1) := by decide +kernel
theorem d_Pr_putSpots_35 : decode b_Pr_putSpots 35 = .ok (.bipush 43, 2) := by decide +kernel
theorem d_Pr_putSpots_37 : decode b_Pr_putSpots 37 = .ok (.aload_n 2, 1) := by decide +kernel
theorem d_Pr_putSpots_38 : decode b_Pr_putSpots 38 = .ok (.getfield 131, 3) := by decide +kernel
theorem d_Pr_putSpots_41 : decode b_Pr_putSpots 41 = .ok (.iload_n 3, 1) := by decide +kernel
theorem d_Pr_putSpots_42 : decode b_Pr_putSpots 42 = .ok (.iaload, 1) := by decide +kernel
theorem d_Pr_putSpots_43 : decode b_Pr_putSpots 43 = .ok (.invokevirtual 48, 3) := by decide +kernel
theorem d_Pr_putSpots_46 : decode b_Pr_putSpots 46 = .ok (.aload_n 0, 1) := by decide +kernel
theorem d_Pr_putSpots_47 : decode b_Pr_putSpots 47 = .ok (.bipush 59, 2) := by decide +kernel
theorem d_Pr_putSpots_49 : decode b_Pr_putSpots 49 = .ok (.invokevirtual 88, 3) := by decide +kernel
theorem d_Pr_putSpots_52 : decode b_Pr_putSpots 52 = .ok (.iinc 3 1, 3) := by decide +kernel
theorem d_Pr_putSpots_55 : decode b_Pr_putSpots 55 = .ok (.goto (-53), 3) := by decide +kernel
theorem d_Pr_putSpots_58 : decode b_Pr_putSpots 58 = .ok (.return_, 1) := by decide +kernel
theorem d_Pr_putTurns_0 : decode b_Pr_putTurns 0 = .ok (.iconst 0, 1) := by decide +kernel
theorem d_Pr_putTurns_1 : decode b_Pr_putTurns 1 = .ok (.istore_n 2, 1) := by decide +kernel
theorem d_Pr_putTurns_2 : decode b_Pr_putTurns 2 = .ok (.iload_n 2, 1) := by decide +kernel
theorem d_Pr_putTurns_3 : decode b_Pr_putTurns 3 = .ok (.aload_n 1, 1) := by decide +kernel
theorem d_Pr_putTurns_4 : decode b_Pr_putTurns 4 = .ok (.getfield 134, 3) := by decide +kernel
theorem d_Pr_putTurns_7 : decode b_Pr_putTurns 7 = .ok (.if_icmp .ge 51, 3) := by decide +kernel
theorem d_Pr_putTurns_10 : decode b_Pr_putTurns 10 = .ok (.aload_n 0, 1) := by decide +kernel
theorem d_Pr_putTurns_11 : decode b_Pr_putTurns 11 = .ok (.bipush 120, 2) := by decide +kernel
theorem d_Pr_putTurns_13 : decode b_Pr_putTurns 13 = .ok (.aload_n 1, 1) := by decide +kernel
theorem d_Pr_putTurns_14 : decode b_Pr_putTurns 14 = .ok (.getfield 139, 3) := by decide +kernel
theorem d_Pr_putTurns_17 : decode b_Pr_putTurns 17 = .ok (.iload_n 2, 1) := by decide +kernel
theorem d_Pr_putTurns_18 : decode b_Pr_putTurns 18 = .ok (.iaload, 1) := by decide +kernel
theorem d_Pr_putTurns_19 : decode b_Pr_putTurns 19 = .ok (.invokevirtual 48, 3) := by decide +kernel
theorem d_Pr_putTurns_22 : decode b_Pr_putTurns 22 = .ok (.aload_n 0, 1) := by decide +kernel
theorem d_Pr_putTurns_23 : decode b_Pr_putTurns 23 = .ok (.bipush 45, 2) := by decide +kernel
theorem d_Pr_putTurns_25 : decode b_Pr_putTurns 25 = .ok (.aload_n 1, 1) := by decide +kernel
theorem d_Pr_putTurns_26 : decode b_Pr_putTurns 26 = .ok (.getfield 142, 3) := by decide +kernel
theorem d_Pr_putTurns_29 : decode b_Pr_putTurns 29 = .ok (.iload_n 2, 1) := by decide +kernel
theorem d_Pr_putTurns_30 : decode b_Pr_putTurns 30 = .ok (.iaload, 1) := by decide +kernel
theorem d_Pr_putTurns_31 : decode b_Pr_putTurns 31 = .ok (.invokevirtual 48, 3) := by decide +kernel
theorem d_Pr_putTurns_34 : decode b_Pr_putTurns 34 = .ok (.aload_n 0, 1) := by decide +kernel
theorem d_Pr_putTurns_35 : decode b_Pr_putTurns 35 = .ok (.bipush 45, 2) := by decide +kernel
theorem d_Pr_putTurns_37 : decode b_Pr_putTurns 37 = .ok (.aload_n 1, 1) := by decide +kernel
theorem d_Pr_putTurns_38 : decode b_Pr_putTurns 38 = .ok (.getfield 145, 3) := by decide +kernel
theorem d_Pr_putTurns_41 : decode b_Pr_putTurns 41 = .ok (.iload_n 2, 1) := by decide +kernel
theorem d_Pr_putTurns_42 : decode b_Pr_putTurns 42 = .ok (.iaload, 1) := by decide +kernel
theorem d_Pr_putTurns_43 : decode b_Pr_putTurns 43 = .ok (.invokevirtual 48, 3) := by decide +kernel
theorem d_Pr_putTurns_46 : decode b_Pr_putTurns 46 = .ok (.aload_n 0, 1) := by decide +kernel
theorem d_Pr_putTurns_47 : decode b_Pr_putTurns 47 = .ok (.bipush 59, 2) := by decide +kernel
theorem d_Pr_putTurns_49 : decode b_Pr_putTurns 49 = .ok (.invokevirtual 88, 3) := by decide +kernel
theorem d_Pr_putTurns_52 : decode b_Pr_putTurns 52 = .ok (.iinc 2 1, 3) := by decide +kernel
theorem d_Pr_putTurns_55 : decode b_Pr_putTurns 55 = .ok (.goto (-53), 3) := by decide +kernel
theorem d_Pr_putTurns_58 : decode b_Pr_putTurns 58 = .ok (.return_, 1) := by decide +kernel

set_option maxHeartbeats 4000000 in
set_option maxRecDepth 100000 in
/-- Printer() -/
theorem c_Pr_init (l : Launch) (G : Gx) (lo : Nat) (V : Vw) (sz : Nat) (pr : Nat) (hpr : pr < sz) : Met l y_Pr_init ws_Pr_init ({ frames := 1, cells := 1, slots := 4880, locals := 12 } : Room) (vPre G lo [.ref pr] (vU V [(pr, eO 2 [.null, .int 0])]) sz) (vPost G lo (fun r V' k => r = none ∧ V' = vU V [(sz, eI (gB G) 4880 (fun _ => 0)), (pr, eO 2 [.ref sz, .int 0])] ∧ k = sz + 1)) 1 4880 (vL lo) := by
  refine vMet (R := RPr) (by decide) rfl (Nat.le_of_ble_eq_true rfl) ?_
  intro pg ev s mi args below meth cd hx hb hr hml hlk hnm hts hown hK hz hV ls hl
  have hl : lv_has ls 1 [(0, .ref pr)] := hl
  have hV0 := hV
  obtain ⟨H, hH⟩ : ∃ H, H = s.heap := ⟨_, rfl⟩
  obtain ⟨locs, hlocs⟩ : ∃ locs : List Loc, locs = [] := ⟨_, rfl⟩
  rw [← hH, ← hlocs]
  rw [← hH] at hz
  replace hV : vS G.1 cls lo s H locs (vU V [(pr, eO 2 [.null, .int 0])]) := by rw [hH, hlocs]; exact hV
  clear hH hlocs hV0
  have hn : [pr].Nodup := by simp
  refine lv_aload_n hx hb d_Pr_init_0 rfl (lv_at hl 0 rfl) ?_
  refine W.objInit hx hb hown (hts _ w_ml_Pr_5) (hts _ w_im_Ob_init) (hts _ w_co_Ob_init) rfl (by rw [hml]; exact hl.1) rfl d_Pr_init_1 (Nat.le_of_ble_eq_true rfl) (Nat.le_of_ble_eq_true rfl) ?_
  refine W.eq (g2 := F0 mi 4 ls []) rfl ?_
  refine lv_aload_n hx hb d_Pr_init_4 rfl (lv_at hl 0 rfl) ?_
  refine lv_sipush (v := 4880) hx hb d_Pr_init_5 (by decide) ?_
  refine u_newa (atype := .byte) hx hb hts w_ac_byte rfl hK hV 1 rfl (a0 := (4880, .inl (fun _ => 0))) (fun _ => rfl) (by decide) (N' := 4880) (by decide) (by decide) (Nat.le_of_ble_eq_true rfl) (Nat.le_of_ble_eq_true rfl) d_Pr_init_8 hz (fun H hV hz => ?_)
  have hV : vS G.1 cls lo s H locs (vU V [(sz, eI (gB G) 4880 (fun _ => 0)), (pr, eO 2 [.null, .int 0])]) := hV
  have hn : [sz, pr].Nodup := List.nodup_cons.mpr ⟨by simp only [List.mem_cons, List.not_mem_nil, or_false, not_or]; omega, hn⟩
  refine u_putF hx hb hts inPr tyPr tyPr_ok nmPr hown hK hV hn 1 rfl rfl 0 (by decide) w_fl_Pr_11 rfl rfl hnm rfl rfl rfl (Nat.le_of_ble_eq_true rfl) d_Pr_init_10 (fun H locs hV hz9 => ?_)
  have hV : vS G.1 cls lo s H locs (vU V [(sz, eI (gB G) 4880 (fun _ => 0)), (pr, eO 2 [.ref sz, .int 0])]) := hV
  replace hz := hz9.trans hz
  exact W.vret hx hb hr (v_end hV ⟨rfl, rfl, hz⟩) hV.2.1.2.2 d_Pr_init_13

set_option maxHeartbeats 4000000 in
set_option maxRecDepth 100000 in
/-- Printer.put -/
theorem c_Pr_put (l : Launch) (G : Gx) (lo : Nat) (V : Vw) (sz : Nat) (pr bs : Nat) (fo : Nat → Int32) (PB : List Nat) (hn : [pr, bs].Nodup) (hO : prOk fo PB) (c : Nat) (hc : c < 128) (hF : PB.length < 4880) : Met l y_Pr_put ws_Pr_put ({ frames := 0, cells := 0, slots := 0, locals := 0 } : Room) (vPre G lo [.ref pr, .int (nI c)] (vU V [(pr, eO 2 [.ref bs, .int (nI PB.length)]), (bs, eI (gB G) 4880 fo)]) sz) (vPost G lo (fun r V' k => r = none ∧ (∃ f1 : Nat → Int32, V' = vU V [(pr, eO 2 [.ref bs, .int (nI ((PB ++ [c]).length))]), (bs, eI (gB G) 4880 f1)] ∧ prOk f1 (PB ++ [c])) ∧ k = sz)) 0 0 (vL lo) := by
  refine vMet (R := RPr) (by decide) rfl (Nat.le_of_ble_eq_true rfl) ?_
  intro pg ev s mi args below meth cd hx hb hr hml hlk hnm hts hown hK hz hV ls hl
  have hl : lv_has ls 2 [(0, .ref pr), (1, .int (nI c))] := hl
  have hV0 := hV
  obtain ⟨H, hH⟩ : ∃ H, H = s.heap := ⟨_, rfl⟩
  obtain ⟨locs, hlocs⟩ : ∃ locs : List Loc, locs = [] := ⟨_, rfl⟩
  rw [← hH, ← hlocs]
  rw [← hH] at hz
  replace hV : vS G.1 cls lo s H locs (vU V [(pr, eO 2 [.ref bs, .int (nI PB.length)]), (bs, eI (gB G) 4880 fo)]) := by rw [hH, hlocs]; exact hV
  clear hH hlocs hV0
  refine lv_aload_n hx hb d_Pr_put_0 rfl (lv_at hl 0 rfl) ?_
  refine u_get hx hb hts inPr hown hK hV hn 0 rfl rfl 1 (by decide) w_fl_Pr_15 rfl rfl d_Pr_put_1 ?_
  refine lv_sipush (v := 4880) hx hb d_Pr_put_4 (by decide) ?_
  refine lv_icmp_ge (tgt := 31) hx hb d_Pr_put_7 (by decide) (fun c_1 => absurd c_1 (nI_ge (a := PB.length) (b := 4880) hF (by decide))) (fun c_1 => ?_)
  replace c_1 : ¬ 4880 ≤ PB.length := fun z9 => c_1 ((nI_leI (a := 4880) (b := PB.length) (by omega) (by omega)).mpr z9)
  refine lv_aload_n hx hb d_Pr_put_10 rfl (lv_at hl 0 rfl) ?_
  refine u_get hx hb hts inPr hown hK hV hn 0 rfl rfl 0 (by decide) w_fl_Pr_11 rfl rfl d_Pr_put_11 ?_
  refine lv_aload_n hx hb d_Pr_put_14 rfl (lv_at hl 0 rfl) ?_
  refine u_get hx hb hts inPr hown hK hV hn 0 rfl rfl 1 (by decide) w_fl_Pr_15 rfl rfl d_Pr_put_15 ?_
  refine lv_iload_n hx hb d_Pr_put_18 rfl (lv_at hl 1 rfl) ?_
  refine lv_i2b (v := nI c) hx hb d_Pr_put_19 (b_id c hc) ?_
  refine u_bastN hx hb hK hV hn 1 rfl (by omega) (by decide) d_Pr_put_20 (fun H locs hV hz9 => ?_)
  have hV : vS G.1 cls lo s H locs (vU V [(pr, eO 2 [.ref bs, .int (nI PB.length)]), (bs, eI (gB G) 4880 (upd fo PB.length (vp_nar .byte (nI c))))]) := hV
  replace hz := hz9.trans hz
  rw [b_nar c hc] at hV
  refine lv_aload_n hx hb d_Pr_put_21 rfl (lv_at hl 0 rfl) ?_
  refine lv_dup hx hb d_Pr_put_22 rfl ?_
  refine u_get hx hb hts inPr hown hK hV hn 0 rfl rfl 1 (by decide) w_fl_Pr_15 rfl rfl d_Pr_put_23 ?_
  refine lv_iconst (v := 1) hx hb d_Pr_put_26 (by decide) ?_
  refine e_iadd (v := nI (PB.length + 1)) hx hb d_Pr_put_27 (nI_add PB.length 1) ?_
  refine u_put hx hb hts inPr tyPr tyPr_ok nmPr hown hK hV hn 0 rfl rfl 1 (by decide) w_fl_Pr_15 rfl rfl rfl rfl (Nat.le_of_ble_eq_true rfl) d_Pr_put_28 (fun H locs hV hz9 => ?_)
  have hV : vS G.1 cls lo s H locs (vU V [(pr, eO 2 [.ref bs, .int (nI (PB.length + 1))]), (bs, eI (gB G) 4880 (upd fo PB.length (nI c)))]) := hV
  replace hz := hz9.trans hz
  exact W.vret hx hb hr (v_end hV ⟨rfl, ⟨_, by rw [List.length_append]; rfl, prOk_add hO c⟩, hz⟩) hV.2.1.2.2 d_Pr_put_31

set_option maxHeartbeats 4000000 in
set_option maxRecDepth 100000 in
/-- Printer.putWithNumber -/
theorem c_Pr_putWithNumber (l : Launch) (G : Gx) (lo : Nat) (V : Vw) (sz : Nat) (pr bs : Nat) (fo : Nat → Int32) (PB : List Nat) (hn : [pr, bs].Nodup) (hO : prOk fo PB) (c v : Nat) (hc : c < 128) (hv : v ≤ 9999) (hF : PB.length + (pN c v).length ≤ 4880) : Met l y_Pr_putWithNumber ws_Pr_putWithNumber ({ frames := 1, cells := 0, slots := 0, locals := 21 } : Room) (vPre G lo [.ref pr, .int (nI c), .int (nI v)] (vU V [(pr, eO 2 [.ref bs, .int (nI PB.length)]), (bs, eI (gB G) 4880 fo)]) sz) (vPost G lo (fun r V' k => r = none ∧ (∃ f1 : Nat → Int32, V' = vU V [(pr, eO 2 [.ref bs, .int (nI ((PB ++ pN c v).length))]), (bs, eI (gB G) 4880 f1)] ∧ prOk f1 (PB ++ pN c v)) ∧ k = sz)) 0 0 (vL lo) := by
  refine vMet (R := RPr) (by decide) rfl (Nat.le_of_ble_eq_true rfl) ?_
  intro pg ev s mi args below meth cd hx hb hr hml hlk hnm hts hown hK hz hV ls hl
  have hl : lv_has ls 3 [(0, .ref pr), (1, .int (nI c)), (2, .int (nI v))] := hl
  have hV0 := hV
  obtain ⟨H, hH⟩ : ∃ H, H = s.heap := ⟨_, rfl⟩
  obtain ⟨locs, hlocs⟩ : ∃ locs : List Loc, locs = [] := ⟨_, rfl⟩
  rw [← hH, ← hlocs]
  rw [← hH] at hz
  replace hV : vS G.1 cls lo s H locs (vU V [(pr, eO 2 [.ref bs, .int (nI PB.length)]), (bs, eI (gB G) 4880 fo)]) := by rw [hH, hlocs]; exact hV
  clear hH hlocs hV0
  rw [pN_len] at hF
  have d1 : v / 1000 ≤ 9 := by omega
  refine lv_aload_n hx hb d_Pr_putWithNumber_0 rfl (lv_at hl 0 rfl) ?_
  refine lv_iload_n hx hb d_Pr_putWithNumber_1 rfl (lv_at hl 1 rfl) ?_
  refine v_call (va_runV (As := [.int (nI c)]) (rest := []) ⟨hx, hb, hml, hown, hts⟩ (c_Pr_put l G lo _ _ pr bs fo PB hn hO c (by omega) (by (try simp only [List.length_append, List.length_singleton, List.length_cons, List.length_nil]); (repeat' split at hF) <;> omega)) (kwV 1 hts w_co_Pr_put rfl rfl w_it_Pr w_ml_Pr_88 w_im_Pr_put w_se_Pr__Pr_put (by decide +kernel) ⟨(Nat.le_of_ble_eq_true rfl), (Nat.le_of_ble_eq_true rfl)⟩) (u_preV hK hV hn [0, 1] rfl hz 0 rfl rfl) rfl rfl hl.1 rfl (lv_room (Nat.le_of_ble_eq_true rfl)) d_Pr_putWithNumber_2 ⟨(Nat.le_of_ble_eq_true rfl), (Nat.le_of_ble_eq_true rfl)⟩) hV (fun r9 V9 H locs hp hV hle => ?_)
  obtain ⟨rfl, ⟨g_1, rfl, hO_g_1⟩, hz⟩ := hp
  replace hV := u_back hV hn [0, 1] rfl
  have hV : vS G.1 cls lo s H locs (vU V [(pr, eO 2 [.ref bs, .int (nI ((PB ++ [c]).length))]), (bs, eI (gB G) 4880 g_1)]) := hV
  refine lv_iload_n hx hb d_Pr_putWithNumber_5 rfl (lv_at hl 2 rfl) ?_
  refine lv_sipush (v := 1000) hx hb d_Pr_putWithNumber_6 (by decide) ?_
  refine lv_icmp_lt (tgt := 24) hx hb d_Pr_putWithNumber_9 (by decide) (fun c_2 => ?_) (fun c_2 => ?_)
  · replace c_2 : v < 1000 := (nI_ltI (a := v) (b := 1000) (by omega) (by omega)).mp c_2
    refine lv_iload_n hx hb d_Pr_putWithNumber_24 rfl (lv_at hl 2 rfl) ?_
    refine lv_bipush (v := 100) hx hb d_Pr_putWithNumber_25 (by decide) ?_
    refine lv_icmp_lt (tgt := 44) hx hb d_Pr_putWithNumber_27 (by decide) (fun c_3 => ?_) (fun c_3 => ?_)
    · replace c_3 : v < 100 := (nI_ltI (a := v) (b := 100) (by omega) (by omega)).mp c_3
      refine lv_iload_n hx hb d_Pr_putWithNumber_44 rfl (lv_at hl 2 rfl) ?_
      refine lv_bipush (v := 10) hx hb d_Pr_putWithNumber_45 (by decide) ?_
      refine lv_icmp_lt (tgt := 64) hx hb d_Pr_putWithNumber_47 (by decide) (fun c_4 => ?_) (fun c_4 => ?_)
      · replace c_4 : v < 10 := (nI_ltI (a := v) (b := 10) (by omega) (by omega)).mp c_4
        refine lv_aload_n hx hb d_Pr_putWithNumber_64 rfl (lv_at hl 0 rfl) ?_
        refine lv_bipush (v := 48) hx hb d_Pr_putWithNumber_65 (by decide) ?_
        refine lv_iload_n hx hb d_Pr_putWithNumber_67 rfl (lv_at hl 2 rfl) ?_
        refine lv_bipush (v := 10) hx hb d_Pr_putWithNumber_68 (by decide) ?_
        refine e_irem (v := nI (v % 10)) hx hb d_Pr_putWithNumber_70 (by decide) (nI_rem (b := 10) (by omega) (by decide)) ?_
        refine e_iadd (v := nI (48 + (v % 10))) hx hb d_Pr_putWithNumber_71 (nI_add 48 (v % 10)) ?_
        refine v_call (va_runV (As := [.int (nI (48 + (v % 10)))]) (rest := []) ⟨hx, hb, hml, hown, hts⟩ (c_Pr_put l G lo _ _ pr bs g_1 (PB ++ [c]) hn hO_g_1 (48 + (v % 10)) (by omega) (by (try simp only [List.length_append, List.length_singleton, List.length_cons, List.length_nil]); (repeat' split at hF) <;> omega)) (kwV 1 hts w_co_Pr_put rfl rfl w_it_Pr w_ml_Pr_88 w_im_Pr_put w_se_Pr__Pr_put (by decide +kernel) ⟨(Nat.le_of_ble_eq_true rfl), (Nat.le_of_ble_eq_true rfl)⟩) (u_preV hK hV hn [0, 1] rfl hz 0 rfl rfl) rfl rfl hl.1 rfl (lv_room (Nat.le_of_ble_eq_true rfl)) d_Pr_putWithNumber_72 ⟨(Nat.le_of_ble_eq_true rfl), (Nat.le_of_ble_eq_true rfl)⟩) hV (fun r9 V9 H locs hp hV hle => ?_)
        obtain ⟨rfl, ⟨g_5, rfl, hO_g_5⟩, hz⟩ := hp
        replace hV := u_back hV hn [0, 1] rfl
        have hV : vS G.1 cls lo s H locs (vU V [(pr, eO 2 [.ref bs, .int (nI ((PB ++ [c] ++ [48 + (v % 10)]).length))]), (bs, eI (gB G) 4880 g_5)]) := hV
        have eB : PB ++ [c] ++ [48 + (v % 10)] = PB ++ pN c v := by unfold pN dgN; (repeat' split) <;> first | (exfalso; omega) | simp
        rw [eB] at hV hO_g_5
        exact W.vret hx hb hr (v_end hV ⟨rfl, ⟨_, rfl, hO_g_5⟩, hz⟩) hV.2.1.2.2 d_Pr_putWithNumber_75
      · replace c_4 : ¬ v < 10 := fun z9 => c_4 ((nI_ltI (a := v) (b := 10) (by omega) (by omega)).mpr z9)
        refine lv_aload_n hx hb d_Pr_putWithNumber_50 rfl (lv_at hl 0 rfl) ?_
        refine lv_bipush (v := 48) hx hb d_Pr_putWithNumber_51 (by decide) ?_
        refine lv_iload_n hx hb d_Pr_putWithNumber_53 rfl (lv_at hl 2 rfl) ?_
        refine lv_bipush (v := 10) hx hb d_Pr_putWithNumber_54 (by decide) ?_
        refine e_idiv (v := nI (v / 10)) hx hb d_Pr_putWithNumber_56 (by decide) (nI_div (b := 10) (by omega) (by decide)) ?_
        refine lv_bipush (v := 10) hx hb d_Pr_putWithNumber_57 (by decide) ?_
        refine e_irem (v := nI (v / 10 % 10)) hx hb d_Pr_putWithNumber_59 (by decide) (nI_rem (b := 10) (by omega) (by decide)) ?_
        refine e_iadd (v := nI (48 + (v / 10 % 10))) hx hb d_Pr_putWithNumber_60 (nI_add 48 (v / 10 % 10)) ?_
        refine v_call (va_runV (As := [.int (nI (48 + (v / 10 % 10)))]) (rest := []) ⟨hx, hb, hml, hown, hts⟩ (c_Pr_put l G lo _ _ pr bs g_1 (PB ++ [c]) hn hO_g_1 (48 + (v / 10 % 10)) (by omega) (by (try simp only [List.length_append, List.length_singleton, List.length_cons, List.length_nil]); (repeat' split at hF) <;> omega)) (kwV 1 hts w_co_Pr_put rfl rfl w_it_Pr w_ml_Pr_88 w_im_Pr_put w_se_Pr__Pr_put (by decide +kernel) ⟨(Nat.le_of_ble_eq_true rfl), (Nat.le_of_ble_eq_true rfl)⟩) (u_preV hK hV hn [0, 1] rfl hz 0 rfl rfl) rfl rfl hl.1 rfl (lv_room (Nat.le_of_ble_eq_true rfl)) d_Pr_putWithNumber_61 ⟨(Nat.le_of_ble_eq_true rfl), (Nat.le_of_ble_eq_true rfl)⟩) hV (fun r9 V9 H locs hp hV hle => ?_)
        obtain ⟨rfl, ⟨g_6, rfl, hO_g_6⟩, hz⟩ := hp
        replace hV := u_back hV hn [0, 1] rfl
        have hV : vS G.1 cls lo s H locs (vU V [(pr, eO 2 [.ref bs, .int (nI ((PB ++ [c] ++ [48 + (v / 10 % 10)]).length))]), (bs, eI (gB G) 4880 g_6)]) := hV
        refine lv_aload_n hx hb d_Pr_putWithNumber_64 rfl (lv_at hl 0 rfl) ?_
        refine lv_bipush (v := 48) hx hb d_Pr_putWithNumber_65 (by decide) ?_
        refine lv_iload_n hx hb d_Pr_putWithNumber_67 rfl (lv_at hl 2 rfl) ?_
        refine lv_bipush (v := 10) hx hb d_Pr_putWithNumber_68 (by decide) ?_
        refine e_irem (v := nI (v % 10)) hx hb d_Pr_putWithNumber_70 (by decide) (nI_rem (b := 10) (by omega) (by decide)) ?_
        refine e_iadd (v := nI (48 + (v % 10))) hx hb d_Pr_putWithNumber_71 (nI_add 48 (v % 10)) ?_
        refine v_call (va_runV (As := [.int (nI (48 + (v % 10)))]) (rest := []) ⟨hx, hb, hml, hown, hts⟩ (c_Pr_put l G lo _ _ pr bs g_6 (PB ++ [c] ++ [48 + (v / 10 % 10)]) hn hO_g_6 (48 + (v % 10)) (by omega) (by (try simp only [List.length_append, List.length_singleton, List.length_cons, List.length_nil]); (repeat' split at hF) <;> omega)) (kwV 1 hts w_co_Pr_put rfl rfl w_it_Pr w_ml_Pr_88 w_im_Pr_put w_se_Pr__Pr_put (by decide +kernel) ⟨(Nat.le_of_ble_eq_true rfl), (Nat.le_of_ble_eq_true rfl)⟩) (u_preV hK hV hn [0, 1] rfl hz 0 rfl rfl) rfl rfl hl.1 rfl (lv_room (Nat.le_of_ble_eq_true rfl)) d_Pr_putWithNumber_72 ⟨(Nat.le_of_ble_eq_true rfl), (Nat.le_of_ble_eq_true rfl)⟩) hV (fun r9 V9 H locs hp hV hle => ?_)
        obtain ⟨rfl, ⟨g_7, rfl, hO_g_7⟩, hz⟩ := hp
        replace hV := u_back hV hn [0, 1] rfl
        have hV : vS G.1 cls lo s H locs (vU V [(pr, eO 2 [.ref bs, .int (nI ((PB ++ [c] ++ [48 + (v / 10 % 10)] ++ [48 + (v % 10)]).length))]), (bs, eI (gB G) 4880 g_7)]) := hV
        have eB : PB ++ [c] ++ [48 + (v / 10 % 10)] ++ [48 + (v % 10)] = PB ++ pN c v := by unfold pN dgN; (repeat' split) <;> first | (exfalso; omega) | simp
        rw [eB] at hV hO_g_7
        exact W.vret hx hb hr (v_end hV ⟨rfl, ⟨_, rfl, hO_g_7⟩, hz⟩) hV.2.1.2.2 d_Pr_putWithNumber_75
    · replace c_3 : ¬ v < 100 := fun z9 => c_3 ((nI_ltI (a := v) (b := 100) (by omega) (by omega)).mpr z9)
      refine lv_aload_n hx hb d_Pr_putWithNumber_30 rfl (lv_at hl 0 rfl) ?_
      refine lv_bipush (v := 48) hx hb d_Pr_putWithNumber_31 (by decide) ?_
      refine lv_iload_n hx hb d_Pr_putWithNumber_33 rfl (lv_at hl 2 rfl) ?_
      refine lv_bipush (v := 100) hx hb d_Pr_putWithNumber_34 (by decide) ?_
      refine e_idiv (v := nI (v / 100)) hx hb d_Pr_putWithNumber_36 (by decide) (nI_div (b := 100) (by omega) (by decide)) ?_
      refine lv_bipush (v := 10) hx hb d_Pr_putWithNumber_37 (by decide) ?_
      refine e_irem (v := nI (v / 100 % 10)) hx hb d_Pr_putWithNumber_39 (by decide) (nI_rem (b := 10) (by omega) (by decide)) ?_
      refine e_iadd (v := nI (48 + (v / 100 % 10))) hx hb d_Pr_putWithNumber_40 (nI_add 48 (v / 100 % 10)) ?_
      refine v_call (va_runV (As := [.int (nI (48 + (v / 100 % 10)))]) (rest := []) ⟨hx, hb, hml, hown, hts⟩ (c_Pr_put l G lo _ _ pr bs g_1 (PB ++ [c]) hn hO_g_1 (48 + (v / 100 % 10)) (by omega) (by (try simp only [List.length_append, List.length_singleton, List.length_cons, List.length_nil]); (repeat' split at hF) <;> omega)) (kwV 1 hts w_co_Pr_put rfl rfl w_it_Pr w_ml_Pr_88 w_im_Pr_put w_se_Pr__Pr_put (by decide +kernel) ⟨(Nat.le_of_ble_eq_true rfl), (Nat.le_of_ble_eq_true rfl)⟩) (u_preV hK hV hn [0, 1] rfl hz 0 rfl rfl) rfl rfl hl.1 rfl (lv_room (Nat.le_of_ble_eq_true rfl)) d_Pr_putWithNumber_41 ⟨(Nat.le_of_ble_eq_true rfl), (Nat.le_of_ble_eq_true rfl)⟩) hV (fun r9 V9 H locs hp hV hle => ?_)
      obtain ⟨rfl, ⟨g_8, rfl, hO_g_8⟩, hz⟩ := hp
      replace hV := u_back hV hn [0, 1] rfl
      have hV : vS G.1 cls lo s H locs (vU V [(pr, eO 2 [.ref bs, .int (nI ((PB ++ [c] ++ [48 + (v / 100 % 10)]).length))]), (bs, eI (gB G) 4880 g_8)]) := hV
      refine lv_iload_n hx hb d_Pr_putWithNumber_44 rfl (lv_at hl 2 rfl) ?_
      refine lv_bipush (v := 10) hx hb d_Pr_putWithNumber_45 (by decide) ?_
      refine lv_icmp_lt (tgt := 64) hx hb d_Pr_putWithNumber_47 (by decide) (fun c_9 => ?_) (fun c_9 => ?_)
      · replace c_9 : v < 10 := (nI_ltI (a := v) (b := 10) (by omega) (by omega)).mp c_9
        refine lv_aload_n hx hb d_Pr_putWithNumber_64 rfl (lv_at hl 0 rfl) ?_
        refine lv_bipush (v := 48) hx hb d_Pr_putWithNumber_65 (by decide) ?_
        refine lv_iload_n hx hb d_Pr_putWithNumber_67 rfl (lv_at hl 2 rfl) ?_
        refine lv_bipush (v := 10) hx hb d_Pr_putWithNumber_68 (by decide) ?_
        refine e_irem (v := nI (v % 10)) hx hb d_Pr_putWithNumber_70 (by decide) (nI_rem (b := 10) (by omega) (by decide)) ?_
        refine e_iadd (v := nI (48 + (v % 10))) hx hb d_Pr_putWithNumber_71 (nI_add 48 (v % 10)) ?_
        refine v_call (va_runV (As := [.int (nI (48 + (v % 10)))]) (rest := []) ⟨hx, hb, hml, hown, hts⟩ (c_Pr_put l G lo _ _ pr bs g_8 (PB ++ [c] ++ [48 + (v / 100 % 10)]) hn hO_g_8 (48 + (v % 10)) (by omega) (by (try simp only [List.length_append, List.length_singleton, List.length_cons, List.length_nil]); (repeat' split at hF) <;> omega)) (kwV 1 hts w_co_Pr_put rfl rfl w_it_Pr w_ml_Pr_88 w_im_Pr_put w_se_Pr__Pr_put (by decide +kernel) ⟨(Nat.le_of_ble_eq_true rfl), (Nat.le_of_ble_eq_true rfl)⟩) (u_preV hK hV hn [0, 1] rfl hz 0 rfl rfl) rfl rfl hl.1 rfl (lv_room (Nat.le_of_ble_eq_true rfl)) d_Pr_putWithNumber_72 ⟨(Nat.le_of_ble_eq_true rfl), (Nat.le_of_ble_eq_true rfl)⟩) hV (fun r9 V9 H locs hp hV hle => ?_)
        obtain ⟨rfl, ⟨g_10, rfl, hO_g_10⟩, hz⟩ := hp
        replace hV := u_back hV hn [0, 1] rfl
        have hV : vS G.1 cls lo s H locs (vU V [(pr, eO 2 [.ref bs, .int (nI ((PB ++ [c] ++ [48 + (v / 100 % 10)] ++ [48 + (v % 10)]).length))]), (bs, eI (gB G) 4880 g_10)]) := hV
        have eB : PB ++ [c] ++ [48 + (v / 100 % 10)] ++ [48 + (v % 10)] = PB ++ pN c v := by unfold pN dgN; (repeat' split) <;> first | (exfalso; omega) | simp
        rw [eB] at hV hO_g_10
        exact W.vret hx hb hr (v_end hV ⟨rfl, ⟨_, rfl, hO_g_10⟩, hz⟩) hV.2.1.2.2 d_Pr_putWithNumber_75
      · replace c_9 : ¬ v < 10 := fun z9 => c_9 ((nI_ltI (a := v) (b := 10) (by omega) (by omega)).mpr z9)
        refine lv_aload_n hx hb d_Pr_putWithNumber_50 rfl (lv_at hl 0 rfl) ?_
        refine lv_bipush (v := 48) hx hb d_Pr_putWithNumber_51 (by decide) ?_
        refine lv_iload_n hx hb d_Pr_putWithNumber_53 rfl (lv_at hl 2 rfl) ?_
        refine lv_bipush (v := 10) hx hb d_Pr_putWithNumber_54 (by decide) ?_
        refine e_idiv (v := nI (v / 10)) hx hb d_Pr_putWithNumber_56 (by decide) (nI_div (b := 10) (by omega) (by decide)) ?_
        refine lv_bipush (v := 10) hx hb d_Pr_putWithNumber_57 (by decide) ?_
        refine e_irem (v := nI (v / 10 % 10)) hx hb d_Pr_putWithNumber_59 (by decide) (nI_rem (b := 10) (by omega) (by decide)) ?_
        refine e_iadd (v := nI (48 + (v / 10 % 10))) hx hb d_Pr_putWithNumber_60 (nI_add 48 (v / 10 % 10)) ?_
        refine v_call (va_runV (As := [.int (nI (48 + (v / 10 % 10)))]) (rest := []) ⟨hx, hb, hml, hown, hts⟩ (c_Pr_put l G lo _ _ pr bs g_8 (PB ++ [c] ++ [48 + (v / 100 % 10)]) hn hO_g_8 (48 + (v / 10 % 10)) (by omega) (by (try simp only [List.length_append, List.length_singleton, List.length_cons, List.length_nil]); (repeat' split at hF) <;> omega)) (kwV 1 hts w_co_Pr_put rfl rfl w_it_Pr w_ml_Pr_88 w_im_Pr_put w_se_Pr__Pr_put (by decide +kernel) ⟨(Nat.le_of_ble_eq_true rfl), (Nat.le_of_ble_eq_true rfl)⟩) (u_preV hK hV hn [0, 1] rfl hz 0 rfl rfl) rfl rfl hl.1 rfl (lv_room (Nat.le_of_ble_eq_true rfl)) d_Pr_putWithNumber_61 ⟨(Nat.le_of_ble_eq_true rfl), (Nat.le_of_ble_eq_true rfl)⟩) hV (fun r9 V9 H locs hp hV hle => ?_)
        obtain ⟨rfl, ⟨g_11, rfl, hO_g_11⟩, hz⟩ := hp
        replace hV := u_back hV hn [0, 1] rfl
        have hV : vS G.1 cls lo s H locs (vU V [(pr, eO 2 [.ref bs, .int (nI ((PB ++ [c] ++ [48 + (v / 100 % 10)] ++ [48 + (v / 10 % 10)]).length))]), (bs, eI (gB G) 4880 g_11)]) := hV
        refine lv_aload_n hx hb d_Pr_putWithNumber_64 rfl (lv_at hl 0 rfl) ?_
        refine lv_bipush (v := 48) hx hb d_Pr_putWithNumber_65 (by decide) ?_
        refine lv_iload_n hx hb d_Pr_putWithNumber_67 rfl (lv_at hl 2 rfl) ?_
        refine lv_bipush (v := 10) hx hb d_Pr_putWithNumber_68 (by decide) ?_
        refine e_irem (v := nI (v % 10)) hx hb d_Pr_putWithNumber_70 (by decide) (nI_rem (b := 10) (by omega) (by decide)) ?_
        refine e_iadd (v := nI (48 + (v % 10))) hx hb d_Pr_putWithNumber_71 (nI_add 48 (v % 10)) ?_
        refine v_call (va_runV (As := [.int (nI (48 + (v % 10)))]) (rest := []) ⟨hx, hb, hml, hown, hts⟩ (c_Pr_put l G lo _ _ pr bs g_11 (PB ++ [c] ++ [48 + (v / 100 % 10)] ++ [48 + (v / 10 % 10)]) hn hO_g_11 (48 + (v % 10)) (by omega) (by (try simp only [List.length_append, List.length_singleton, List.length_cons, List.length_nil]); (repeat' split at hF) <;> omega)) (kwV 1 hts w_co_Pr_put rfl rfl w_it_Pr w_ml_Pr_88 w_im_Pr_put w_se_Pr__Pr_put (by decide +kernel) ⟨(Nat.le_of_ble_eq_true rfl), (Nat.le_of_ble_eq_true rfl)⟩) (u_preV hK hV hn [0, 1] rfl hz 0 rfl rfl) rfl rfl hl.1 rfl (lv_room (Nat.le_of_ble_eq_true rfl)) d_Pr_putWithNumber_72 ⟨(Nat.le_of_ble_eq_true rfl), (Nat.le_of_ble_eq_true rfl)⟩) hV (fun r9 V9 H locs hp hV hle => ?_)
        obtain ⟨rfl, ⟨g_12, rfl, hO_g_12⟩, hz⟩ := hp
        replace hV := u_back hV hn [0, 1] rfl
        have hV : vS G.1 cls lo s H locs (vU V [(pr, eO 2 [.ref bs, .int (nI ((PB ++ [c] ++ [48 + (v / 100 % 10)] ++ [48 + (v / 10 % 10)] ++ [48 + (v % 10)]).length))]), (bs, eI (gB G) 4880 g_12)]) := hV
        have eB : PB ++ [c] ++ [48 + (v / 100 % 10)] ++ [48 + (v / 10 % 10)] ++ [48 + (v % 10)] = PB ++ pN c v := by unfold pN dgN; (repeat' split) <;> first | (exfalso; omega) | simp
        rw [eB] at hV hO_g_12
        exact W.vret hx hb hr (v_end hV ⟨rfl, ⟨_, rfl, hO_g_12⟩, hz⟩) hV.2.1.2.2 d_Pr_putWithNumber_75
  · replace c_2 : ¬ v < 1000 := fun z9 => c_2 ((nI_ltI (a := v) (b := 1000) (by omega) (by omega)).mpr z9)
    refine lv_aload_n hx hb d_Pr_putWithNumber_12 rfl (lv_at hl 0 rfl) ?_
    refine lv_bipush (v := 48) hx hb d_Pr_putWithNumber_13 (by decide) ?_
    refine lv_iload_n hx hb d_Pr_putWithNumber_15 rfl (lv_at hl 2 rfl) ?_
    refine lv_sipush (v := 1000) hx hb d_Pr_putWithNumber_16 (by decide) ?_
    refine e_idiv (v := nI (v / 1000)) hx hb d_Pr_putWithNumber_19 (by decide) (nI_div (b := 1000) (by omega) (by decide)) ?_
    refine e_iadd (v := nI (48 + (v / 1000))) hx hb d_Pr_putWithNumber_20 (nI_add 48 (v / 1000)) ?_
    refine v_call (va_runV (As := [.int (nI (48 + (v / 1000)))]) (rest := []) ⟨hx, hb, hml, hown, hts⟩ (c_Pr_put l G lo _ _ pr bs g_1 (PB ++ [c]) hn hO_g_1 (48 + (v / 1000)) (by omega) (by (try simp only [List.length_append, List.length_singleton, List.length_cons, List.length_nil]); (repeat' split at hF) <;> omega)) (kwV 1 hts w_co_Pr_put rfl rfl w_it_Pr w_ml_Pr_88 w_im_Pr_put w_se_Pr__Pr_put (by decide +kernel) ⟨(Nat.le_of_ble_eq_true rfl), (Nat.le_of_ble_eq_true rfl)⟩) (u_preV hK hV hn [0, 1] rfl hz 0 rfl rfl) rfl rfl hl.1 rfl (lv_room (Nat.le_of_ble_eq_true rfl)) d_Pr_putWithNumber_21 ⟨(Nat.le_of_ble_eq_true rfl), (Nat.le_of_ble_eq_true rfl)⟩) hV (fun r9 V9 H locs hp hV hle => ?_)
    obtain ⟨rfl, ⟨g_13, rfl, hO_g_13⟩, hz⟩ := hp
    replace hV := u_back hV hn [0, 1] rfl
    have hV : vS G.1 cls lo s H locs (vU V [(pr, eO 2 [.ref bs, .int (nI ((PB ++ [c] ++ [48 + (v / 1000)]).length))]), (bs, eI (gB G) 4880 g_13)]) := hV
    refine lv_iload_n hx hb d_Pr_putWithNumber_24 rfl (lv_at hl 2 rfl) ?_
    refine lv_bipush (v := 100) hx hb d_Pr_putWithNumber_25 (by decide) ?_
    refine lv_icmp_lt (tgt := 44) hx hb d_Pr_putWithNumber_27 (by decide) (fun c_14 => ?_) (fun c_14 => ?_)
    · replace c_14 : v < 100 := (nI_ltI (a := v) (b := 100) (by omega) (by omega)).mp c_14
      refine lv_iload_n hx hb d_Pr_putWithNumber_44 rfl (lv_at hl 2 rfl) ?_
      refine lv_bipush (v := 10) hx hb d_Pr_putWithNumber_45 (by decide) ?_
      refine lv_icmp_lt (tgt := 64) hx hb d_Pr_putWithNumber_47 (by decide) (fun c_15 => ?_) (fun c_15 => ?_)
      · replace c_15 : v < 10 := (nI_ltI (a := v) (b := 10) (by omega) (by omega)).mp c_15
        refine lv_aload_n hx hb d_Pr_putWithNumber_64 rfl (lv_at hl 0 rfl) ?_
        refine lv_bipush (v := 48) hx hb d_Pr_putWithNumber_65 (by decide) ?_
        refine lv_iload_n hx hb d_Pr_putWithNumber_67 rfl (lv_at hl 2 rfl) ?_
        refine lv_bipush (v := 10) hx hb d_Pr_putWithNumber_68 (by decide) ?_
        refine e_irem (v := nI (v % 10)) hx hb d_Pr_putWithNumber_70 (by decide) (nI_rem (b := 10) (by omega) (by decide)) ?_
        refine e_iadd (v := nI (48 + (v % 10))) hx hb d_Pr_putWithNumber_71 (nI_add 48 (v % 10)) ?_
        refine v_call (va_runV (As := [.int (nI (48 + (v % 10)))]) (rest := []) ⟨hx, hb, hml, hown, hts⟩ (c_Pr_put l G lo _ _ pr bs g_13 (PB ++ [c] ++ [48 + (v / 1000)]) hn hO_g_13 (48 + (v % 10)) (by omega) (by (try simp only [List.length_append, List.length_singleton, List.length_cons, List.length_nil]); (repeat' split at hF) <;> omega)) (kwV 1 hts w_co_Pr_put rfl rfl w_it_Pr w_ml_Pr_88 w_im_Pr_put w_se_Pr__Pr_put (by decide +kernel) ⟨(Nat.le_of_ble_eq_true rfl), (Nat.le_of_ble_eq_true rfl)⟩) (u_preV hK hV hn [0, 1] rfl hz 0 rfl rfl) rfl rfl hl.1 rfl (lv_room (Nat.le_of_ble_eq_true rfl)) d_Pr_putWithNumber_72 ⟨(Nat.le_of_ble_eq_true rfl), (Nat.le_of_ble_eq_true rfl)⟩) hV (fun r9 V9 H locs hp hV hle => ?_)
        obtain ⟨rfl, ⟨g_16, rfl, hO_g_16⟩, hz⟩ := hp
        replace hV := u_back hV hn [0, 1] rfl
        have hV : vS G.1 cls lo s H locs (vU V [(pr, eO 2 [.ref bs, .int (nI ((PB ++ [c] ++ [48 + (v / 1000)] ++ [48 + (v % 10)]).length))]), (bs, eI (gB G) 4880 g_16)]) := hV
        have eB : PB ++ [c] ++ [48 + (v / 1000)] ++ [48 + (v % 10)] = PB ++ pN c v := by unfold pN dgN; (repeat' split) <;> first | (exfalso; omega) | simp
        rw [eB] at hV hO_g_16
        exact W.vret hx hb hr (v_end hV ⟨rfl, ⟨_, rfl, hO_g_16⟩, hz⟩) hV.2.1.2.2 d_Pr_putWithNumber_75
      · replace c_15 : ¬ v < 10 := fun z9 => c_15 ((nI_ltI (a := v) (b := 10) (by omega) (by omega)).mpr z9)
        refine lv_aload_n hx hb d_Pr_putWithNumber_50 rfl (lv_at hl 0 rfl) ?_
        refine lv_bipush (v := 48) hx hb d_Pr_putWithNumber_51 (by decide) ?_
        refine lv_iload_n hx hb d_Pr_putWithNumber_53 rfl (lv_at hl 2 rfl) ?_
        refine lv_bipush (v := 10) hx hb d_Pr_putWithNumber_54 (by decide) ?_
        refine e_idiv (v := nI (v / 10)) hx hb d_Pr_putWithNumber_56 (by decide) (nI_div (b := 10) (by omega) (by decide)) ?_
        refine lv_bipush (v := 10) hx hb d_Pr_putWithNumber_57 (by decide) ?_
        refine e_irem (v := nI (v / 10 % 10)) hx hb d_Pr_putWithNumber_59 (by decide) (nI_rem (b := 10) (by omega) (by decide)) ?_
        refine e_iadd (v := nI (48 + (v / 10 % 10))) hx hb d_Pr_putWithNumber_60 (nI_add 48 (v / 10 % 10)) ?_
        refine v_call (va_runV (As := [.int (nI (48 + (v / 10 % 10)))]) (rest := []) ⟨hx, hb, hml, hown, hts⟩ (c_Pr_put l G lo _ _ pr bs g_13 (PB ++ [c] ++ [48 + (v / 1000)]) hn hO_g_13 (48 + (v / 10 % 10)) (by omega) (by (try simp only [List.length_append, List.length_singleton, List.length_cons, List.length_nil]); (repeat' split at hF) <;> omega)) (kwV 1 hts w_co_Pr_put rfl rfl w_it_Pr w_ml_Pr_88 w_im_Pr_put w_se_Pr__Pr_put (by decide +kernel) ⟨(Nat.le_of_ble_eq_true rfl), (Nat.le_of_ble_eq_true rfl)⟩) (u_preV hK hV hn [0, 1] rfl hz 0 rfl rfl) rfl rfl hl.1 rfl (lv_room (Nat.le_of_ble_eq_true rfl)) d_Pr_putWithNumber_61 ⟨(Nat.le_of_ble_eq_true rfl), (Nat.le_of_ble_eq_true rfl)⟩) hV (fun r9 V9 H locs hp hV hle => ?_)
        obtain ⟨rfl, ⟨g_17, rfl, hO_g_17⟩, hz⟩ := hp
        replace hV := u_back hV hn [0, 1] rfl
        have hV : vS G.1 cls lo s H locs (vU V [(pr, eO 2 [.ref bs, .int (nI ((PB ++ [c] ++ [48 + (v / 1000)] ++ [48 + (v / 10 % 10)]).length))]), (bs, eI (gB G) 4880 g_17)]) := hV
        refine lv_aload_n hx hb d_Pr_putWithNumber_64 rfl (lv_at hl 0 rfl) ?_
        refine lv_bipush (v := 48) hx hb d_Pr_putWithNumber_65 (by decide) ?_
        refine lv_iload_n hx hb d_Pr_putWithNumber_67 rfl (lv_at hl 2 rfl) ?_
        refine lv_bipush (v := 10) hx hb d_Pr_putWithNumber_68 (by decide) ?_
        refine e_irem (v := nI (v % 10)) hx hb d_Pr_putWithNumber_70 (by decide) (nI_rem (b := 10) (by omega) (by decide)) ?_
        refine e_iadd (v := nI (48 + (v % 10))) hx hb d_Pr_putWithNumber_71 (nI_add 48 (v % 10)) ?_
        refine v_call (va_runV (As := [.int (nI (48 + (v % 10)))]) (rest := []) ⟨hx, hb, hml, hown, hts⟩ (c_Pr_put l G lo _ _ pr bs g_17 (PB ++ [c] ++ [48 + (v / 1000)] ++ [48 + (v / 10 % 10)]) hn hO_g_17 (48 + (v % 10)) (by omega) (by (try simp only [List.length_append, List.length_singleton, List.length_cons, List.length_nil]); (repeat' split at hF) <;> omega)) (kwV 1 hts w_co_Pr_put rfl rfl w_it_Pr w_ml_Pr_88 w_im_Pr_put w_se_Pr__Pr_put (by decide +kernel) ⟨(Nat.le_of_ble_eq_true rfl), (Nat.le_of_ble_eq_true rfl)⟩) (u_preV hK hV hn [0, 1] rfl hz 0 rfl rfl) rfl rfl hl.1 rfl (lv_room (Nat.le_of_ble_eq_true rfl)) d_Pr_putWithNumber_72 ⟨(Nat.le_of_ble_eq_true rfl), (Nat.le_of_ble_eq_true rfl)⟩) hV (fun r9 V9 H locs hp hV hle => ?_)
        obtain ⟨rfl, ⟨g_18, rfl, hO_g_18⟩, hz⟩ := hp
        replace hV := u_back hV hn [0, 1] rfl
        have hV : vS G.1 cls lo s H locs (vU V [(pr, eO 2 [.ref bs, .int (nI ((PB ++ [c] ++ [48 + (v / 1000)] ++ [48 + (v / 10 % 10)] ++ [48 + (v % 10)]).length))]), (bs, eI (gB G) 4880 g_18)]) := hV
        have eB : PB ++ [c] ++ [48 + (v / 1000)] ++ [48 + (v / 10 % 10)] ++ [48 + (v % 10)] = PB ++ pN c v := by unfold pN dgN; (repeat' split) <;> first | (exfalso; omega) | simp
        rw [eB] at hV hO_g_18
        exact W.vret hx hb hr (v_end hV ⟨rfl, ⟨_, rfl, hO_g_18⟩, hz⟩) hV.2.1.2.2 d_Pr_putWithNumber_75
    · replace c_14 : ¬ v < 100 := fun z9 => c_14 ((nI_ltI (a := v) (b := 100) (by omega) (by omega)).mpr z9)
      refine lv_aload_n hx hb d_Pr_putWithNumber_30 rfl (lv_at hl 0 rfl) ?_
      refine lv_bipush (v := 48) hx hb d_Pr_putWithNumber_31 (by decide) ?_
      refine lv_iload_n hx hb d_Pr_putWithNumber_33 rfl (lv_at hl 2 rfl) ?_
      refine lv_bipush (v := 100) hx hb d_Pr_putWithNumber_34 (by decide) ?_
      refine e_idiv (v := nI (v / 100)) hx hb d_Pr_putWithNumber_36 (by decide) (nI_div (b := 100) (by omega) (by decide)) ?_
      refine lv_bipush (v := 10) hx hb d_Pr_putWithNumber_37 (by decide) ?_
      refine e_irem (v := nI (v / 100 % 10)) hx hb d_Pr_putWithNumber_39 (by decide) (nI_rem (b := 10) (by omega) (by decide)) ?_
      refine e_iadd (v := nI (48 + (v / 100 % 10))) hx hb d_Pr_putWithNumber_40 (nI_add 48 (v / 100 % 10)) ?_
      refine v_call (va_runV (As := [.int (nI (48 + (v / 100 % 10)))]) (rest := []) ⟨hx, hb, hml, hown, hts⟩ (c_Pr_put l G lo _ _ pr bs g_13 (PB ++ [c] ++ [48 + (v / 1000)]) hn hO_g_13 (48 + (v / 100 % 10)) (by omega) (by (try simp only [List.length_append, List.length_singleton, List.length_cons, List.length_nil]); (repeat' split at hF) <;> omega)) (kwV 1 hts w_co_Pr_put rfl rfl w_it_Pr w_ml_Pr_88 w_im_Pr_put w_se_Pr__Pr_put (by decide +kernel) ⟨(Nat.le_of_ble_eq_true rfl), (Nat.le_of_ble_eq_true rfl)⟩) (u_preV hK hV hn [0, 1] rfl hz 0 rfl rfl) rfl rfl hl.1 rfl (lv_room (Nat.le_of_ble_eq_true rfl)) d_Pr_putWithNumber_41 ⟨(Nat.le_of_ble_eq_true rfl), (Nat.le_of_ble_eq_true rfl)⟩) hV (fun r9 V9 H locs hp hV hle => ?_)
      obtain ⟨rfl, ⟨g_19, rfl, hO_g_19⟩, hz⟩ := hp
      replace hV := u_back hV hn [0, 1] rfl
      have hV : vS G.1 cls lo s H locs (vU V [(pr, eO 2 [.ref bs, .int (nI ((PB ++ [c] ++ [48 + (v / 1000)] ++ [48 + (v / 100 % 10)]).length))]), (bs, eI (gB G) 4880 g_19)]) := hV
      refine lv_iload_n hx hb d_Pr_putWithNumber_44 rfl (lv_at hl 2 rfl) ?_
      refine lv_bipush (v := 10) hx hb d_Pr_putWithNumber_45 (by decide) ?_
      refine lv_icmp_lt (tgt := 64) hx hb d_Pr_putWithNumber_47 (by decide) (fun c_20 => ?_) (fun c_20 => ?_)
      · replace c_20 : v < 10 := (nI_ltI (a := v) (b := 10) (by omega) (by omega)).mp c_20
        refine lv_aload_n hx hb d_Pr_putWithNumber_64 rfl (lv_at hl 0 rfl) ?_
        refine lv_bipush (v := 48) hx hb d_Pr_putWithNumber_65 (by decide) ?_
        refine lv_iload_n hx hb d_Pr_putWithNumber_67 rfl (lv_at hl 2 rfl) ?_
        refine lv_bipush (v := 10) hx hb d_Pr_putWithNumber_68 (by decide) ?_
        refine e_irem (v := nI (v % 10)) hx hb d_Pr_putWithNumber_70 (by decide) (nI_rem (b := 10) (by omega) (by decide)) ?_
        refine e_iadd (v := nI (48 + (v % 10))) hx hb d_Pr_putWithNumber_71 (nI_add 48 (v % 10)) ?_
        refine v_call (va_runV (As := [.int (nI (48 + (v % 10)))]) (rest := []) ⟨hx, hb, hml, hown, hts⟩ (c_Pr_put l G lo _ _ pr bs g_19 (PB ++ [c] ++ [48 + (v / 1000)] ++ [48 + (v / 100 % 10)]) hn hO_g_19 (48 + (v % 10)) (by omega) (by (try simp only [List.length_append, List.length_singleton, List.length_cons, List.length_nil]); (repeat' split at hF) <;> omega)) (kwV 1 hts w_co_Pr_put rfl rfl w_it_Pr w_ml_Pr_88 w_im_Pr_put w_se_Pr__Pr_put (by decide +kernel) ⟨(Nat.le_of_ble_eq_true rfl), (Nat.le_of_ble_eq_true rfl)⟩) (u_preV hK hV hn [0, 1] rfl hz 0 rfl rfl) rfl rfl hl.1 rfl (lv_room (Nat.le_of_ble_eq_true rfl)) d_Pr_putWithNumber_72 ⟨(Nat.le_of_ble_eq_true rfl), (Nat.le_of_ble_eq_true rfl)⟩) hV (fun r9 V9 H locs hp hV hle => ?_)
        obtain ⟨rfl, ⟨g_21, rfl, hO_g_21⟩, hz⟩ := hp
        replace hV := u_back hV hn [0, 1] rfl
        have hV : vS G.1 cls lo s H locs (vU V [(pr, eO 2 [.ref bs, .int (nI ((PB ++ [c] ++ [48 + (v / 1000)] ++ [48 + (v / 100 % 10)] ++ [48 + (v % 10)]).length))]), (bs, eI (gB G) 4880 g_21)]) := hV
        have eB : PB ++ [c] ++ [48 + (v / 1000)] ++ [48 + (v / 100 % 10)] ++ [48 + (v % 10)] = PB ++ pN c v := by unfold pN dgN; (repeat' split) <;> first | (exfalso; omega) | simp
        rw [eB] at hV hO_g_21
        exact W.vret hx hb hr (v_end hV ⟨rfl, ⟨_, rfl, hO_g_21⟩, hz⟩) hV.2.1.2.2 d_Pr_putWithNumber_75
      · replace c_20 : ¬ v < 10 := fun z9 => c_20 ((nI_ltI (a := v) (b := 10) (by omega) (by omega)).mpr z9)
        refine lv_aload_n hx hb d_Pr_putWithNumber_50 rfl (lv_at hl 0 rfl) ?_
        refine lv_bipush (v := 48) hx hb d_Pr_putWithNumber_51 (by decide) ?_
        refine lv_iload_n hx hb d_Pr_putWithNumber_53 rfl (lv_at hl 2 rfl) ?_
        refine lv_bipush (v := 10) hx hb d_Pr_putWithNumber_54 (by decide) ?_
        refine e_idiv (v := nI (v / 10)) hx hb d_Pr_putWithNumber_56 (by decide) (nI_div (b := 10) (by omega) (by decide)) ?_
        refine lv_bipush (v := 10) hx hb d_Pr_putWithNumber_57 (by decide) ?_
        refine e_irem (v := nI (v / 10 % 10)) hx hb d_Pr_putWithNumber_59 (by decide) (nI_rem (b := 10) (by omega) (by decide)) ?_
        refine e_iadd (v := nI (48 + (v / 10 % 10))) hx hb d_Pr_putWithNumber_60 (nI_add 48 (v / 10 % 10)) ?_
        refine v_call (va_runV (As := [.int (nI (48 + (v / 10 % 10)))]) (rest := []) ⟨hx, hb, hml, hown, hts⟩ (c_Pr_put l G lo _ _ pr bs g_19 (PB ++ [c] ++ [48 + (v / 1000)] ++ [48 + (v / 100 % 10)]) hn hO_g_19 (48 + (v / 10 % 10)) (by omega) (by (try simp only [List.length_append, List.length_singleton, List.length_cons, List.length_nil]); (repeat' split at hF) <;> omega)) (kwV 1 hts w_co_Pr_put rfl rfl w_it_Pr w_ml_Pr_88 w_im_Pr_put w_se_Pr__Pr_put (by decide +kernel) ⟨(Nat.le_of_ble_eq_true rfl), (Nat.le_of_ble_eq_true rfl)⟩) (u_preV hK hV hn [0, 1] rfl hz 0 rfl rfl) rfl rfl hl.1 rfl (lv_room (Nat.le_of_ble_eq_true rfl)) d_Pr_putWithNumber_61 ⟨(Nat.le_of_ble_eq_true rfl), (Nat.le_of_ble_eq_true rfl)⟩) hV (fun r9 V9 H locs hp hV hle => ?_)
        obtain ⟨rfl, ⟨g_22, rfl, hO_g_22⟩, hz⟩ := hp
        replace hV := u_back hV hn [0, 1] rfl
        have hV : vS G.1 cls lo s H locs (vU V [(pr, eO 2 [.ref bs, .int (nI ((PB ++ [c] ++ [48 + (v / 1000)] ++ [48 + (v / 100 % 10)] ++ [48 + (v / 10 % 10)]).length))]), (bs, eI (gB G) 4880 g_22)]) := hV
        refine lv_aload_n hx hb d_Pr_putWithNumber_64 rfl (lv_at hl 0 rfl) ?_
        refine lv_bipush (v := 48) hx hb d_Pr_putWithNumber_65 (by decide) ?_
        refine lv_iload_n hx hb d_Pr_putWithNumber_67 rfl (lv_at hl 2 rfl) ?_
        refine lv_bipush (v := 10) hx hb d_Pr_putWithNumber_68 (by decide) ?_
        refine e_irem (v := nI (v % 10)) hx hb d_Pr_putWithNumber_70 (by decide) (nI_rem (b := 10) (by omega) (by decide)) ?_
        refine e_iadd (v := nI (48 + (v % 10))) hx hb d_Pr_putWithNumber_71 (nI_add 48 (v % 10)) ?_
        refine v_call (va_runV (As := [.int (nI (48 + (v % 10)))]) (rest := []) ⟨hx, hb, hml, hown, hts⟩ (c_Pr_put l G lo _ _ pr bs g_22 (PB ++ [c] ++ [48 + (v / 1000)] ++ [48 + (v / 100 % 10)] ++ [48 + (v / 10 % 10)]) hn hO_g_22 (48 + (v % 10)) (by omega) (by (try simp only [List.length_append, List.length_singleton, List.length_cons, List.length_nil]); (repeat' split at hF) <;> omega)) (kwV 1 hts w_co_Pr_put rfl rfl w_it_Pr w_ml_Pr_88 w_im_Pr_put w_se_Pr__Pr_put (by decide +kernel) ⟨(Nat.le_of_ble_eq_true rfl), (Nat.le_of_ble_eq_true rfl)⟩) (u_preV hK hV hn [0, 1] rfl hz 0 rfl rfl) rfl rfl hl.1 rfl (lv_room (Nat.le_of_ble_eq_true rfl)) d_Pr_putWithNumber_72 ⟨(Nat.le_of_ble_eq_true rfl), (Nat.le_of_ble_eq_true rfl)⟩) hV (fun r9 V9 H locs hp hV hle => ?_)
        obtain ⟨rfl, ⟨g_23, rfl, hO_g_23⟩, hz⟩ := hp
        replace hV := u_back hV hn [0, 1] rfl
        have hV : vS G.1 cls lo s H locs (vU V [(pr, eO 2 [.ref bs, .int (nI ((PB ++ [c] ++ [48 + (v / 1000)] ++ [48 + (v / 100 % 10)] ++ [48 + (v / 10 % 10)] ++ [48 + (v % 10)]).length))]), (bs, eI (gB G) 4880 g_23)]) := hV
        have eB : PB ++ [c] ++ [48 + (v / 1000)] ++ [48 + (v / 100 % 10)] ++ [48 + (v / 10 % 10)] ++ [48 + (v % 10)] = PB ++ pN c v := by unfold pN dgN; (repeat' split) <;> first | (exfalso; omega) | simp
        rw [eB] at hV hO_g_23
        exact W.vret hx hb hr (v_end hV ⟨rfl, ⟨_, rfl, hO_g_23⟩, hz⟩) hV.2.1.2.2 d_Pr_putWithNumber_75

set_option maxHeartbeats 4000000 in
set_option maxRecDepth 100000 in
/-- Printer.putNameAndArea -/
theorem c_Pr_putNameAndArea (l : Launch) (G : Gx) (lo : Nat) (V : Vw) (sz : Nat) (pr bs : Nat) (fo : Nat → Int32) (PB : List Nat) (pa x1 x2 x3 : Nat) (R : PcR) (hR : pcV R) (ls0 : List Nat) (ar : Nat) (hNm : R.2.2.2.2 = some (ls0, ar)) (hn : [pr, bs, pa].Nodup) (hO : prOk fo PB) (hF : PB.length + (prNm R.2.2.2.2).length ≤ 4880) : Met l y_Pr_putNameAndArea ws_Pr_putNameAndArea ({ frames := 2, cells := 0, slots := 0, locals := 43 } : Room) (vPre G lo [.ref pr, .ref pa] (vU V [(pr, eO 2 [.ref bs, .int (nI PB.length)]), (bs, eI (gB G) 4880 fo), (pa, eO 1 [.int (nI R.1.1), .int (nI R.1.2.2), .int (b2i R.1.2.1), .int (nI R.2.1.1), .int (nI R.2.1.2.1), .int (nI R.2.1.2.2), .int (nI R.2.2.1.length), .ref x1, .ref x2, .ref x3, .int (nI R.2.2.2.1.1), .int (nI R.2.2.2.1.2), .long (lN (encN (nmL R.2.2.2.2))), .int (nI ((nmL R.2.2.2.2).length)), .int (nmA R.2.2.2.2)])]) sz) (vPost G lo (fun r V' k => r = none ∧ (∃ f1 : Nat → Int32, V' = vU V [(pr, eO 2 [.ref bs, .int (nI ((PB ++ prNm R.2.2.2.2).length))]), (bs, eI (gB G) 4880 f1), (pa, eO 1 [.int (nI R.1.1), .int (nI R.1.2.2), .int (b2i R.1.2.1), .int (nI R.2.1.1), .int (nI R.2.1.2.1), .int (nI R.2.1.2.2), .int (nI R.2.2.1.length), .ref x1, .ref x2, .ref x3, .int (nI R.2.2.2.1.1), .int (nI R.2.2.2.1.2), .long (lN (encN (nmL R.2.2.2.2))), .int (nI ((nmL R.2.2.2.2).length)), .int (nmA R.2.2.2.2)])] ∧ prOk f1 (PB ++ prNm R.2.2.2.2)) ∧ k = sz)) 0 0 (vL lo) := by
  refine vMet (R := RPr) (by decide) rfl (Nat.le_of_ble_eq_true rfl) ?_
  intro pg ev s mi args below meth cd hx hb hr hml hlk hnm hts hown hK hz hV ls hl
  have hl : lv_has ls 3 [(0, .ref pr), (1, .ref pa)] := hl
  have hV0 := hV
  obtain ⟨H, hH⟩ : ∃ H, H = s.heap := ⟨_, rfl⟩
  obtain ⟨locs, hlocs⟩ : ∃ locs : List Loc, locs = [] := ⟨_, rfl⟩
  rw [← hH, ← hlocs]
  rw [← hH] at hz
  replace hV : vS G.1 cls lo s H locs (vU V [(pr, eO 2 [.ref bs, .int (nI PB.length)]), (bs, eI (gB G) 4880 fo), (pa, eO 1 [.int (nI R.1.1), .int (nI R.1.2.2), .int (b2i R.1.2.1), .int (nI R.2.1.1), .int (nI R.2.1.2.1), .int (nI R.2.1.2.2), .int (nI R.2.2.1.length), .ref x1, .ref x2, .ref x3, .int (nI R.2.2.2.1.1), .int (nI R.2.2.2.1.2), .long (lN (encN (nmL R.2.2.2.2))), .int (nI ((nmL R.2.2.2.2).length)), .int (nmA R.2.2.2.2)])]) := by rw [hH, hlocs]; exact hV
  clear hH hlocs hV0
  obtain ⟨hn1, hn2⟩ := nmL_V hR.2.2.2.2
  have hF2 := hF
  have hV2 := hR.2.2.2.2
  rw [hNm] at hF2 hV2 hn1 hn2
  have har : ar ≤ 9 := hV2.2.2.2
  simp only [nmL] at hn1 hn2
  simp only [prNm, List.length_append, List.length_cons] at hF2
  have eL : nmL R.2.2.2.2 = ls0 := by rw [hNm]; rfl
  have hn0 : (nmL R.2.2.2.2).length ≤ 8 := by rw [eL]; exact hn1
  refine lv_aload_n hx hb d_Pr_putNameAndArea_0 rfl (lv_at hl 0 rfl) ?_
  refine lv_bipush (v := 34) hx hb d_Pr_putNameAndArea_1 (by decide) ?_
  refine v_call (va_runV (As := [.int 34]) (rest := []) ⟨hx, hb, hml, hown, hts⟩ (c_Pr_put l G lo _ _ pr bs fo PB (nd_sub hn [0, 1] (by decide) rfl) hO 34 (by first | decide | omega) (by (try simp only [List.length_append, List.length_singleton, List.length_cons, List.length_nil, List.length_take]); omega)) (kwV 1 hts w_co_Pr_put rfl rfl w_it_Pr w_ml_Pr_88 w_im_Pr_put w_se_Pr__Pr_put (by decide +kernel) ⟨(Nat.le_of_ble_eq_true rfl), (Nat.le_of_ble_eq_true rfl)⟩) (u_preV hK hV hn [0, 1] rfl hz 0 rfl rfl) rfl rfl hl.1 rfl (lv_room (Nat.le_of_ble_eq_true rfl)) d_Pr_putNameAndArea_3 ⟨(Nat.le_of_ble_eq_true rfl), (Nat.le_of_ble_eq_true rfl)⟩) hV (fun r9 V9 H locs hp hV hle => ?_)
  obtain ⟨rfl, ⟨g_1, rfl, hO_g_1⟩, hz⟩ := hp
  replace hV := u_back hV hn [0, 1] rfl
  have hV : vS G.1 cls lo s H locs (vU V [(pr, eO 2 [.ref bs, .int (nI ((PB ++ [34]).length))]), (bs, eI (gB G) 4880 g_1), (pa, eO 1 [.int (nI R.1.1), .int (nI R.1.2.2), .int (b2i R.1.2.1), .int (nI R.2.1.1), .int (nI R.2.1.2.1), .int (nI R.2.1.2.2), .int (nI R.2.2.1.length), .ref x1, .ref x2, .ref x3, .int (nI R.2.2.2.1.1), .int (nI R.2.2.2.1.2), .long (lN (encN (nmL R.2.2.2.2))), .int (nI ((nmL R.2.2.2.2).length)), .int (nmA R.2.2.2.2)])]) := hV
  refine lv_iconst (v := 0) hx hb d_Pr_putNameAndArea_6 (by decide) ?_
  refine lv_istore_n (lv' := [(2, .int 0), (0, .ref pr), (1, .ref pa)]) hx hb d_Pr_putNameAndArea_7 rfl hl (by decide) rfl (fun ls hl => ?_)
  have loop : ∀ (k : Nat) (i : Nat) (fo : Nat → Int32), ls0.length - i < k → (i ≤ ls0.length) → (prOk fo (PB ++ [34] ++ ls0.take i)) → ∀ (H : Heap) (locs : List Loc) (ls : Array Slot), H.size = sz → vS G.1 cls lo s H locs (vU V [(pr, eO 2 [.ref bs, .int (nI ((PB ++ [34] ++ ls0.take i).length))]), (bs, eI (gB G) 4880 fo), (pa, eO 1 [.int (nI R.1.1), .int (nI R.1.2.2), .int (b2i R.1.2.1), .int (nI R.2.1.1), .int (nI R.2.1.2.1), .int (nI R.2.1.2.2), .int (nI R.2.2.1.length), .ref x1, .ref x2, .ref x3, .int (nI R.2.2.2.1.1), .int (nI R.2.2.2.1.2), .long (lN (encN (nmL R.2.2.2.2))), .int (nI ((nmL R.2.2.2.2).length)), .int (nmA R.2.2.2.2)])]) → lv_has ls 3 [(0, .ref pr), (1, .ref pa), (2, .int (nI i))] → W pg l ev ({ frames := 2, cells := 0, slots := 0, locals := 43 } : Room) s mi args below meth cd H locs 0 0 (MQ below (vPost G lo (fun r V' k => r = none ∧ (∃ f1 : Nat → Int32, V' = vU V [(pr, eO 2 [.ref bs, .int (nI ((PB ++ prNm R.2.2.2.2).length))]), (bs, eI (gB G) 4880 f1), (pa, eO 1 [.int (nI R.1.1), .int (nI R.1.2.2), .int (b2i R.1.2.1), .int (nI R.2.1.1), .int (nI R.2.1.2.1), .int (nI R.2.1.2.2), .int (nI R.2.2.1.length), .ref x1, .ref x2, .ref x3, .int (nI R.2.2.2.1.1), .int (nI R.2.2.2.1.2), .long (lN (encN (nmL R.2.2.2.2))), .int (nI ((nmL R.2.2.2.2).length)), .int (nmA R.2.2.2.2)])] ∧ prOk f1 (PB ++ prNm R.2.2.2.2)) ∧ k = sz)) args s 0 0 (vL lo)) (F0 mi 8 ls []) := by
    intro k
    induction k with
    | zero => intro i fo hk; exact absurd hk (by omega)
    | succ k ih =>
      intro i fo hk hi hO H locs ls hz hV hl
      refine lv_iload_n hx hb d_Pr_putNameAndArea_8 rfl (lv_at hl 2 rfl) ?_
      refine lv_aload_n hx hb d_Pr_putNameAndArea_9 rfl (lv_at hl 1 rfl) ?_
      refine u_get hx hb hts inPc hown hK hV hn 2 rfl rfl 13 (by decide) w_fl_Pr_116 rfl rfl d_Pr_putNameAndArea_10 ?_
      refine lv_icmp_ge (tgt := 31) hx hb d_Pr_putNameAndArea_13 (by decide) (fun c_2 => ?_) (fun c_2 => ?_)
      · replace c_2 : (nmL R.2.2.2.2).length ≤ i := (nI_leI (a := (nmL R.2.2.2.2).length) (b := i) (by omega) (by omega)).mp c_2
        rw [show ls0.take i = ls0 from List.take_of_length_le (by rw [← eL]; omega)] at hV hO
        refine lv_aload_n hx hb d_Pr_putNameAndArea_31 rfl (lv_at hl 0 rfl) ?_
        refine lv_bipush (v := 34) hx hb d_Pr_putNameAndArea_32 (by decide) ?_
        refine v_call (va_runV (As := [.int 34]) (rest := []) ⟨hx, hb, hml, hown, hts⟩ (c_Pr_put l G lo _ _ pr bs fo (PB ++ [34] ++ ls0) (nd_sub hn [0, 1] (by decide) rfl) hO 34 (by first | decide | omega) (by (try simp only [List.length_append, List.length_singleton, List.length_cons, List.length_nil, List.length_take]); omega)) (kwV 1 hts w_co_Pr_put rfl rfl w_it_Pr w_ml_Pr_88 w_im_Pr_put w_se_Pr__Pr_put (by decide +kernel) ⟨(Nat.le_of_ble_eq_true rfl), (Nat.le_of_ble_eq_true rfl)⟩) (u_preV hK hV hn [0, 1] rfl hz 0 rfl rfl) rfl rfl hl.1 rfl (lv_room (Nat.le_of_ble_eq_true rfl)) d_Pr_putNameAndArea_34 ⟨(Nat.le_of_ble_eq_true rfl), (Nat.le_of_ble_eq_true rfl)⟩) hV (fun r9 V9 H locs hp hV hle => ?_)
        obtain ⟨rfl, ⟨g_3, rfl, hO_g_3⟩, hz⟩ := hp
        replace hV := u_back hV hn [0, 1] rfl
        have hV : vS G.1 cls lo s H locs (vU V [(pr, eO 2 [.ref bs, .int (nI ((PB ++ [34] ++ ls0 ++ [34]).length))]), (bs, eI (gB G) 4880 g_3), (pa, eO 1 [.int (nI R.1.1), .int (nI R.1.2.2), .int (b2i R.1.2.1), .int (nI R.2.1.1), .int (nI R.2.1.2.1), .int (nI R.2.1.2.2), .int (nI R.2.2.1.length), .ref x1, .ref x2, .ref x3, .int (nI R.2.2.2.1.1), .int (nI R.2.2.2.1.2), .long (lN (encN (nmL R.2.2.2.2))), .int (nI ((nmL R.2.2.2.2).length)), .int (nmA R.2.2.2.2)])]) := hV
        refine lv_aload_n hx hb d_Pr_putNameAndArea_37 rfl (lv_at hl 0 rfl) ?_
        refine lv_bipush (v := 35) hx hb d_Pr_putNameAndArea_38 (by decide) ?_
        refine lv_aload_n hx hb d_Pr_putNameAndArea_40 rfl (lv_at hl 1 rfl) ?_
        refine u_get hx hb hts inPc hown hK hV hn 2 rfl rfl 14 (by decide) w_fl_Pr_98 rfl rfl d_Pr_putNameAndArea_41 ?_
        refine W.eq (g2 := F0 mi 44 ls [.int (nI ar), .int 35, .ref pr]) (by rw [show nmA R.2.2.2.2 = nI ar by rw [hNm]; rfl] <;> rfl) ?_
        refine v_call (va_runV (As := [.int 35, .int (nI ar)]) (rest := []) ⟨hx, hb, hml, hown, hts⟩ (c_Pr_putWithNumber l G lo _ _ pr bs g_3 (PB ++ [34] ++ ls0 ++ [34]) (nd_sub hn [0, 1] (by decide) rfl) hO_g_3 35 ar (by first | decide | omega) (by omega) (by (try simp only [List.length_append, List.length_singleton, List.length_cons, List.length_nil, List.length_take]); omega)) (kwV 2 hts w_co_Pr_putWithNumber rfl rfl w_it_Pr w_ml_Pr_48 w_im_Pr_putWithNumber w_se_Pr__Pr_putWithNumber (by decide +kernel) ⟨(Nat.le_of_ble_eq_true rfl), (Nat.le_of_ble_eq_true rfl)⟩) (u_preV hK hV hn [0, 1] rfl hz 0 rfl rfl) rfl rfl hl.1 rfl (lv_room (Nat.le_of_ble_eq_true rfl)) d_Pr_putNameAndArea_44 ⟨(Nat.le_of_ble_eq_true rfl), (Nat.le_of_ble_eq_true rfl)⟩) hV (fun r9 V9 H locs hp hV hle => ?_)
        obtain ⟨rfl, ⟨g_4, rfl, hO_g_4⟩, hz⟩ := hp
        replace hV := u_back hV hn [0, 1] rfl
        have hV : vS G.1 cls lo s H locs (vU V [(pr, eO 2 [.ref bs, .int (nI ((PB ++ [34] ++ ls0 ++ [34] ++ pN 35 ar).length))]), (bs, eI (gB G) 4880 g_4), (pa, eO 1 [.int (nI R.1.1), .int (nI R.1.2.2), .int (b2i R.1.2.1), .int (nI R.2.1.1), .int (nI R.2.1.2.1), .int (nI R.2.1.2.2), .int (nI R.2.2.1.length), .ref x1, .ref x2, .ref x3, .int (nI R.2.2.2.1.1), .int (nI R.2.2.2.1.2), .long (lN (encN (nmL R.2.2.2.2))), .int (nI ((nmL R.2.2.2.2).length)), .int (nmA R.2.2.2.2)])]) := hV
        have eB : PB ++ [34] ++ ls0 ++ [34] ++ pN 35 ar = PB ++ prNm R.2.2.2.2 := by rw [hNm]; simp only [prNm, List.append_assoc, List.cons_append, List.nil_append]
        rw [eB] at hV hO_g_4
        exact W.vret hx hb hr (v_end hV ⟨rfl, ⟨_, rfl, hO_g_4⟩, hz⟩) hV.2.1.2.2 d_Pr_putNameAndArea_47
      · replace c_2 : ¬ (nmL R.2.2.2.2).length ≤ i := fun z9 => c_2 ((nI_leI (a := (nmL R.2.2.2.2).length) (b := i) (by omega) (by omega)).mpr z9)
        rw [eL] at c_2
        refine lv_aload_n hx hb d_Pr_putNameAndArea_16 rfl (lv_at hl 0 rfl) ?_
        refine lv_aload_n hx hb d_Pr_putNameAndArea_17 rfl (lv_at hl 1 rfl) ?_
        refine lv_iload_n hx hb d_Pr_putNameAndArea_18 rfl (lv_at hl 2 rfl) ?_
        refine v_call (va_runV (As := [.int (nI i)]) (rest := [.ref pr]) ⟨hx, hb, hml, hown, hts⟩ (c_Pc_letter l G lo _ _ pa x1 x2 x3 R hR (nI i)) (kwV 1 hts w_co_Pc_letter rfl rfl w_it_Pc w_ml_Pr_119 w_im_Pc_letter w_se_Pc__Pc_letter (by decide +kernel) ⟨(Nat.le_of_ble_eq_true rfl), (Nat.le_of_ble_eq_true rfl)⟩) (u_preV hK hV hn [2] rfl hz 2 rfl rfl) rfl rfl hl.1 rfl (lv_room (Nat.le_of_ble_eq_true rfl)) d_Pr_putNameAndArea_19 ⟨(Nat.le_of_ble_eq_true rfl), (Nat.le_of_ble_eq_true rfl)⟩) hV (fun r9 V9 H locs hp hV hle => ?_)
        obtain ⟨rfl, rfl, hz⟩ := hp
        replace hV := uu_same hV hn [2] rfl
        have hV : vS G.1 cls lo s H locs (vU V [(pr, eO 2 [.ref bs, .int (nI ((PB ++ [34] ++ ls0.take i).length))]), (bs, eI (gB G) 4880 fo), (pa, eO 1 [.int (nI R.1.1), .int (nI R.1.2.2), .int (b2i R.1.2.1), .int (nI R.2.1.1), .int (nI R.2.1.2.1), .int (nI R.2.1.2.2), .int (nI R.2.2.1.length), .ref x1, .ref x2, .ref x3, .int (nI R.2.2.2.1.1), .int (nI R.2.2.2.1.2), .long (lN (encN (nmL R.2.2.2.2))), .int (nI ((nmL R.2.2.2.2).length)), .int (nmA R.2.2.2.2)])]) := hV
        refine W.eq (g2 := F0 mi 22 ls [.int (letC (nmL R.2.2.2.2) (nI i)), .ref pr]) rfl ?_
        refine W.eq (g2 := F0 mi 22 ls [.int (nI (ls0.getD i 0)), .ref pr]) (by rw [letC_in (ls := (nmL R.2.2.2.2)) (i := i) (by rw [eL]; omega) (by rw [eL]; omega), eL] <;> rfl) ?_
        have hci : ls0.getD i 0 < 128 := by rw [getD_in (by omega)]; have := hn2 _ (List.getElem_mem (l := ls0) (n := i) (by omega)); omega
        refine v_call (va_runV (As := [.int (nI (ls0.getD i 0))]) (rest := []) ⟨hx, hb, hml, hown, hts⟩ (c_Pr_put l G lo _ _ pr bs fo (PB ++ [34] ++ ls0.take i) (nd_sub hn [0, 1] (by decide) rfl) hO (ls0.getD i 0) (by first | decide | omega) (by (try simp only [List.length_append, List.length_singleton, List.length_cons, List.length_nil, List.length_take]); omega)) (kwV 1 hts w_co_Pr_put rfl rfl w_it_Pr w_ml_Pr_88 w_im_Pr_put w_se_Pr__Pr_put (by decide +kernel) ⟨(Nat.le_of_ble_eq_true rfl), (Nat.le_of_ble_eq_true rfl)⟩) (u_preV hK hV hn [0, 1] rfl hz 0 rfl rfl) rfl rfl hl.1 rfl (lv_room (Nat.le_of_ble_eq_true rfl)) d_Pr_putNameAndArea_22 ⟨(Nat.le_of_ble_eq_true rfl), (Nat.le_of_ble_eq_true rfl)⟩) hV (fun r9 V9 H locs hp hV hle => ?_)
        obtain ⟨rfl, ⟨g_5, rfl, hO_g_5⟩, hz⟩ := hp
        replace hV := u_back hV hn [0, 1] rfl
        have hV : vS G.1 cls lo s H locs (vU V [(pr, eO 2 [.ref bs, .int (nI ((PB ++ [34] ++ ls0.take i ++ [ls0.getD i 0]).length))]), (bs, eI (gB G) 4880 g_5), (pa, eO 1 [.int (nI R.1.1), .int (nI R.1.2.2), .int (b2i R.1.2.1), .int (nI R.2.1.1), .int (nI R.2.1.2.1), .int (nI R.2.1.2.2), .int (nI R.2.2.1.length), .ref x1, .ref x2, .ref x3, .int (nI R.2.2.2.1.1), .int (nI R.2.2.2.1.2), .long (lN (encN (nmL R.2.2.2.2))), .int (nI ((nmL R.2.2.2.2).length)), .int (nmA R.2.2.2.2)])]) := hV
        refine lv_iinc (v := nI (i + 1)) (lv' := [(2, .int (nI (i + 1))), (0, .ref pr), (1, .ref pa)]) hx hb d_Pr_putNameAndArea_25 hl (k := 2) rfl (nI_add i 1) (by decide) rfl (fun ls hl => ?_)
        refine lv_goto (tgt := 8) hx hb d_Pr_putNameAndArea_28 (by decide) ?_
        have eT : PB ++ [34] ++ ls0.take i ++ [ls0.getD i 0] = PB ++ [34] ++ ls0.take (i + 1) := by rw [List.append_assoc, take_getD (by omega)]
        rw [eT] at hV hO_g_5
        exact ih (i + 1) g_5 (by omega) (by omega) hO_g_5 H locs ls hz hV (lv_sub hl [1, 2, 0] rfl)
  rw [show PB ++ [34] = PB ++ [34] ++ ls0.take 0 by simp] at hV hO_g_1
  exact loop (ls0.length + 1) 0 g_1 (by omega) (by omega) hO_g_1 H locs ls hz hV (lv_sub hl [1, 2, 0] rfl)

set_option maxHeartbeats 4000000 in
set_option maxRecDepth 100000 in
/-- Printer.putSpots -/
theorem c_Pr_putSpots (l : Launch) (G : Gx) (lo : Nat) (V : Vw) (sz : Nat) (pr bs : Nat) (fo : Nat → Int32) (PB : List Nat) (sp po me : Nat) (fp fm : Nat → Int32) (B : Nat → Option (Nat × Nat)) (hn : [pr, bs, sp, po, me].Nodup) (hO : prOk fo PB) (c : Nat) (hc : c < 128) (hF : PB.length ≤ 4520) (hS : spOk fp fm B) : Met l y_Pr_putSpots ws_Pr_putSpots ({ frames := 2, cells := 0, slots := 0, locals := 43 } : Room) (vPre G lo [.ref pr, .int (nI c), .ref sp] (vU V [(pr, eO 2 [.ref bs, .int (nI PB.length)]), (bs, eI (gB G) 4880 fo), (sp, eO 4 [.ref po, .ref me]), (po, eI (gI G) 31 fp), (me, eI (gI G) 31 fm)]) sz) (vPost G lo (fun r V' k => r = none ∧ (∃ f1 : Nat → Int32, V' = vU V [(pr, eO 2 [.ref bs, .int (nI ((PB ++ prSp c B 30).length))]), (bs, eI (gB G) 4880 f1), (sp, eO 4 [.ref po, .ref me]), (po, eI (gI G) 31 fp), (me, eI (gI G) 31 fm)] ∧ prOk f1 (PB ++ prSp c B 30)) ∧ k = sz)) 0 0 (vL lo) := by
  refine vMet (R := RPr) (by decide) rfl (Nat.le_of_ble_eq_true rfl) ?_
  intro pg ev s mi args below meth cd hx hb hr hml hlk hnm hts hown hK hz hV ls hl
  have hl : lv_has ls 4 [(0, .ref pr), (1, .int (nI c)), (2, .ref sp)] := hl
  have hV0 := hV
  obtain ⟨H, hH⟩ : ∃ H, H = s.heap := ⟨_, rfl⟩
  obtain ⟨locs, hlocs⟩ : ∃ locs : List Loc, locs = [] := ⟨_, rfl⟩
  rw [← hH, ← hlocs]
  rw [← hH] at hz
  replace hV : vS G.1 cls lo s H locs (vU V [(pr, eO 2 [.ref bs, .int (nI PB.length)]), (bs, eI (gB G) 4880 fo), (sp, eO 4 [.ref po, .ref me]), (po, eI (gI G) 31 fp), (me, eI (gI G) 31 fm)]) := by rw [hH, hlocs]; exact hV
  clear hH hlocs hV0
  refine lv_iconst (v := 1) hx hb d_Pr_putSpots_0 (by decide) ?_
  refine lv_istore_n (lv' := [(3, .int 1), (0, .ref pr), (1, .int (nI c)), (2, .ref sp)]) hx hb d_Pr_putSpots_1 rfl hl (by decide) rfl (fun ls hl => ?_)
  have hle9 : ∀ i, i ≤ 30 → (prSp c B i).length ≤ 12 * i := prSp_le9 hS
  have loop : ∀ (k : Nat) (i : Nat) (fo : Nat → Int32), 30 - i < k → (i ≤ 30) → (prOk fo (PB ++ prSp c B i)) → ∀ (H : Heap) (locs : List Loc) (ls : Array Slot), H.size = sz → vS G.1 cls lo s H locs (vU V [(pr, eO 2 [.ref bs, .int (nI ((PB ++ prSp c B i).length))]), (bs, eI (gB G) 4880 fo), (sp, eO 4 [.ref po, .ref me]), (po, eI (gI G) 31 fp), (me, eI (gI G) 31 fm)]) → lv_has ls 4 [(0, .ref pr), (1, .int (nI c)), (2, .ref sp), (3, .int (nI (i + 1)))] → W pg l ev ({ frames := 2, cells := 0, slots := 0, locals := 43 } : Room) s mi args below meth cd H locs 0 0 (MQ below (vPost G lo (fun r V' k => r = none ∧ (∃ f1 : Nat → Int32, V' = vU V [(pr, eO 2 [.ref bs, .int (nI ((PB ++ prSp c B 30).length))]), (bs, eI (gB G) 4880 f1), (sp, eO 4 [.ref po, .ref me]), (po, eI (gI G) 31 fp), (me, eI (gI G) 31 fm)] ∧ prOk f1 (PB ++ prSp c B 30)) ∧ k = sz)) args s 0 0 (vL lo)) (F0 mi 2 ls []) := by
    intro k
    induction k with
    | zero => intro i fo hk; exact absurd hk (by omega)
    | succ k ih =>
      intro i fo hk hi hO H locs ls hz hV hl
      refine lv_iload_n hx hb d_Pr_putSpots_2 rfl (lv_at hl 3 rfl) ?_
      refine lv_bipush (v := 30) hx hb d_Pr_putSpots_3 (by decide) ?_
      refine lv_icmp_gt (tgt := 58) hx hb d_Pr_putSpots_5 (by decide) (fun c_1 => ?_) (fun c_1 => ?_)
      · replace c_1 : 30 < i + 1 := (nI_ltI (a := 30) (b := i + 1) (by omega) (by omega)).mp c_1
        exact W.vret hx hb hr (v_end hV ⟨rfl, ⟨fo, by rw [show i = 30 by omega], by rw [show i = 30 by omega] at hO; exact hO⟩, hz⟩) hV.2.1.2.2 d_Pr_putSpots_58
      · replace c_1 : ¬ 30 < i + 1 := fun z9 => c_1 ((nI_ltI (a := 30) (b := i + 1) (by omega) (by omega)).mpr z9)
        have hle8 := hle9 i (by omega)
        refine lv_aload_n hx hb d_Pr_putSpots_8 rfl (lv_at hl 2 rfl) ?_
        refine lv_iload_n hx hb d_Pr_putSpots_9 rfl (lv_at hl 3 rfl) ?_
        refine v_call (va_runV (As := [.int (nI (i + 1))]) (rest := []) ⟨hx, hb, hml, hown, hts⟩ (c_Sp_has l G lo _ _ sp po me fp (nI (i + 1)) (nd_sub hn [2, 3] (by decide) rfl)) (kwV 1 hts w_co_Sp_has rfl rfl w_it_Sp w_ml_Pr_122 w_im_Sp_has w_se_Sp__Sp_has (by decide +kernel) ⟨(Nat.le_of_ble_eq_true rfl), (Nat.le_of_ble_eq_true rfl)⟩) (u_preV hK hV hn [2, 3] rfl hz 2 rfl rfl) rfl rfl hl.1 rfl (lv_room (Nat.le_of_ble_eq_true rfl)) d_Pr_putSpots_10 ⟨(Nat.le_of_ble_eq_true rfl), (Nat.le_of_ble_eq_true rfl)⟩) hV (fun r9 V9 H locs hp hV hle => ?_)
        obtain ⟨rfl, rfl, hz⟩ := hp
        replace hV := uu_same hV hn [2, 3] rfl
        rcases tf (spHas fp (nI (i + 1))) with d_2 | d_2
        · rw [spHas_in (by omega) (by omega)] at d_2
          obtain ⟨x, y, ex, ey, eB, hx1, hx2, hy⟩ : ∃ x y : Nat, fp (i + 1) = nI x ∧ fm (i + 1) = nI y ∧ B (i + 1) = some (x, y) ∧ 1 ≤ x ∧ x ≤ 60 ∧ y ≤ 9999 := by
            rcases hS (i + 1) (by omega) (by omega) with ⟨e0, -⟩ | q
            · rw [e0] at d_2; simp at d_2
            · exact q
          have hbd := prSp_bd (c := c) (B := B) (x := x) (y := y) (k := i + 1) (by omega) hx2
          simp only [List.length_append, List.length_singleton] at hbd
          have hV : vS G.1 cls lo s H locs (vU V [(pr, eO 2 [.ref bs, .int (nI ((PB ++ prSp c B i).length))]), (bs, eI (gB G) 4880 fo), (sp, eO 4 [.ref po, .ref me]), (po, eI (gI G) 31 fp), (me, eI (gI G) 31 fm)]) := hV
          refine W.eq (g2 := F0 mi 13 ls [.int 1]) (by rw [spHas_in (by omega) (by omega), d_2]; rfl) ?_
          refine lv_if_eq (tgt := 52) hx hb d_Pr_putSpots_13 (by decide) (fun c_3 => absurd c_3 (by decide)) (fun _ => ?_)
          refine lv_aload_n hx hb d_Pr_putSpots_16 rfl (lv_at hl 0 rfl) ?_
          refine lv_iload_n hx hb d_Pr_putSpots_17 rfl (lv_at hl 1 rfl) ?_
          refine lv_iload_n hx hb d_Pr_putSpots_18 rfl (lv_at hl 3 rfl) ?_
          refine v_call (va_runV (As := [.int (nI c), .int (nI (i + 1))]) (rest := []) ⟨hx, hb, hml, hown, hts⟩ (c_Pr_putWithNumber l G lo _ _ pr bs fo (PB ++ prSp c B i) (nd_sub hn [0, 1] (by decide) rfl) hO c (i + 1) (by first | decide | omega) (by omega) (by (try simp only [List.length_append, List.length_singleton]); omega)) (kwV 2 hts w_co_Pr_putWithNumber rfl rfl w_it_Pr w_ml_Pr_48 w_im_Pr_putWithNumber w_se_Pr__Pr_putWithNumber (by decide +kernel) ⟨(Nat.le_of_ble_eq_true rfl), (Nat.le_of_ble_eq_true rfl)⟩) (u_preV hK hV hn [0, 1] rfl hz 0 rfl rfl) rfl rfl hl.1 rfl (lv_room (Nat.le_of_ble_eq_true rfl)) d_Pr_putSpots_19 ⟨(Nat.le_of_ble_eq_true rfl), (Nat.le_of_ble_eq_true rfl)⟩) hV (fun r9 V9 H locs hp hV hle => ?_)
          obtain ⟨rfl, ⟨g_4, rfl, hO_g_4⟩, hz⟩ := hp
          replace hV := u_back hV hn [0, 1] rfl
          have hV : vS G.1 cls lo s H locs (vU V [(pr, eO 2 [.ref bs, .int (nI ((PB ++ prSp c B i ++ pN c (i + 1)).length))]), (bs, eI (gB G) 4880 g_4), (sp, eO 4 [.ref po, .ref me]), (po, eI (gI G) 31 fp), (me, eI (gI G) 31 fm)]) := hV
          refine lv_aload_n hx hb d_Pr_putSpots_22 rfl (lv_at hl 0 rfl) ?_
          refine lv_bipush (v := 64) hx hb d_Pr_putSpots_23 (by decide) ?_
          refine lv_aload_n hx hb d_Pr_putSpots_25 rfl (lv_at hl 2 rfl) ?_
          refine u_get hx hb hts inSp hown hK hV hn 2 rfl rfl 0 (by decide) w_fl_Pr_128 rfl rfl d_Pr_putSpots_26 ?_
          refine lv_iload_n hx hb d_Pr_putSpots_29 rfl (lv_at hl 3 rfl) ?_
          refine u_ialdN hx hb hK hV hn 3 rfl (by omega) (by decide) d_Pr_putSpots_30 ?_
          rw [ex]
          refine v_call (va_runV (As := [.int 64, .int (nI x)]) (rest := []) ⟨hx, hb, hml, hown, hts⟩ (c_Pr_putWithNumber l G lo _ _ pr bs g_4 (PB ++ prSp c B i ++ pN c (i + 1)) (nd_sub hn [0, 1] (by decide) rfl) hO_g_4 64 x (by first | decide | omega) (by omega) (by (try simp only [List.length_append, List.length_singleton]); omega)) (kwV 2 hts w_co_Pr_putWithNumber rfl rfl w_it_Pr w_ml_Pr_48 w_im_Pr_putWithNumber w_se_Pr__Pr_putWithNumber (by decide +kernel) ⟨(Nat.le_of_ble_eq_true rfl), (Nat.le_of_ble_eq_true rfl)⟩) (u_preV hK hV hn [0, 1] rfl hz 0 rfl rfl) rfl rfl hl.1 rfl (lv_room (Nat.le_of_ble_eq_true rfl)) d_Pr_putSpots_31 ⟨(Nat.le_of_ble_eq_true rfl), (Nat.le_of_ble_eq_true rfl)⟩) hV (fun r9 V9 H locs hp hV hle => ?_)
          obtain ⟨rfl, ⟨g_5, rfl, hO_g_5⟩, hz⟩ := hp
          replace hV := u_back hV hn [0, 1] rfl
          have hV : vS G.1 cls lo s H locs (vU V [(pr, eO 2 [.ref bs, .int (nI ((PB ++ prSp c B i ++ pN c (i + 1) ++ pN 64 x).length))]), (bs, eI (gB G) 4880 g_5), (sp, eO 4 [.ref po, .ref me]), (po, eI (gI G) 31 fp), (me, eI (gI G) 31 fm)]) := hV
          refine lv_aload_n hx hb d_Pr_putSpots_34 rfl (lv_at hl 0 rfl) ?_
          refine lv_bipush (v := 43) hx hb d_Pr_putSpots_35 (by decide) ?_
          refine lv_aload_n hx hb d_Pr_putSpots_37 rfl (lv_at hl 2 rfl) ?_
          refine u_get hx hb hts inSp hown hK hV hn 2 rfl rfl 1 (by decide) w_fl_Pr_131 rfl rfl d_Pr_putSpots_38 ?_
          refine lv_iload_n hx hb d_Pr_putSpots_41 rfl (lv_at hl 3 rfl) ?_
          refine u_ialdN hx hb hK hV hn 4 rfl (by omega) (by decide) d_Pr_putSpots_42 ?_
          rw [ey]
          refine v_call (va_runV (As := [.int 43, .int (nI y)]) (rest := []) ⟨hx, hb, hml, hown, hts⟩ (c_Pr_putWithNumber l G lo _ _ pr bs g_5 (PB ++ prSp c B i ++ pN c (i + 1) ++ pN 64 x) (nd_sub hn [0, 1] (by decide) rfl) hO_g_5 43 y (by first | decide | omega) (by omega) (by (try simp only [List.length_append, List.length_singleton]); omega)) (kwV 2 hts w_co_Pr_putWithNumber rfl rfl w_it_Pr w_ml_Pr_48 w_im_Pr_putWithNumber w_se_Pr__Pr_putWithNumber (by decide +kernel) ⟨(Nat.le_of_ble_eq_true rfl), (Nat.le_of_ble_eq_true rfl)⟩) (u_preV hK hV hn [0, 1] rfl hz 0 rfl rfl) rfl rfl hl.1 rfl (lv_room (Nat.le_of_ble_eq_true rfl)) d_Pr_putSpots_43 ⟨(Nat.le_of_ble_eq_true rfl), (Nat.le_of_ble_eq_true rfl)⟩) hV (fun r9 V9 H locs hp hV hle => ?_)
          obtain ⟨rfl, ⟨g_6, rfl, hO_g_6⟩, hz⟩ := hp
          replace hV := u_back hV hn [0, 1] rfl
          have hV : vS G.1 cls lo s H locs (vU V [(pr, eO 2 [.ref bs, .int (nI ((PB ++ prSp c B i ++ pN c (i + 1) ++ pN 64 x ++ pN 43 y).length))]), (bs, eI (gB G) 4880 g_6), (sp, eO 4 [.ref po, .ref me]), (po, eI (gI G) 31 fp), (me, eI (gI G) 31 fm)]) := hV
          refine lv_aload_n hx hb d_Pr_putSpots_46 rfl (lv_at hl 0 rfl) ?_
          refine lv_bipush (v := 59) hx hb d_Pr_putSpots_47 (by decide) ?_
          refine v_call (va_runV (As := [.int 59]) (rest := []) ⟨hx, hb, hml, hown, hts⟩ (c_Pr_put l G lo _ _ pr bs g_6 (PB ++ prSp c B i ++ pN c (i + 1) ++ pN 64 x ++ pN 43 y) (nd_sub hn [0, 1] (by decide) rfl) hO_g_6 59 (by first | decide | omega) (by (try simp only [List.length_append, List.length_singleton]); omega)) (kwV 1 hts w_co_Pr_put rfl rfl w_it_Pr w_ml_Pr_88 w_im_Pr_put w_se_Pr__Pr_put (by decide +kernel) ⟨(Nat.le_of_ble_eq_true rfl), (Nat.le_of_ble_eq_true rfl)⟩) (u_preV hK hV hn [0, 1] rfl hz 0 rfl rfl) rfl rfl hl.1 rfl (lv_room (Nat.le_of_ble_eq_true rfl)) d_Pr_putSpots_49 ⟨(Nat.le_of_ble_eq_true rfl), (Nat.le_of_ble_eq_true rfl)⟩) hV (fun r9 V9 H locs hp hV hle => ?_)
          obtain ⟨rfl, ⟨g_7, rfl, hO_g_7⟩, hz⟩ := hp
          replace hV := u_back hV hn [0, 1] rfl
          have hV : vS G.1 cls lo s H locs (vU V [(pr, eO 2 [.ref bs, .int (nI ((PB ++ prSp c B i ++ pN c (i + 1) ++ pN 64 x ++ pN 43 y ++ [59]).length))]), (bs, eI (gB G) 4880 g_7), (sp, eO 4 [.ref po, .ref me]), (po, eI (gI G) 31 fp), (me, eI (gI G) 31 fm)]) := hV
          have eP : PB ++ prSp c B i ++ pN c (i + 1) ++ pN 64 x ++ pN 43 y ++ [59] = PB ++ prSp c B (i + 1) := by rw [prSp_s eB]; simp only [List.append_assoc]
          rw [eP] at hV hO_g_7
          refine lv_iinc (v := nI (i + 2)) (lv' := [(3, .int (nI (i + 2))), (0, .ref pr), (1, .int (nI c)), (2, .ref sp)]) hx hb d_Pr_putSpots_52 hl (k := 3) rfl (nI_add (i + 1) 1) (by decide) rfl (fun ls hl => ?_)
          refine lv_goto (tgt := 2) hx hb d_Pr_putSpots_55 (by decide) ?_
          exact ih (i + 1) g_7 (by omega) (by omega) hO_g_7 H locs ls hz hV (lv_sub hl [1, 2, 3, 0] rfl)
        · rw [spHas_in (by omega) (by omega)] at d_2
          have eB : B (i + 1) = none := by
            rcases hS (i + 1) (by omega) (by omega) with ⟨-, e0⟩ | ⟨x, y, ex, -, -, hx1, hx2, -⟩
            · exact e0
            · rw [ex] at d_2; simp at d_2; exact absurd ((nI_eq (a := x) (b := 0) (by omega) (by decide)).mp d_2) (by omega)
          have hV : vS G.1 cls lo s H locs (vU V [(pr, eO 2 [.ref bs, .int (nI ((PB ++ prSp c B i).length))]), (bs, eI (gB G) 4880 fo), (sp, eO 4 [.ref po, .ref me]), (po, eI (gI G) 31 fp), (me, eI (gI G) 31 fm)]) := hV
          refine W.eq (g2 := F0 mi 13 ls [.int 0]) (by rw [spHas_in (by omega) (by omega), d_2]; rfl) ?_
          refine lv_if_eq (tgt := 52) hx hb d_Pr_putSpots_13 (by decide) (fun _ => ?_) (fun c_8 => absurd c_8 (by decide))
          rw [← prSp_n (c := c) eB] at hV hO
          refine lv_iinc (v := nI (i + 2)) (lv' := [(3, .int (nI (i + 2))), (0, .ref pr), (1, .int (nI c)), (2, .ref sp)]) hx hb d_Pr_putSpots_52 hl (k := 3) rfl (nI_add (i + 1) 1) (by decide) rfl (fun ls hl => ?_)
          refine lv_goto (tgt := 2) hx hb d_Pr_putSpots_55 (by decide) ?_
          exact ih (i + 1) fo (by omega) (by omega) hO H locs ls hz hV (lv_sub hl [1, 2, 3, 0] rfl)
  have eF : PB ++ prSp c B 0 = PB := List.append_nil PB
  rw [← eF] at hV hO
  exact loop 31 0 fo (by omega) (by omega) hO H locs ls hz hV (lv_sub hl [1, 2, 3, 0] rfl)

set_option maxHeartbeats 4000000 in
set_option maxRecDepth 100000 in
/-- Printer.putTurns -/
theorem c_Pr_putTurns (l : Launch) (G : Gx) (lo : Nat) (V : Vw) (sz : Nat) (pr bs : Nat) (fo : Nat → Int32) (PB : List Nat) (tu af ao a3 : Nat) (fr ov tt : Nat → Int32) (L : List Tri) (of : Bool) (hn : [pr, bs, tu, af, ao, a3].Nodup) (hO : prOk fo PB) (hF : PB.length ≤ 4680) (hT : tnOk fr ov tt L) (hL : L.length ≤ 20) : Met l y_Pr_putTurns ws_Pr_putTurns ({ frames := 2, cells := 0, slots := 0, locals := 43 } : Room) (vPre G lo [.ref pr, .ref tu] (vU V [(pr, eO 2 [.ref bs, .int (nI PB.length)]), (bs, eI (gB G) 4880 fo), (tu, eO 6 [.ref af, .ref ao, .ref a3, .int (nI L.length), .int (b2i of)]), (af, eI (gI G) 20 fr), (ao, eI (gI G) 20 ov), (a3, eI (gI G) 20 tt)]) sz) (vPost G lo (fun r V' k => r = none ∧ (∃ f1 : Nat → Int32, V' = vU V [(pr, eO 2 [.ref bs, .int (nI ((PB ++ prTn L L.length).length))]), (bs, eI (gB G) 4880 f1), (tu, eO 6 [.ref af, .ref ao, .ref a3, .int (nI L.length), .int (b2i of)]), (af, eI (gI G) 20 fr), (ao, eI (gI G) 20 ov), (a3, eI (gI G) 20 tt)] ∧ prOk f1 (PB ++ prTn L L.length)) ∧ k = sz)) 0 0 (vL lo) := by
  refine vMet (R := RPr) (by decide) rfl (Nat.le_of_ble_eq_true rfl) ?_
  intro pg ev s mi args below meth cd hx hb hr hml hlk hnm hts hown hK hz hV ls hl
  have hl : lv_has ls 3 [(0, .ref pr), (1, .ref tu)] := hl
  have hV0 := hV
  obtain ⟨H, hH⟩ : ∃ H, H = s.heap := ⟨_, rfl⟩
  obtain ⟨locs, hlocs⟩ : ∃ locs : List Loc, locs = [] := ⟨_, rfl⟩
  rw [← hH, ← hlocs]
  rw [← hH] at hz
  replace hV : vS G.1 cls lo s H locs (vU V [(pr, eO 2 [.ref bs, .int (nI PB.length)]), (bs, eI (gB G) 4880 fo), (tu, eO 6 [.ref af, .ref ao, .ref a3, .int (nI L.length), .int (b2i of)]), (af, eI (gI G) 20 fr), (ao, eI (gI G) 20 ov), (a3, eI (gI G) 20 tt)]) := by rw [hH, hlocs]; exact hV
  clear hH hlocs hV0
  refine lv_iconst (v := 0) hx hb d_Pr_putTurns_0 (by decide) ?_
  refine lv_istore_n (lv' := [(2, .int 0), (0, .ref pr), (1, .ref tu)]) hx hb d_Pr_putTurns_1 rfl hl (by decide) rfl (fun ls hl => ?_)
  have loop : ∀ (k : Nat) (i : Nat) (fo : Nat → Int32), L.length - i < k → (i ≤ L.length) → (prOk fo (PB ++ prTn L i)) → ∀ (H : Heap) (locs : List Loc) (ls : Array Slot), H.size = sz → vS G.1 cls lo s H locs (vU V [(pr, eO 2 [.ref bs, .int (nI ((PB ++ prTn L i).length))]), (bs, eI (gB G) 4880 fo), (tu, eO 6 [.ref af, .ref ao, .ref a3, .int (nI L.length), .int (b2i of)]), (af, eI (gI G) 20 fr), (ao, eI (gI G) 20 ov), (a3, eI (gI G) 20 tt)]) → lv_has ls 3 [(0, .ref pr), (1, .ref tu), (2, .int (nI i))] → W pg l ev ({ frames := 2, cells := 0, slots := 0, locals := 43 } : Room) s mi args below meth cd H locs 0 0 (MQ below (vPost G lo (fun r V' k => r = none ∧ (∃ f1 : Nat → Int32, V' = vU V [(pr, eO 2 [.ref bs, .int (nI ((PB ++ prTn L L.length).length))]), (bs, eI (gB G) 4880 f1), (tu, eO 6 [.ref af, .ref ao, .ref a3, .int (nI L.length), .int (b2i of)]), (af, eI (gI G) 20 fr), (ao, eI (gI G) 20 ov), (a3, eI (gI G) 20 tt)] ∧ prOk f1 (PB ++ prTn L L.length)) ∧ k = sz)) args s 0 0 (vL lo)) (F0 mi 2 ls []) := by
    intro k
    induction k with
    | zero => intro i fo hk; exact absurd hk (by omega)
    | succ k ih =>
      intro i fo hk hi hO H locs ls hz hV hl
      refine lv_iload_n hx hb d_Pr_putTurns_2 rfl (lv_at hl 2 rfl) ?_
      refine lv_aload_n hx hb d_Pr_putTurns_3 rfl (lv_at hl 1 rfl) ?_
      refine u_get hx hb hts inTn hown hK hV hn 2 rfl rfl 3 (by decide) w_fl_Pr_134 rfl rfl d_Pr_putTurns_4 ?_
      refine lv_icmp_ge (tgt := 58) hx hb d_Pr_putTurns_7 (by decide) (fun c_1 => ?_) (fun c_1 => ?_)
      · replace c_1 : L.length ≤ i := (nI_leI (a := L.length) (b := i) (by omega) (by omega)).mp c_1
        exact W.vret hx hb hr (v_end hV ⟨rfl, ⟨fo, by rw [show L.length = i by omega], by rw [show L.length = i by omega]; exact hO⟩, hz⟩) hV.2.1.2.2 d_Pr_putTurns_58
      · replace c_1 : ¬ L.length ≤ i := fun z9 => c_1 ((nI_leI (a := L.length) (b := i) (by omega) (by omega)).mpr z9)
        obtain ⟨o1, o2, o3, o4, o5, o6⟩ := hT i (by omega)
        have hle8 := prTn_le (L := L) (fun i hi => (hT i hi).2.2.2) i (by omega)
        have hle9 := prTn_le (L := L) (fun i hi => (hT i hi).2.2.2) (i + 1) (by omega)
        simp only [prTn, List.length_append, List.length_singleton] at hle9
        have p1 := pN_le2 (c := 120) (v := (L.getD i z3).1) (by omega)
        have p2 := pN_le2 (c := 45) (v := (L.getD i z3).2.1) (by omega)
        have p3 := pN_le2 (c := 45) (v := (L.getD i z3).2.2) (by omega)
        refine lv_aload_n hx hb d_Pr_putTurns_10 rfl (lv_at hl 0 rfl) ?_
        refine lv_bipush (v := 120) hx hb d_Pr_putTurns_11 (by decide) ?_
        refine lv_aload_n hx hb d_Pr_putTurns_13 rfl (lv_at hl 1 rfl) ?_
        refine u_get hx hb hts inTn hown hK hV hn 2 rfl rfl 0 (by decide) w_fl_Pr_139 rfl rfl d_Pr_putTurns_14 ?_
        refine lv_iload_n hx hb d_Pr_putTurns_17 rfl (lv_at hl 2 rfl) ?_
        refine u_ialdN hx hb hK hV hn 3 rfl (by omega) (by decide) d_Pr_putTurns_18 ?_
        rw [o1]
        refine v_call (va_runV (As := [.int 120, .int (nI ((L.getD i z3).1))]) (rest := []) ⟨hx, hb, hml, hown, hts⟩ (c_Pr_putWithNumber l G lo _ _ pr bs fo (PB ++ prTn L i) (nd_sub hn [0, 1] (by decide) rfl) hO 120 ((L.getD i z3).1) (by decide) (by omega) (by (try simp only [List.length_append, List.length_singleton]); omega)) (kwV 2 hts w_co_Pr_putWithNumber rfl rfl w_it_Pr w_ml_Pr_48 w_im_Pr_putWithNumber w_se_Pr__Pr_putWithNumber (by decide +kernel) ⟨(Nat.le_of_ble_eq_true rfl), (Nat.le_of_ble_eq_true rfl)⟩) (u_preV hK hV hn [0, 1] rfl hz 0 rfl rfl) rfl rfl hl.1 rfl (lv_room (Nat.le_of_ble_eq_true rfl)) d_Pr_putTurns_19 ⟨(Nat.le_of_ble_eq_true rfl), (Nat.le_of_ble_eq_true rfl)⟩) hV (fun r9 V9 H locs hp hV hle => ?_)
        obtain ⟨rfl, ⟨g_2, rfl, hO_g_2⟩, hz⟩ := hp
        replace hV := u_back hV hn [0, 1] rfl
        have hV : vS G.1 cls lo s H locs (vU V [(pr, eO 2 [.ref bs, .int (nI ((PB ++ prTn L i ++ pN 120 ((L.getD i z3).1)).length))]), (bs, eI (gB G) 4880 g_2), (tu, eO 6 [.ref af, .ref ao, .ref a3, .int (nI L.length), .int (b2i of)]), (af, eI (gI G) 20 fr), (ao, eI (gI G) 20 ov), (a3, eI (gI G) 20 tt)]) := hV
        refine lv_aload_n hx hb d_Pr_putTurns_22 rfl (lv_at hl 0 rfl) ?_
        refine lv_bipush (v := 45) hx hb d_Pr_putTurns_23 (by decide) ?_
        refine lv_aload_n hx hb d_Pr_putTurns_25 rfl (lv_at hl 1 rfl) ?_
        refine u_get hx hb hts inTn hown hK hV hn 2 rfl rfl 1 (by decide) w_fl_Pr_142 rfl rfl d_Pr_putTurns_26 ?_
        refine lv_iload_n hx hb d_Pr_putTurns_29 rfl (lv_at hl 2 rfl) ?_
        refine u_ialdN hx hb hK hV hn 4 rfl (by omega) (by decide) d_Pr_putTurns_30 ?_
        rw [o2]
        refine v_call (va_runV (As := [.int 45, .int (nI ((L.getD i z3).2.1))]) (rest := []) ⟨hx, hb, hml, hown, hts⟩ (c_Pr_putWithNumber l G lo _ _ pr bs g_2 (PB ++ prTn L i ++ pN 120 ((L.getD i z3).1)) (nd_sub hn [0, 1] (by decide) rfl) hO_g_2 45 ((L.getD i z3).2.1) (by decide) (by omega) (by (try simp only [List.length_append, List.length_singleton]); omega)) (kwV 2 hts w_co_Pr_putWithNumber rfl rfl w_it_Pr w_ml_Pr_48 w_im_Pr_putWithNumber w_se_Pr__Pr_putWithNumber (by decide +kernel) ⟨(Nat.le_of_ble_eq_true rfl), (Nat.le_of_ble_eq_true rfl)⟩) (u_preV hK hV hn [0, 1] rfl hz 0 rfl rfl) rfl rfl hl.1 rfl (lv_room (Nat.le_of_ble_eq_true rfl)) d_Pr_putTurns_31 ⟨(Nat.le_of_ble_eq_true rfl), (Nat.le_of_ble_eq_true rfl)⟩) hV (fun r9 V9 H locs hp hV hle => ?_)
        obtain ⟨rfl, ⟨g_3, rfl, hO_g_3⟩, hz⟩ := hp
        replace hV := u_back hV hn [0, 1] rfl
        have hV : vS G.1 cls lo s H locs (vU V [(pr, eO 2 [.ref bs, .int (nI ((PB ++ prTn L i ++ pN 120 ((L.getD i z3).1) ++ pN 45 ((L.getD i z3).2.1)).length))]), (bs, eI (gB G) 4880 g_3), (tu, eO 6 [.ref af, .ref ao, .ref a3, .int (nI L.length), .int (b2i of)]), (af, eI (gI G) 20 fr), (ao, eI (gI G) 20 ov), (a3, eI (gI G) 20 tt)]) := hV
        refine lv_aload_n hx hb d_Pr_putTurns_34 rfl (lv_at hl 0 rfl) ?_
        refine lv_bipush (v := 45) hx hb d_Pr_putTurns_35 (by decide) ?_
        refine lv_aload_n hx hb d_Pr_putTurns_37 rfl (lv_at hl 1 rfl) ?_
        refine u_get hx hb hts inTn hown hK hV hn 2 rfl rfl 2 (by decide) w_fl_Pr_145 rfl rfl d_Pr_putTurns_38 ?_
        refine lv_iload_n hx hb d_Pr_putTurns_41 rfl (lv_at hl 2 rfl) ?_
        refine u_ialdN hx hb hK hV hn 5 rfl (by omega) (by decide) d_Pr_putTurns_42 ?_
        rw [o3]
        refine v_call (va_runV (As := [.int 45, .int (nI ((L.getD i z3).2.2))]) (rest := []) ⟨hx, hb, hml, hown, hts⟩ (c_Pr_putWithNumber l G lo _ _ pr bs g_3 (PB ++ prTn L i ++ pN 120 ((L.getD i z3).1) ++ pN 45 ((L.getD i z3).2.1)) (nd_sub hn [0, 1] (by decide) rfl) hO_g_3 45 ((L.getD i z3).2.2) (by decide) (by omega) (by (try simp only [List.length_append, List.length_singleton]); omega)) (kwV 2 hts w_co_Pr_putWithNumber rfl rfl w_it_Pr w_ml_Pr_48 w_im_Pr_putWithNumber w_se_Pr__Pr_putWithNumber (by decide +kernel) ⟨(Nat.le_of_ble_eq_true rfl), (Nat.le_of_ble_eq_true rfl)⟩) (u_preV hK hV hn [0, 1] rfl hz 0 rfl rfl) rfl rfl hl.1 rfl (lv_room (Nat.le_of_ble_eq_true rfl)) d_Pr_putTurns_43 ⟨(Nat.le_of_ble_eq_true rfl), (Nat.le_of_ble_eq_true rfl)⟩) hV (fun r9 V9 H locs hp hV hle => ?_)
        obtain ⟨rfl, ⟨g_4, rfl, hO_g_4⟩, hz⟩ := hp
        replace hV := u_back hV hn [0, 1] rfl
        have hV : vS G.1 cls lo s H locs (vU V [(pr, eO 2 [.ref bs, .int (nI ((PB ++ prTn L i ++ pN 120 ((L.getD i z3).1) ++ pN 45 ((L.getD i z3).2.1) ++ pN 45 ((L.getD i z3).2.2)).length))]), (bs, eI (gB G) 4880 g_4), (tu, eO 6 [.ref af, .ref ao, .ref a3, .int (nI L.length), .int (b2i of)]), (af, eI (gI G) 20 fr), (ao, eI (gI G) 20 ov), (a3, eI (gI G) 20 tt)]) := hV
        refine lv_aload_n hx hb d_Pr_putTurns_46 rfl (lv_at hl 0 rfl) ?_
        refine lv_bipush (v := 59) hx hb d_Pr_putTurns_47 (by decide) ?_
        refine v_call (va_runV (As := [.int 59]) (rest := []) ⟨hx, hb, hml, hown, hts⟩ (c_Pr_put l G lo _ _ pr bs g_4 (PB ++ prTn L i ++ pN 120 ((L.getD i z3).1) ++ pN 45 ((L.getD i z3).2.1) ++ pN 45 ((L.getD i z3).2.2)) (nd_sub hn [0, 1] (by decide) rfl) hO_g_4 59 (by decide) (by (try simp only [List.length_append, List.length_singleton]); omega)) (kwV 1 hts w_co_Pr_put rfl rfl w_it_Pr w_ml_Pr_88 w_im_Pr_put w_se_Pr__Pr_put (by decide +kernel) ⟨(Nat.le_of_ble_eq_true rfl), (Nat.le_of_ble_eq_true rfl)⟩) (u_preV hK hV hn [0, 1] rfl hz 0 rfl rfl) rfl rfl hl.1 rfl (lv_room (Nat.le_of_ble_eq_true rfl)) d_Pr_putTurns_49 ⟨(Nat.le_of_ble_eq_true rfl), (Nat.le_of_ble_eq_true rfl)⟩) hV (fun r9 V9 H locs hp hV hle => ?_)
        obtain ⟨rfl, ⟨g_5, rfl, hO_g_5⟩, hz⟩ := hp
        replace hV := u_back hV hn [0, 1] rfl
        have hV : vS G.1 cls lo s H locs (vU V [(pr, eO 2 [.ref bs, .int (nI ((PB ++ prTn L i ++ pN 120 ((L.getD i z3).1) ++ pN 45 ((L.getD i z3).2.1) ++ pN 45 ((L.getD i z3).2.2) ++ [59]).length))]), (bs, eI (gB G) 4880 g_5), (tu, eO 6 [.ref af, .ref ao, .ref a3, .int (nI L.length), .int (b2i of)]), (af, eI (gI G) 20 fr), (ao, eI (gI G) 20 ov), (a3, eI (gI G) 20 tt)]) := hV
        have eP : PB ++ prTn L i ++ pN 120 ((L.getD i z3).1) ++ pN 45 ((L.getD i z3).2.1) ++ pN 45 ((L.getD i z3).2.2) ++ [59] = PB ++ prTn L (i + 1) := by simp only [prTn, List.append_assoc]
        rw [eP] at hV hO_g_5
        refine lv_iinc (v := nI (i + 1)) (lv' := [(2, .int (nI (i + 1))), (0, .ref pr), (1, .ref tu)]) hx hb d_Pr_putTurns_52 hl (k := 2) rfl (nI_add i 1) (by decide) rfl (fun ls hl => ?_)
        refine lv_goto (tgt := 2) hx hb d_Pr_putTurns_55 (by decide) ?_
        exact ih (i + 1) g_5 (by omega) (by omega) hO_g_5 H locs ls hz hV (lv_sub hl [1, 2, 0] rfl)
  have eF : PB ++ prTn L 0 = PB := List.append_nil PB
  rw [← eF] at hV hO
  exact loop (L.length + 1) 0 fo (by omega) (by omega) hO H locs ls hz hV (lv_sub hl [1, 2, 0] rfl)
