theorem prNm_0 {o : Option (List Nat × Nat)} (h : (nmL o).length = 0) (hv : nmV o) : prNm o = [] := by
  cases o with
  | none => rfl
  | some x => have := hv.1; simp only [nmL] at h; omega
theorem prNm_1 {o : Option (List Nat × Nat)} (h : ¬ (nmL o).length = 0) : ∃ ls ar, o = some (ls, ar) := by
  cases o with
  | none => exact absurd rfl h
  | some x => exact ⟨x.1, x.2, rfl⟩
theorem prPs_le2 {P : Nat → Int32} {Q : Nat → Option PcR} (h : mpA P Q) : ∀ k, k ≤ 60 → (prPs Q k).length ≤ 66 * k
  | 0, _ => by simp [prPs]
  | k + 1, hk => by
    have ih := prPs_le2 h k (by omega)
    rcases h (k + 1) (by omega) hk with ⟨-, q⟩ | ⟨R, q, -, q3⟩
    · rw [prPs_n q]; omega
    · have := prPc_le q3 hk
      rw [prPs_s q, List.length_append]
      omega
theorem prT_le {b : Nat → Int32} {L : List Tri} (h : mbA b L) : ∀ i, i ≤ L.length → (prTn L i).length ≤ 10 * i := prTn_le (fun i hi => (h i hi).2.2.2)

theorem d_Mo_put_0 : decode b_Mo_put 0 = .ok (.aload_n 0, 1) := by decide +kernel
theorem d_Mo_put_1 : decode b_Mo_put 1 = .ok (.getfield 48, 3) := by decide +kernel
theorem d_Mo_put_4 : decode b_Mo_put 4 = .ok (.aload_n 0, 1) := by decide +kernel
theorem d_Mo_put_5 : decode b_Mo_put 5 = .ok (.getfield 177, 3) := by decide +kernel
theorem d_Mo_put_8 : decode b_Mo_put 8 = .ok (.iload_n 1, 1) := by decide +kernel
theorem d_Mo_put_9 : decode b_Mo_put 9 = .ok (.iastore, 1) := by decide +kernel
theorem d_Mo_put_10 : decode b_Mo_put 10 = .ok (.aload_n 0, 1) := by decide +kernel
theorem d_Mo_put_11 : decode b_Mo_put 11 = .ok (.dup, 1) := by decide +kernel
theorem d_Mo_put_12 : decode b_Mo_put 12 = .ok (.getfield 177, 3) := by decide +kernel
theorem d_Mo_put_15 : decode b_Mo_put 15 = .ok (.iconst 1, 1) := by decide +kernel
theorem d_Mo_put_16 : decode b_Mo_put 16 = .ok (.iadd, 1) := by decide +kernel
theorem d_Mo_put_17 : decode b_Mo_put 17 = .ok (.putfield 177, 3) := by decide +kernel
theorem d_Mo_put_20 : decode b_Mo_put 20 = .ok (.return_, 1) := by decide +kernel
theorem d_Mo_putNumber_0 : decode b_Mo_putNumber 0 = .ok (.aload_n 0, 1) := by decide +kernel
theorem d_Mo_putNumber_1 : decode b_Mo_putNumber 1 = .ok (.iload_n 1, 1) := by decide +kernel
theorem d_Mo_putNumber_2 : decode b_Mo_putNumber 2 = .ok (.invokevirtual 180, 3) := by decide +kernel
theorem d_Mo_putNumber_5 : decode b_Mo_putNumber 5 = .ok (.iload_n 2, 1) := by decide +kernel
theorem d_Mo_putNumber_6 : decode b_Mo_putNumber 6 = .ok (.sipush 999, 3) := by decide +kernel
theorem d_Mo_putNumber_9 : decode b_Mo_putNumber 9 = .ok (.if_icmp .le 15, 3) := by decide +kernel
theorem d_Mo_putNumber_12 : decode b_Mo_putNumber 12 = .ok (.aload_n 0, 1) := by decide +kernel
theorem d_Mo_putNumber_13 : decode b_Mo_putNumber 13 = .ok (.bipush 48, 2) := by decide +kernel
theorem d_Mo_putNumber_15 : decode b_Mo_putNumber 15 = .ok (.iload_n 2, 1) := by decide +kernel
theorem d_Mo_putNumber_16 : decode b_Mo_putNumber 16 = .ok (.sipush 1000, 3) := by decide +kernel
theorem d_Mo_putNumber_19 : decode b_Mo_putNumber 19 = .ok (.idiv, 1) := by decide +kernel
theorem d_Mo_putNumber_20 : decode b_Mo_putNumber 20 = .ok (.iadd, 1) := by decide +kernel
theorem d_Mo_putNumber_21 : decode b_Mo_putNumber 21 = .ok (.invokevirtual 180, 3) := by decide +kernel
theorem d_Mo_putNumber_24 : decode b_Mo_putNumber 24 = .ok (.iload_n 2, 1) := by decide +kernel
theorem d_Mo_putNumber_25 : decode b_Mo_putNumber 25 = .ok (.bipush 99, 2) := by decide +kernel
theorem d_Mo_putNumber_27 : decode b_Mo_putNumber 27 = .ok (.if_icmp .le 17, 3) := by decide +kernel
theorem d_Mo_putNumber_30 : decode b_Mo_putNumber 30 = .ok (.aload_n 0, 1) := by decide +kernel
theorem d_Mo_putNumber_31 : decode b_Mo_putNumber 31 = .ok (.bipush 48, 2) := by decide +kernel
theorem d_Mo_putNumber_33 : decode b_Mo_putNumber 33 = .ok (.iload_n 2, 1) := by decide +kernel
theorem d_Mo_putNumber_34 : decode b_Mo_putNumber 34 = .ok (.bipush 100, 2) := by decide +kernel
theorem d_Mo_putNumber_36 : decode b_Mo_putNumber 36 = .ok (.idiv, 1) := by decide +kernel
theorem d_Mo_putNumber_37 : decode b_Mo_putNumber 37 = .ok (.bipush 10, 2) := by decide +kernel
theorem d_Mo_putNumber_39 : decode b_Mo_putNumber 39 = .ok (.irem, 1) := by decide +kernel
theorem d_Mo_putNumber_40 : decode b_Mo_putNumber 40 = .ok (.iadd, 1) := by decide +kernel
theorem d_Mo_putNumber_41 : decode b_Mo_putNumber 41 = .ok (.invokevirtual 180, 3) := by decide +kernel
theorem d_Mo_putNumber_44 : decode b_Mo_putNumber 44 = .ok (.iload_n 2, 1) := by decide +kernel
theorem d_Mo_putNumber_45 : decode b_Mo_putNumber 45 = .ok (.bipush 9, 2) := by decide +kernel
theorem d_Mo_putNumber_47 : decode b_Mo_putNumber 47 = .ok (.if_icmp .le 17, 3) := by decide +kernel
theorem d_Mo_putNumber_50 : decode b_Mo_putNumber 50 = .ok (.aload_n 0, 1) := by decide +kernel
theorem d_Mo_putNumber_51 : decode b_Mo_putNumber 51 = .ok (.bipush 48, 2) := by decide +kernel
theorem d_Mo_putNumber_53 : decode b_Mo_putNumber 53 = .ok (.iload_n 2, 1) := by decide +kernel
theorem d_Mo_putNumber_54 : decode b_Mo_putNumber 54 = .ok (.bipush 10, 2) := by decide +kernel
theorem d_Mo_putNumber_56 : decode b_Mo_putNumber 56 = .ok (.idiv, 1) := by decide +kernel
theorem d_Mo_putNumber_57 : decode b_Mo_putNumber 57 = .ok (.bipush 10, 2) := by decide +kernel
theorem d_Mo_putNumber_59 : decode b_Mo_putNumber 59 = .ok (.irem, 1) := by decide +kernel
theorem d_Mo_putNumber_60 : decode b_Mo_putNumber 60 = .ok (.iadd, 1) := by decide +kernel
theorem d_Mo_putNumber_61 : decode b_Mo_putNumber 61 = .ok (.invokevirtual 180, 3) := by decide +kernel
theorem d_Mo_putNumber_64 : decode b_Mo_putNumber 64 = .ok (.aload_n 0, 1) := by decide +kernel
theorem d_Mo_putNumber_65 : decode b_Mo_putNumber 65 = .ok (.bipush 48, 2) := by decide +kernel
theorem d_Mo_putNumber_67 : decode b_Mo_putNumber 67 = .ok (.iload_n 2, 1) := by decide +kernel
theorem d_Mo_putNumber_68 : decode b_Mo_putNumber 68 = .ok (.bipush 10, 2) := by decide +kernel
theorem d_Mo_putNumber_70 : decode b_Mo_putNumber 70 = .ok (.irem, 1) := by decide +kernel
theorem d_Mo_putNumber_71 : decode b_Mo_putNumber 71 = .ok (.iadd, 1) := by decide +kernel
theorem d_Mo_putNumber_72 : decode b_Mo_putNumber 72 = .ok (.invokevirtual 180, 3) := by decide +kernel
theorem d_Mo_putNumber_75 : decode b_Mo_putNumber 75 = .ok (.return_, 1) := by decide +kernel
theorem d_Mo_printPiece_0 : decode b_Mo_printPiece 0 = .ok (.iload_n 1, 1) := by decide +kernel
theorem d_Mo_printPiece_1 : decode b_Mo_printPiece 1 = .ok (.bipush 29, 2) := by decide +kernel
theorem d_Mo_printPiece_3 : decode b_Mo_printPiece 3 = .ok (.imul, 1) := by decide +kernel
theorem d_Mo_printPiece_4 : decode b_Mo_printPiece 4 = .ok (.istore_n 2, 1) := by decide +kernel
theorem d_Mo_printPiece_5 : decode b_Mo_printPiece 5 = .ok (.aload_n 0, 1) := by decide +kernel
theorem d_Mo_printPiece_6 : decode b_Mo_printPiece 6 = .ok (.bipush 112, 2) := by decide +kernel
theorem d_Mo_printPiece_8 : decode b_Mo_printPiece 8 = .ok (.iload_n 1, 1) := by decide +kernel
theorem d_Mo_printPiece_9 : decode b_Mo_printPiece 9 = .ok (.invokevirtual 183, 3) := by decide +kernel
theorem d_Mo_printPiece_12 : decode b_Mo_printPiece 12 = .ok (.aload_n 0, 1) := by decide +kernel
theorem d_Mo_printPiece_13 : decode b_Mo_printPiece 13 = .ok (.bipush 61, 2) := by decide +kernel
theorem d_Mo_printPiece_15 : decode b_Mo_printPiece 15 = .ok (.aload_n 0, 1) := by decide +kernel
theorem d_Mo_printPiece_16 : decode b_Mo_printPiece 16 = .ok (.getfield 17, 3) := by decide +kernel
theorem d_Mo_printPiece_19 : decode b_Mo_printPiece 19 = .ok (.iload_n 2, 1) := by decide +kernel
theorem d_Mo_printPiece_20 : decode b_Mo_printPiece 20 = .ok (.iconst 1, 1) := by decide +kernel
theorem d_Mo_printPiece_21 : decode b_Mo_printPiece 21 = .ok (.iadd, 1) := by decide +kernel
theorem d_Mo_printPiece_22 : decode b_Mo_printPiece 22 = .ok (.iaload, 1) := by decide +kernel
theorem d_Mo_printPiece_23 : decode b_Mo_printPiece 23 = .ok (.invokevirtual 183, 3) := by decide +kernel
theorem d_Mo_printPiece_26 : decode b_Mo_printPiece 26 = .ok (.aload_n 0, 1) := by decide +kernel
theorem d_Mo_printPiece_27 : decode b_Mo_printPiece 27 = .ok (.aload_n 0, 1) := by decide +kernel
theorem d_Mo_printPiece_28 : decode b_Mo_printPiece 28 = .ok (.getfield 17, 3) := by decide +kernel
theorem d_Mo_printPiece_31 : decode b_Mo_printPiece 31 = .ok (.iload_n 2, 1) := by decide +kernel
theorem d_Mo_printPiece_32 : decode b_Mo_printPiece 32 = .ok (.iconst 3, 1) := by decide +kernel
theorem d_Mo_printPiece_33 : decode b_Mo_printPiece 33 = .ok (.iadd, 1) := by decide +kernel
theorem d_Mo_printPiece_34 : decode b_Mo_printPiece 34 = .ok (.iaload, 1) := by decide +kernel
theorem d_Mo_printPiece_35 : decode b_Mo_printPiece 35 = .ok (.iconst 1, 1) := by decide +kernel
theorem d_Mo_printPiece_36 : decode b_Mo_printPiece 36 = .ok (.if_icmp .ne 8, 3) := by decide +kernel
theorem d_Mo_printPiece_39 : decode b_Mo_printPiece 39 = .ok (.bipush 62, 2) := by decide +kernel
theorem d_Mo_printPiece_41 : decode b_Mo_printPiece 41 = .ok (.goto 5, 3) := by decide +kernel
theorem d_Mo_printPiece_44 : decode b_Mo_printPiece 44 = .ok (.bipush 45, 2) := by decide +kernel
theorem d_Mo_printPiece_46 : decode b_Mo_printPiece 46 = .ok (.aload_n 0, 1) := by decide +kernel
theorem d_Mo_printPiece_47 : decode b_Mo_printPiece 47 = .ok (.getfield 17, 3) := by decide +kernel
theorem d_Mo_printPiece_50 : decode b_Mo_printPiece 50 = .ok (.iload_n 2, 1) := by decide +kernel
theorem d_Mo_printPiece_51 : decode b_Mo_printPiece 51 = .ok (.iconst 2, 1) := by decide +kernel
theorem d_Mo_printPiece_52 : decode b_Mo_printPiece 52 = .ok (.iadd, 1) := by decide +kernel
theorem d_Mo_printPiece_53 : decode b_Mo_printPiece 53 = .ok (.iaload, 1) := by decide +kernel
theorem d_Mo_printPiece_54 : decode b_Mo_printPiece 54 = .ok (.invokevirtual 183, 3) := by decide +kernel
theorem d_Mo_printPiece_57 : decode b_Mo_printPiece 57 = .ok (.aload_n 0, 1) := by decide +kernel
theorem d_Mo_printPiece_58 : decode b_Mo_printPiece 58 = .ok (.bipush 58, 2) := by decide +kernel
theorem d_Mo_printPiece_60 : decode b_Mo_printPiece 60 = .ok (.aload_n 0, 1) := by decide +kernel
theorem d_Mo_printPiece_61 : decode b_Mo_printPiece 61 = .ok (.getfield 17, 3) := by decide +kernel
theorem d_Mo_printPiece_64 : decode b_Mo_printPiece 64 = .ok (.iload_n 2, 1) := by decide +kernel
theorem d_Mo_printPiece_65 : decode b_Mo_printPiece 65 = .ok (.iconst 4, 1) := by decide +kernel
theorem d_Mo_printPiece_66 : decode b_Mo_printPiece 66 = .ok (.iadd, 1) := by decide +kernel
theorem d_Mo_printPiece_67 : decode b_Mo_printPiece 67 = .ok (.iaload, 1) := by decide +kernel
theorem d_Mo_printPiece_68 : decode b_Mo_printPiece 68 = .ok (.invokevirtual 183, 3) := by decide +kernel
theorem d_Mo_printPiece_71 : decode b_Mo_printPiece 71 = .ok (.aload_n 0, 1) := by decide +kernel
theorem d_Mo_printPiece_72 : decode b_Mo_printPiece 72 = .ok (.getfield 17, 3) := by decide +kernel
theorem d_Mo_printPiece_75 : decode b_Mo_printPiece 75 = .ok (.iload_n 2, 1) := by decide +kernel
theorem d_Mo_printPiece_76 : decode b_Mo_printPiece 76 = .ok (.iconst 5, 1) := by decide +kernel
theorem d_Mo_printPiece_77 : decode b_Mo_printPiece 77 = .ok (.iadd, 1) := by decide +kernel
theorem d_Mo_printPiece_78 : decode b_Mo_printPiece 78 = .ok (.iaload, 1) := by decide +kernel
theorem d_Mo_printPiece_79 : decode b_Mo_printPiece 79 = .ok (.istore_n 3, 1) := by decide +kernel
theorem d_Mo_printPiece_80 : decode b_Mo_printPiece 80 = .ok (.aload_n 0, 1) := by decide +kernel
theorem d_Mo_printPiece_81 : decode b_Mo_printPiece 81 = .ok (.iload_n 3, 1) := by decide +kernel
theorem d_Mo_printPiece_82 : decode b_Mo_printPiece 82 = .ok (.ifCond .ne 8, 3) := by decide +kernel
theorem d_Mo_printPiece_85 : decode b_Mo_printPiece 85 = .ok (.bipush 114, 2) := by decide +kernel
theorem d_Mo_printPiece_87 : decode b_Mo_printPiece 87 = .ok (.goto 35, 3) := by decide +kernel
theorem d_Mo_printPiece_90 : decode b_Mo_printPiece 90 = .ok (.iload_n 3, 1) := by decide +kernel
theorem d_Mo_printPiece_91 : decode b_Mo_printPiece 91 = .ok (.iconst 1, 1) := by decide +kernel
theorem d_Mo_printPiece_92 : decode b_Mo_printPiece 92 = .ok (.if_icmp .ne 8, 3) := by decide +kernel
theorem d_Mo_printPiece_95 : decode b_Mo_printPiece 95 = .ok (.bipush 98, 2) := by decide +kernel
theorem d_Mo_printPiece_97 : decode b_Mo_printPiece 97 = .ok (.goto 25, 3) := by decide +kernel
theorem d_Mo_printPiece_100 : decode b_Mo_printPiece 100 = .ok (.iload_n 3, 1) := by decide +kernel
theorem d_Mo_printPiece_101 : decode b_Mo_printPiece 101 = .ok (.iconst 2, 1) := by decide +kernel
theorem d_Mo_printPiece_102 : decode b_Mo_printPiece 102 = .ok (.if_icmp .ne 8, 3) := by decide +kernel
theorem d_Mo_printPiece_105 : decode b_Mo_printPiece 105 = .ok (.bipush 116, 2) := by decide +kernel
theorem d_Mo_printPiece_107 : decode b_Mo_printPiece 107 = .ok (.goto 15, 3) := by decide +kernel
theorem d_Mo_printPiece_110 : decode b_Mo_printPiece 110 = .ok (.iload_n 3, 1) := by decide +kernel
theorem d_Mo_printPiece_111 : decode b_Mo_printPiece 111 = .ok (.iconst 3, 1) := by decide +kernel
theorem d_Mo_printPiece_112 : decode b_Mo_printPiece 112 = .ok (.if_icmp .ne 8, 3) := by decide +kernel
theorem d_Mo_printPiece_115 : decode b_Mo_printPiece 115 = .ok (.bipush 102, 2) := by decide +kernel
theorem d_Mo_printPiece_117 : decode b_Mo_printPiece 117 = .ok (.goto 5, 3) := by decide +kernel
theorem d_Mo_printPiece_120 : decode b_Mo_printPiece 120 = .ok (.bipush 119, 2) := by decide +kernel
theorem d_Mo_printPiece_122 : decode b_Mo_printPiece 122 = .ok (.aload_n 0, 1) := by decide +kernel
theorem d_Mo_printPiece_123 : decode b_Mo_printPiece 123 = .ok (.getfield 17, 3) := by decide +kernel
theorem d_Mo_printPiece_126 : decode b_Mo_printPiece 126 = .ok (.iload_n 2, 1) := by decide +kernel
theorem d_Mo_printPiece_127 : decode b_Mo_printPiece 127 = .ok (.bipush 6, 2) := by decide +kernel
theorem d_Mo_printPiece_129 : decode b_Mo_printPiece 129 = .ok (.iadd, 1) := by decide +kernel
theorem d_Mo_printPiece_130 : decode b_Mo_printPiece 130 = .ok (.iaload, 1) := by decide +kernel
theorem d_Mo_printPiece_131 : decode b_Mo_printPiece 131 = .ok (.invokevirtual 183, 3) := by decide +kernel
theorem d_Mo_printPiece_134 : decode b_Mo_printPiece 134 = .ok (.iconst 0, 1) := by decide +kernel
theorem d_Mo_printPiece_135 : decode b_Mo_printPiece 135 = .ok (.istore 4, 2) := by decide +kernel
theorem d_Mo_printPiece_137 : decode b_Mo_printPiece 137 = .ok (.iload 4, 2) := by decide +kernel
theorem d_Mo_printPiece_139 : decode b_Mo_printPiece 139 = .ok (.aload_n 0, 1) := by decide +kernel
theorem d_Mo_printPiece_140 : decode b_Mo_printPiece 140 = .ok (.getfield 17, 3) := by decide +kernel
theorem d_Mo_printPiece_143 : decode b_Mo_printPiece 143 = .ok (.iload_n 2, 1) := by decide +kernel
theorem d_Mo_printPiece_144 : decode b_Mo_printPiece 144 = .ok (.bipush 7, 2) := by decide +kernel
theorem d_Mo_printPiece_146 : decode b_Mo_printPiece 146 = .ok (.iadd, 1) := by decide +kernel
theorem d_Mo_printPiece_147 : decode b_Mo_printPiece 147 = .ok (.iaload, 1) := by decide +kernel
theorem d_Mo_printPiece_148 : decode b_Mo_printPiece 148 = .ok (.if_icmp .ge 79, 3) := by decide +kernel
theorem d_Mo_printPiece_151 : decode b_Mo_printPiece 151 = .ok (.aload_n 0, 1) := by decide +kernel
theorem d_Mo_printPiece_152 : decode b_Mo_printPiece 152 = .ok (.bipush 91, 2) := by decide +kernel
theorem d_Mo_printPiece_154 : decode b_Mo_printPiece 154 = .ok (.aload_n 0, 1) := by decide +kernel
theorem d_Mo_printPiece_155 : decode b_Mo_printPiece 155 = .ok (.getfield 17, 3) := by decide +kernel
theorem d_Mo_printPiece_158 : decode b_Mo_printPiece 158 = .ok (.iload_n 2, 1) := by decide +kernel
theorem d_Mo_printPiece_159 : decode b_Mo_printPiece 159 = .ok (.bipush 8, 2) := by decide +kernel
theorem d_Mo_printPiece_161 : decode b_Mo_printPiece 161 = .ok (.iadd, 1) := by decide +kernel
theorem d_Mo_printPiece_162 : decode b_Mo_printPiece 162 = .ok (.iconst 3, 1) := by decide +kernel
theorem d_Mo_printPiece_163 : decode b_Mo_printPiece 163 = .ok (.iload 4, 2) := by decide +kernel
theorem d_Mo_printPiece_165 : decode b_Mo_printPiece 165 = .ok (.imul, 1) := by decide +kernel
theorem d_Mo_printPiece_166 : decode b_Mo_printPiece 166 = .ok (.iadd, 1) := by decide +kernel
theorem d_Mo_printPiece_167 : decode b_Mo_printPiece 167 = .ok (.iaload, 1) := by decide +kernel
theorem d_Mo_printPiece_168 : decode b_Mo_printPiece 168 = .ok (.invokevirtual 183, 3) := by decide +kernel
theorem d_Mo_printPiece_171 : decode b_Mo_printPiece 171 = .ok (.aload_n 0, 1) := by decide +kernel
theorem d_Mo_printPiece_172 : decode b_Mo_printPiece 172 = .ok (.bipush 45, 2) := by decide +kernel
theorem d_Mo_printPiece_174 : decode b_Mo_printPiece 174 = .ok (.aload_n 0, 1) := by decide +kernel
theorem d_Mo_printPiece_175 : decode b_Mo_printPiece 175 = .ok (.getfield 17, 3) := by decide +kernel
theorem d_Mo_printPiece_178 : decode b_Mo_printPiece 178 = .ok (.iload_n 2, 1) := by decide +kernel
theorem d_Mo_printPiece_179 : decode b_Mo_printPiece 179 = .ok (.bipush 8, 2) := by decide +kernel
theorem d_Mo_printPiece_181 : decode b_Mo_printPiece 181 = .ok (.iadd, 1) := by decide +kernel
theorem d_Mo_printPiece_182 : decode b_Mo_printPiece 182 = .ok (.iconst 3, 1) := by decide +kernel
theorem d_Mo_printPiece_183 : decode b_Mo_printPiece 183 = .ok (.iload 4, 2) := by decide +kernel
theorem d_Mo_printPiece_185 : decode b_Mo_printPiece 185 = .ok (.imul, 1) := by decide +kernel
theorem d_Mo_printPiece_186 : decode b_Mo_printPiece 186 = .ok (.iadd, 1) := by decide +kernel
theorem d_Mo_printPiece_187 : decode b_Mo_printPiece 187 = .ok (.iconst 1, 1) := by decide +kernel
theorem d_Mo_printPiece_188 : decode b_Mo_printPiece 188 = .ok (.iadd, 1) := by decide +kernel
theorem d_Mo_printPiece_189 : decode b_Mo_printPiece 189 = .ok (.iaload, 1) := by decide +kernel
theorem d_Mo_printPiece_190 : decode b_Mo_printPiece 190 = .ok (.invokevirtual 183, 3) := by decide +kernel
theorem d_Mo_printPiece_193 : decode b_Mo_printPiece 193 = .ok (.aload_n 0, 1) := by decide +kernel
theorem d_Mo_printPiece_194 : decode b_Mo_printPiece 194 = .ok (.bipush 58, 2) := by decide +kernel
theorem d_Mo_printPiece_196 : decode b_Mo_printPiece 196 = .ok (.aload_n 0, 1) := by decide +kernel
theorem d_Mo_printPiece_197 : decode b_Mo_printPiece 197 = .ok (.getfield 17, 3) := by decide +kernel
theorem d_Mo_printPiece_200 : decode b_Mo_printPiece 200 = .ok (.iload_n 2, 1) := by decide +kernel
theorem d_Mo_printPiece_201 : decode b_Mo_printPiece 201 = .ok (.bipush 8, 2) := by decide +kernel
theorem d_Mo_printPiece_203 : decode b_Mo_printPiece 203 = .ok (.iadd, 1) := by decide +kernel
theorem d_Mo_printPiece_204 : decode b_Mo_printPiece 204 = .ok (.iconst 3, 1) := by decide +kernel
theorem d_Mo_printPiece_205 : decode b_Mo_printPiece 205 = .ok (.iload 4, 2) := by decide +kernel
theorem d_Mo_printPiece_207 : decode b_Mo_printPiece 207 = .ok (.imul, 1) := by decide +kernel
theorem d_Mo_printPiece_208 : decode b_Mo_printPiece 208 = .ok (.iadd, 1) := by decide +kernel
theorem d_Mo_printPiece_209 : decode b_Mo_printPiece 209 = .ok (.iconst 2, 1) := by decide +kernel
theorem d_Mo_printPiece_210 : decode b_Mo_printPiece 210 = .ok (.iadd, 1) := by decide +kernel
theorem d_Mo_printPiece_211 : decode b_Mo_printPiece 211 = .ok (.iaload, 1) := by decide +kernel
theorem d_Mo_printPiece_212 : decode b_Mo_printPiece 212 = .ok (.invokevirtual 183, 3) := by decide +kernel
theorem d_Mo_printPiece_215 : decode b_Mo_printPiece 215 = .ok (.aload_n 0, 1) := by decide +kernel
theorem d_Mo_printPiece_216 : decode b_Mo_printPiece 216 = .ok (.bipush 93, 2) := by decide +kernel
theorem d_Mo_printPiece_218 : decode b_Mo_printPiece 218 = .ok (.invokevirtual 180, 3) := by decide +kernel
theorem d_Mo_printPiece_221 : decode b_Mo_printPiece 221 = .ok (.iinc 4 1, 3) := by decide +kernel
theorem d_Mo_printPiece_224 : decode b_Mo_printPiece 224 = .ok (.goto (-87), 3) := by decide +kernel
theorem d_Mo_printPiece_227 : decode b_Mo_printPiece 227 = .ok (.aload_n 0, 1) := by decide +kernel
theorem d_Mo_printPiece_228 : decode b_Mo_printPiece 228 = .ok (.getfield 17, 3) := by decide +kernel
theorem d_Mo_printPiece_231 : decode b_Mo_printPiece 231 = .ok (.iload_n 2, 1) := by decide +kernel
theorem d_Mo_printPiece_232 : decode b_Mo_printPiece 232 = .ok (.bipush 17, 2) := by decide +kernel
theorem d_Mo_printPiece_234 : decode b_Mo_printPiece 234 = .ok (.iadd, 1) := by decide +kernel
theorem d_Mo_printPiece_235 : decode b_Mo_printPiece 235 = .ok (.iaload, 1) := by decide +kernel
theorem d_Mo_printPiece_236 : decode b_Mo_printPiece 236 = .ok (.ifCond .le 18, 3) := by decide +kernel
theorem d_Mo_printPiece_239 : decode b_Mo_printPiece 239 = .ok (.aload_n 0, 1) := by decide +kernel
theorem d_Mo_printPiece_240 : decode b_Mo_printPiece 240 = .ok (.bipush 94, 2) := by decide +kernel
theorem d_Mo_printPiece_242 : decode b_Mo_printPiece 242 = .ok (.aload_n 0, 1) := by decide +kernel
theorem d_Mo_printPiece_243 : decode b_Mo_printPiece 243 = .ok (.getfield 17, 3) := by decide +kernel
theorem d_Mo_printPiece_246 : decode b_Mo_printPiece 246 = .ok (.iload_n 2, 1) := by decide +kernel
theorem d_Mo_printPiece_247 : decode b_Mo_printPiece 247 = .ok (.bipush 17, 2) := by decide +kernel
theorem d_Mo_printPiece_249 : decode b_Mo_printPiece 249 = .ok (.iadd, 1) := by decide +kernel
theorem d_Mo_printPiece_250 : decode b_Mo_printPiece 250 = .ok (.iaload, 1) := by decide +kernel
theorem d_Mo_printPiece_251 : decode b_Mo_printPiece 251 = .ok (.invokevirtual 183, 3) := by decide +kernel
theorem d_Mo_printPiece_254 : decode b_Mo_printPiece 254 = .ok (.aload_n 0, 1) := by decide +kernel
theorem d_Mo_printPiece_255 : decode b_Mo_printPiece 255 = .ok (.getfield 17, 3) := by decide +kernel
theorem d_Mo_printPiece_258 : decode b_Mo_printPiece 258 = .ok (.iload_n 2, 1) := by decide +kernel
theorem d_Mo_printPiece_259 : decode b_Mo_printPiece 259 = .ok (.bipush 18, 2) := by decide +kernel
theorem d_Mo_printPiece_261 : decode b_Mo_printPiece 261 = .ok (.iadd, 1) := by decide +kernel
theorem d_Mo_printPiece_262 : decode b_Mo_printPiece 262 = .ok (.iaload, 1) := by decide +kernel
theorem d_Mo_printPiece_263 : decode b_Mo_printPiece 263 = .ok (.ifCond .le 18, 3) := by decide +kernel
theorem d_Mo_printPiece_266 : decode b_Mo_printPiece 266 = .ok (.aload_n 0, 1) := by decide +kernel
theorem d_Mo_printPiece_267 : decode b_Mo_printPiece 267 = .ok (.bipush 33, 2) := by decide +kernel
theorem d_Mo_printPiece_269 : decode b_Mo_printPiece 269 = .ok (.aload_n 0, 1) := by decide +kernel
theorem d_Mo_printPiece_270 : decode b_Mo_printPiece 270 = .ok (.getfield 17, 3) := by decide +kernel
theorem d_Mo_printPiece_273 : decode b_Mo_printPiece 273 = .ok (.iload_n 2, 1) := by decide +kernel
theorem d_Mo_printPiece_274 : decode b_Mo_printPiece 274 = .ok (.bipush 18, 2) := by decide +kernel
theorem d_Mo_printPiece_276 : decode b_Mo_printPiece 276 = .ok (.iadd, 1) := by decide +kernel
theorem d_Mo_printPiece_277 : decode b_Mo_printPiece 277 = .ok (.iaload, 1) := by decide +kernel
theorem d_Mo_printPiece_278 : decode b_Mo_printPiece 278 = .ok (.invokevirtual 183, 3) := by decide +kernel
theorem d_Mo_printPiece_281 : decode b_Mo_printPiece 281 = .ok (.aload_n 0, 1) := by decide +kernel
theorem d_Mo_printPiece_282 : decode b_Mo_printPiece 282 = .ok (.getfield 17, 3) := by decide +kernel
theorem d_Mo_printPiece_285 : decode b_Mo_printPiece 285 = .ok (.iload_n 2, 1) := by decide +kernel
theorem d_Mo_printPiece_286 : decode b_Mo_printPiece 286 = .ok (.bipush 20, 2) := by decide +kernel
theorem d_Mo_printPiece_288 : decode b_Mo_printPiece 288 = .ok (.iadd, 1) := by decide +kernel
theorem d_Mo_printPiece_289 : decode b_Mo_printPiece 289 = .ok (.iaload, 1) := by decide +kernel
theorem d_Mo_printPiece_290 : decode b_Mo_printPiece 290 = .ok (.ifCond .le 69, 3) := by decide +kernel
theorem d_Mo_printPiece_293 : decode b_Mo_printPiece 293 = .ok (.aload_n 0, 1) := by decide +kernel
theorem d_Mo_printPiece_294 : decode b_Mo_printPiece 294 = .ok (.bipush 34, 2) := by decide +kernel
theorem d_Mo_printPiece_296 : decode b_Mo_printPiece 296 = .ok (.invokevirtual 180, 3) := by decide +kernel
theorem d_Mo_printPiece_299 : decode b_Mo_printPiece 299 = .ok (.iconst 0, 1) := by decide +kernel
theorem d_Mo_printPiece_300 : decode b_Mo_printPiece 300 = .ok (.istore 4, 2) := by decide +kernel
theorem d_Mo_printPiece_302 : decode b_Mo_printPiece 302 = .ok (.iload 4, 2) := by decide +kernel
theorem d_Mo_printPiece_304 : decode b_Mo_printPiece 304 = .ok (.aload_n 0, 1) := by decide +kernel
theorem d_Mo_printPiece_305 : decode b_Mo_printPiece 305 = .ok (.getfield 17, 3) := by decide +kernel
theorem d_Mo_printPiece_308 : decode b_Mo_printPiece 308 = .ok (.iload_n 2, 1) := by decide +kernel
theorem d_Mo_printPiece_309 : decode b_Mo_printPiece 309 = .ok (.bipush 20, 2) := by decide +kernel
theorem d_Mo_printPiece_311 : decode b_Mo_printPiece 311 = .ok (.iadd, 1) := by decide +kernel
theorem d_Mo_printPiece_312 : decode b_Mo_printPiece 312 = .ok (.iaload, 1) := by decide +kernel
theorem d_Mo_printPiece_313 : decode b_Mo_printPiece 313 = .ok (.if_icmp .ge 25, 3) := by decide +kernel
theorem d_Mo_printPiece_316 : decode b_Mo_printPiece 316 = .ok (.aload_n 0, 1) := by decide +kernel
theorem d_Mo_printPiece_317 : decode b_Mo_printPiece 317 = .ok (.aload_n 0, 1) := by decide +kernel
theorem d_Mo_printPiece_318 : decode b_Mo_printPiece 318 = .ok (.getfield 17, 3) := by decide +kernel
theorem d_Mo_printPiece_321 : decode b_Mo_printPiece 321 = .ok (.iload_n 2, 1) := by decide +kernel
theorem d_Mo_printPiece_322 : decode b_Mo_printPiece 322 = .ok (.bipush 21, 2) := by decide +kernel
theorem d_Mo_printPiece_324 : decode b_Mo_printPiece 324 = .ok (.iadd, 1) := by decide +kernel
theorem d_Mo_printPiece_325 : decode b_Mo_printPiece 325 = .ok (.iload 4, 2) := by decide +kernel
theorem d_Mo_printPiece_327 : decode b_Mo_printPiece 327 = .ok (.iadd, 1) := by decide +kernel
theorem d_Mo_printPiece_328 : decode b_Mo_printPiece 328 = .ok (.iaload, 1) := by decide +kernel
theorem d_Mo_printPiece_329 : decode b_Mo_printPiece 329 = .ok (.invokevirtual 180, 3) := by decide +kernel
theorem d_Mo_printPiece_332 : decode b_Mo_printPiece 332 = .ok (.iinc 4 1, 3) := by decide +kernel
theorem d_Mo_printPiece_335 : decode b_Mo_printPiece 335 = .ok (.goto (-33), 3) := by decide +kernel
theorem d_Mo_printPiece_338 : decode b_Mo_printPiece 338 = .ok (.aload_n 0, 1) := by decide +kernel
theorem d_Mo_printPiece_339 : decode b_Mo_printPiece 339 = .ok (.bipush 34, 2) := by decide +kernel
theorem d_Mo_printPiece_341 : decode b_Mo_printPiece 341 = .ok (.invokevirtual 180, 3) := by decide +kernel
theorem d_Mo_printPiece_344 : decode b_Mo_printPiece 344 = .ok (.aload_n 0, 1) := by decide +kernel
theorem d_Mo_printPiece_345 : decode b_Mo_printPiece 345 = .ok (.bipush 35, 2) := by decide +kernel
theorem d_Mo_printPiece_347 : decode b_Mo_printPiece 347 = .ok (.aload_n 0, 1) := by decide +kernel
theorem d_Mo_printPiece_348 : decode b_Mo_printPiece 348 = .ok (.getfield 17, 3) := by decide +kernel
theorem d_Mo_printPiece_351 : decode b_Mo_printPiece 351 = .ok (.iload_n 2, 1) := by decide +kernel
theorem d_Mo_printPiece_352 : decode b_Mo_printPiece 352 = .ok (.bipush 19, 2) := by decide +kernel
theorem d_Mo_printPiece_354 : decode b_Mo_printPiece 354 = .ok (.iadd, 1) := by decide +kernel
theorem d_Mo_printPiece_355 : decode b_Mo_printPiece 355 = .ok (.iaload, 1) := by decide +kernel
theorem d_Mo_printPiece_356 : decode b_Mo_printPiece 356 = .ok (.invokevirtual 183, 3) := by decide +kernel
theorem d_Mo_printPiece_359 : decode b_Mo_printPiece 359 = .ok (.aload_n 0, 1) := by decide +kernel
theorem d_Mo_printPiece_360 : decode b_Mo_printPiece 360 = .ok (.bipush 59, 2) := by decide +kernel
theorem d_Mo_printPiece_362 : decode b_Mo_printPiece 362 = .ok (.invokevirtual 180, 3) := by decide +kernel
theorem d_Mo_printPiece_365 : decode b_Mo_printPiece 365 = .ok (.return_, 1) := by decide +kernel
theorem d_Mo_print_0 : decode b_Mo_print 0 = .ok (.aload_n 0, 1) := by decide +kernel
theorem d_Mo_print_1 : decode b_Mo_print 1 = .ok (.iconst 0, 1) := by decide +kernel
theorem d_Mo_print_2 : decode b_Mo_print 2 = .ok (.putfield 51, 3) := by decide +kernel
theorem d_Mo_print_5 : decode b_Mo_print 5 = .ok (.aload_n 0, 1) := by decide +kernel
theorem d_Mo_print_6 : decode b_Mo_print 6 = .ok (.iconst 0, 1) := by decide +kernel
theorem d_Mo_print_7 : decode b_Mo_print 7 = .ok (.putfield 177, 3) := by decide +kernel
theorem d_Mo_print_10 : decode b_Mo_print 10 = .ok (.iconst 1, 1) := by decide +kernel
theorem d_Mo_print_11 : decode b_Mo_print 11 = .ok (.istore_n 1, 1) := by decide +kernel
theorem d_Mo_print_12 : decode b_Mo_print 12 = .ok (.iload_n 1, 1) := by decide +kernel
theorem d_Mo_print_13 : decode b_Mo_print 13 = .ok (.bipush 61, 2) := by decide +kernel
theorem d_Mo_print_15 : decode b_Mo_print 15 = .ok (.if_icmp .ge 22, 3) := by decide +kernel
theorem d_Mo_print_18 : decode b_Mo_print 18 = .ok (.aload_n 0, 1) := by decide +kernel
theorem d_Mo_print_19 : decode b_Mo_print 19 = .ok (.iload_n 1, 1) := by decide +kernel
theorem d_Mo_print_20 : decode b_Mo_print 20 = .ok (.invokevirtual 129, 3) := by decide +kernel
theorem d_Mo_print_23 : decode b_Mo_print 23 = .ok (.ifCond .eq 8, 3) := by decide +kernel
theorem d_Mo_print_26 : decode b_Mo_print 26 = .ok (.aload_n 0, 1) := by decide +kernel
theorem d_Mo_print_27 : decode b_Mo_print 27 = .ok (.iload_n 1, 1) := by decide +kernel
theorem d_Mo_print_28 : decode b_Mo_print 28 = .ok (.invokevirtual 186, 3) := by decide +kernel
theorem d_Mo_print_31 : decode b_Mo_print 31 = .ok (.iinc 1 1, 3) := by decide +kernel
theorem d_Mo_print_34 : decode b_Mo_print 34 = .ok (.goto (-22), 3) := by decide +kernel
theorem d_Mo_print_37 : decode b_Mo_print 37 = .ok (.iconst 1, 1) := by decide +kernel
theorem d_Mo_print_38 : decode b_Mo_print 38 = .ok (.istore_n 1, 1) := by decide +kernel
theorem d_Mo_print_39 : decode b_Mo_print 39 = .ok (.iload_n 1, 1) := by decide +kernel
theorem d_Mo_print_40 : decode b_Mo_print 40 = .ok (.bipush 62, 2) := by decide +kernel
theorem d_Mo_print_42 : decode b_Mo_print 42 = .ok (.if_icmp .ge 72, 3) := by decide +kernel
theorem d_Mo_print_45 : decode b_Mo_print 45 = .ok (.aload_n 0, 1) := by decide +kernel
theorem d_Mo_print_46 : decode b_Mo_print 46 = .ok (.getfield 20, 3) := by decide +kernel
theorem d_Mo_print_49 : decode b_Mo_print 49 = .ok (.iload_n 1, 1) := by decide +kernel
theorem d_Mo_print_50 : decode b_Mo_print 50 = .ok (.iaload, 1) := by decide +kernel
theorem d_Mo_print_51 : decode b_Mo_print 51 = .ok (.ifCond .ne 6, 3) := by decide +kernel
theorem d_Mo_print_54 : decode b_Mo_print 54 = .ok (.goto 54, 3) := by decide +kernel
theorem d_Mo_print_57 : decode b_Mo_print 57 = .ok (.aload_n 0, 1) := by decide +kernel
theorem d_Mo_print_58 : decode b_Mo_print 58 = .ok (.iload_n 1, 1) := by decide +kernel
theorem d_Mo_print_59 : decode b_Mo_print 59 = .ok (.bipush 31, 2) := by decide +kernel
theorem d_Mo_print_61 : decode b_Mo_print 61 = .ok (.if_icmp .ge 8, 3) := by decide +kernel
theorem d_Mo_print_64 : decode b_Mo_print 64 = .ok (.bipush 104, 2) := by decide +kernel
theorem d_Mo_print_66 : decode b_Mo_print 66 = .ok (.goto 5, 3) := by decide +kernel
theorem d_Mo_print_69 : decode b_Mo_print 69 = .ok (.bipush 115, 2) := by decide +kernel
theorem d_Mo_print_71 : decode b_Mo_print 71 = .ok (.iload_n 1, 1) := by decide +kernel
theorem d_Mo_print_72 : decode b_Mo_print 72 = .ok (.bipush 31, 2) := by decide +kernel
theorem d_Mo_print_74 : decode b_Mo_print 74 = .ok (.irem, 1) := by decide +kernel
theorem d_Mo_print_75 : decode b_Mo_print 75 = .ok (.invokevirtual 183, 3) := by decide +kernel
theorem d_Mo_print_78 : decode b_Mo_print 78 = .ok (.aload_n 0, 1) := by decide +kernel
theorem d_Mo_print_79 : decode b_Mo_print 79 = .ok (.bipush 64, 2) := by decide +kernel
theorem d_Mo_print_81 : decode b_Mo_print 81 = .ok (.aload_n 0, 1) := by decide +kernel
theorem d_Mo_print_82 : decode b_Mo_print 82 = .ok (.getfield 20, 3) := by decide +kernel
theorem d_Mo_print_85 : decode b_Mo_print 85 = .ok (.iload_n 1, 1) := by decide +kernel
theorem d_Mo_print_86 : decode b_Mo_print 86 = .ok (.iaload, 1) := by decide +kernel
theorem d_Mo_print_87 : decode b_Mo_print 87 = .ok (.invokevirtual 183, 3) := by decide +kernel
theorem d_Mo_print_90 : decode b_Mo_print 90 = .ok (.aload_n 0, 1) := by decide +kernel
theorem d_Mo_print_91 : decode b_Mo_print 91 = .ok (.bipush 43, 2) := by decide +kernel
theorem d_Mo_print_93 : decode b_Mo_print 93 = .ok (.aload_n 0, 1) := by decide +kernel
theorem d_Mo_print_94 : decode b_Mo_print 94 = .ok (.getfield 23, 3) := by decide +kernel
theorem d_Mo_print_97 : decode b_Mo_print 97 = .ok (.iload_n 1, 1) := by decide +kernel
theorem d_Mo_print_98 : decode b_Mo_print 98 = .ok (.iaload, 1) := by decide +kernel
theorem d_Mo_print_99 : decode b_Mo_print 99 = .ok (.invokevirtual 183, 3) := by decide +kernel
theorem d_Mo_print_102 : decode b_Mo_print 102 = .ok (.aload_n 0, 1) := by decide +kernel
theorem d_Mo_print_103 : decode b_Mo_print 103 = .ok (.bipush 59, 2) := by decide +kernel
theorem d_Mo_print_105 : decode b_Mo_print 105 = .ok (.invokevirtual 180, 3) := by decide +kernel
theorem d_Mo_print_108 : decode b_Mo_print 108 = .ok (.iinc 1 1, 3) := by decide +kernel
theorem d_Mo_print_111 : decode b_Mo_print 111 = .ok (.goto (-72), 3) := by decide +kernel
theorem d_Mo_print_114 : decode b_Mo_print 114 = .ok (.iconst 0, 1) := by decide +kernel
theorem d_Mo_print_115 : decode b_Mo_print 115 = .ok (.istore_n 1, 1) := by decide +kernel
theorem d_Mo_print_116 : decode b_Mo_print 116 = .ok (.iload_n 1, 1) := by decide +kernel
theorem d_Mo_print_117 : decode b_Mo_print 117 = .ok (.aload_n 0, 1) := by decide +kernel
theorem d_Mo_print_118 : decode b_Mo_print 118 = .ok (.getfield 111, 3) := by decide +kernel
theorem d_Mo_print_121 : decode b_Mo_print 121 = .ok (.if_icmp .ge 61, 3) := by decide +kernel
theorem d_Mo_print_124 : decode b_Mo_print 124 = .ok (.aload_n 0, 1) := by decide +kernel
theorem d_Mo_print_125 : decode b_Mo_print 125 = .ok (.bipush 120, 2) := by decide +kernel
theorem d_Mo_print_127 : decode b_Mo_print 127 = .ok (.aload_n 0, 1) := by decide +kernel
theorem d_Mo_print_128 : decode b_Mo_print 128 = .ok (.getfield 26, 3) := by decide +kernel
theorem d_Mo_print_131 : decode b_Mo_print 131 = .ok (.iconst 3, 1) := by decide +kernel
theorem d_Mo_print_132 : decode b_Mo_print 132 = .ok (.iload_n 1, 1) := by decide +kernel
theorem d_Mo_print_133 : decode b_Mo_print 133 = .ok (.imul, 1) := by decide +kernel
theorem d_Mo_print_134 : decode b_Mo_print 134 = .ok (.iaload, 1) := by decide +kernel
theorem d_Mo_print_135 : decode b_Mo_print 135 = .ok (.invokevirtual 183, 3) := by decide +kernel
theorem d_Mo_print_138 : decode b_Mo_print 138 = .ok (.aload_n 0, 1) := by decide +kernel
theorem d_Mo_print_139 : decode b_Mo_print 139 = .ok (.bipush 45, 2) := by decide +kernel
theorem d_Mo_print_141 : decode b_Mo_print 141 = .ok (.aload_n 0, 1) := by decide +kernel
theorem d_Mo_print_142 : decode b_Mo_print 142 = .ok (.getfield 26, 3) := by decide +kernel
theorem d_Mo_print_145 : decode b_Mo_print 145 = .ok (.iconst 3, 1) := by decide +kernel
theorem d_Mo_print_146 : decode b_Mo_print 146 = .ok (.iload_n 1, 1) := by decide +kernel
theorem d_Mo_print_147 : decode b_Mo_print 147 = .ok (.imul, 1) := by decide +kernel
theorem d_Mo_print_148 : decode b_Mo_print 148 = .ok (.iconst 1, 1) := by decide +kernel
theorem d_Mo_print_149 : decode b_Mo_print 149 = .ok (.iadd, 1) := by decide +kernel
theorem d_Mo_print_150 : decode b_Mo_print 150 = .ok (.iaload, 1) := by decide +kernel
theorem d_Mo_print_151 : decode b_Mo_print 151 = .ok (.invokevirtual 183, 3) := by decide +kernel
theorem d_Mo_print_154 : decode b_Mo_print 154 = .ok (.aload_n 0, 1) := by decide +kernel
theorem d_Mo_print_155 : decode b_Mo_print 155 = .ok (.bipush 45, 2) := by decide +kernel
theorem d_Mo_print_157 : decode b_Mo_print 157 = .ok (.aload_n 0, 1) := by decide +kernel
theorem d_Mo_print_158 : decode b_Mo_print 158 = .ok (.getfield 26, 3) := by decide +kernel
theorem d_Mo_print_161 : decode b_Mo_print 161 = .ok (.iconst 3, 1) := by decide +kernel
theorem d_Mo_print_162 : decode b_Mo_print 162 = .ok (.iload_n 1, 1) := by decide +kernel
theorem d_Mo_print_163 : decode b_Mo_print 163 = .ok (.imul, 1) := by decide +kernel
theorem d_Mo_print_164 : decode b_Mo_print 164 = .ok (.iconst 2, 1) := by decide +kernel
theorem d_Mo_print_165 : decode b_Mo_print 165 = .ok (.iadd, 1) := by decide +kernel
theorem d_Mo_print_166 : decode b_Mo_print 166 = .ok (.iaload, 1) := by decide +kernel
theorem d_Mo_print_167 : decode b_Mo_print 167 = .ok (.invokevirtual 183, 3) := by decide +kernel
theorem d_Mo_print_170 : decode b_Mo_print 170 = .ok (.aload_n 0, 1) := by decide +kernel
theorem d_Mo_print_171 : decode b_Mo_print 171 = .ok (.bipush 59, 2) := by decide +kernel
theorem d_Mo_print_173 : decode b_Mo_print 173 = .ok (.invokevirtual 180, 3) := by decide +kernel
theorem d_Mo_print_176 : decode b_Mo_print 176 = .ok (.iinc 1 1, 3) := by decide +kernel
theorem d_Mo_print_179 : decode b_Mo_print 179 = .ok (.goto (-63), 3) := by decide +kernel
theorem d_Mo_print_182 : decode b_Mo_print 182 = .ok (.aload_n 0, 1) := by decide +kernel
theorem d_Mo_print_183 : decode b_Mo_print 183 = .ok (.getfield 177, 3) := by decide +kernel
theorem d_Mo_print_186 : decode b_Mo_print 186 = .ok (.ireturn, 1) := by decide +kernel

set_option maxHeartbeats 4000000 in
set_option maxRecDepth 100000 in
/-- put -/
theorem c_Mo_put (l : Launch) (G : Gx) (lo : Nat) (V : Vw) (sz : Nat) (m oa : Nat) (u0 u1 u2 u3 u4 u5 u6 u7 u8 u9 u10 u11 u12 u13 u14 u15 u16 u17 u18 : Value) (fo : Nat → Int32) (PB : List Nat) (hn : [m, oa].Nodup) (hO : prOk fo PB) (c : Nat) (hF : PB.length < 5000) : Met l y_Mo_put ws_Mo_put ({ frames := 0, cells := 0, slots := 0, locals := 0 } : Room) (vPre G lo [.ref m, .int (nI c)] (vU V [(m, eO 8 [u0, u1, u2, u3, u4, u5, u6, u7, u8, u9, u10, u11, u12, u13, u14, u15, u16, u17, u18, .int (nI PB.length), .ref oa]), (oa, eI (gI G) 5000 fo)]) sz) (vPost G lo (fun r V' k => r = none ∧ (∃ f1 : Nat → Int32, V' = vU V [(m, eO 8 [u0, u1, u2, u3, u4, u5, u6, u7, u8, u9, u10, u11, u12, u13, u14, u15, u16, u17, u18, .int (nI ((PB ++ [c]).length)), .ref oa]), (oa, eI (gI G) 5000 f1)] ∧ prOk f1 (PB ++ [c])) ∧ k = sz)) 0 0 (vL lo) := by
  refine vMet (R := RMo) (by decide) rfl (Nat.le_of_ble_eq_true rfl) ?_
  intro pg ev s mi args below meth cd hx hb hr hml hlk hnm hts hown hK hz hV ls hl
  have hl : lv_has ls 2 [(0, .ref m), (1, .int (nI c))] := hl
  have hV0 := hV
  obtain ⟨H, hH⟩ : ∃ H, H = s.heap := ⟨_, rfl⟩
  obtain ⟨locs, hlocs⟩ : ∃ locs : List Loc, locs = [] := ⟨_, rfl⟩
  rw [← hH, ← hlocs]
  rw [← hH] at hz
  replace hV : vS G.1 cls lo s H locs (vU V [(m, eO 8 [u0, u1, u2, u3, u4, u5, u6, u7, u8, u9, u10, u11, u12, u13, u14, u15, u16, u17, u18, .int (nI PB.length), .ref oa]), (oa, eI (gI G) 5000 fo)]) := by rw [hH, hlocs]; exact hV
  clear hH hlocs hV0
  refine lv_aload_n hx hb d_Mo_put_0 rfl (lv_at hl 0 rfl) ?_
  refine u_get hx hb hts inMo hown hK hV hn 0 rfl rfl 20 (by decide) w_fl_Mo_48 rfl rfl d_Mo_put_1 ?_
  refine lv_aload_n hx hb d_Mo_put_4 rfl (lv_at hl 0 rfl) ?_
  refine u_get hx hb hts inMo hown hK hV hn 0 rfl rfl 19 (by decide) w_fl_Mo_177 rfl rfl d_Mo_put_5 ?_
  refine lv_iload_n hx hb d_Mo_put_8 rfl (lv_at hl 1 rfl) ?_
  refine u_iastN hx hb hK hV hn 1 rfl (by omega) (by decide) d_Mo_put_9 (fun H locs hV hz9 => ?_)
  have hV : vS G.1 cls lo s H locs (vU V [(m, eO 8 [u0, u1, u2, u3, u4, u5, u6, u7, u8, u9, u10, u11, u12, u13, u14, u15, u16, u17, u18, .int (nI PB.length), .ref oa]), (oa, eI (gI G) 5000 (upd fo PB.length (nI c)))]) := hV
  replace hz := hz9.trans hz
  refine lv_aload_n hx hb d_Mo_put_10 rfl (lv_at hl 0 rfl) ?_
  refine lv_dup hx hb d_Mo_put_11 rfl ?_
  refine u_get hx hb hts inMo hown hK hV hn 0 rfl rfl 19 (by decide) w_fl_Mo_177 rfl rfl d_Mo_put_12 ?_
  refine lv_iconst (v := 1) hx hb d_Mo_put_15 (by decide) ?_
  refine e_iadd (v := nI (PB.length + 1)) hx hb d_Mo_put_16 (nI_add PB.length 1) ?_
  refine u_put hx hb hts inMo tyMo tyMo_ok nmMo hown hK hV hn 0 rfl rfl 19 (by decide) w_fl_Mo_177 rfl rfl rfl rfl (Nat.le_of_ble_eq_true rfl) d_Mo_put_17 (fun H locs hV hz9 => ?_)
  have hV : vS G.1 cls lo s H locs (vU V [(m, eO 8 [u0, u1, u2, u3, u4, u5, u6, u7, u8, u9, u10, u11, u12, u13, u14, u15, u16, u17, u18, .int (nI (PB.length + 1)), .ref oa]), (oa, eI (gI G) 5000 (upd fo PB.length (nI c)))]) := hV
  replace hz := hz9.trans hz
  exact W.vret hx hb hr (v_end hV ⟨rfl, ⟨_, by rw [List.length_append]; rfl, prOk_add hO c⟩, hz⟩) hV.2.1.2.2 d_Mo_put_20

set_option maxHeartbeats 4000000 in
set_option maxRecDepth 100000 in
/-- putNumber -/
theorem c_Mo_putNumber (l : Launch) (G : Gx) (lo : Nat) (V : Vw) (sz : Nat) (m oa : Nat) (u0 u1 u2 u3 u4 u5 u6 u7 u8 u9 u10 u11 u12 u13 u14 u15 u16 u17 u18 : Value) (fo : Nat → Int32) (PB : List Nat) (hn : [m, oa].Nodup) (hO : prOk fo PB) (c v : Nat) (hv : v ≤ 9999) (hF : PB.length + (pN c v).length ≤ 5000) : Met l y_Mo_putNumber ws_Mo_putNumber ({ frames := 1, cells := 0, slots := 0, locals := 25 } : Room) (vPre G lo [.ref m, .int (nI c), .int (nI v)] (vU V [(m, eO 8 [u0, u1, u2, u3, u4, u5, u6, u7, u8, u9, u10, u11, u12, u13, u14, u15, u16, u17, u18, .int (nI PB.length), .ref oa]), (oa, eI (gI G) 5000 fo)]) sz) (vPost G lo (fun r V' k => r = none ∧ (∃ f1 : Nat → Int32, V' = vU V [(m, eO 8 [u0, u1, u2, u3, u4, u5, u6, u7, u8, u9, u10, u11, u12, u13, u14, u15, u16, u17, u18, .int (nI ((PB ++ pN c v).length)), .ref oa]), (oa, eI (gI G) 5000 f1)] ∧ prOk f1 (PB ++ pN c v)) ∧ k = sz)) 0 0 (vL lo) := by
  refine vMet (R := RMo) (by decide) rfl (Nat.le_of_ble_eq_true rfl) ?_
  intro pg ev s mi args below meth cd hx hb hr hml hlk hnm hts hown hK hz hV ls hl
  have hl : lv_has ls 3 [(0, .ref m), (1, .int (nI c)), (2, .int (nI v))] := hl
  have hV0 := hV
  obtain ⟨H, hH⟩ : ∃ H, H = s.heap := ⟨_, rfl⟩
  obtain ⟨locs, hlocs⟩ : ∃ locs : List Loc, locs = [] := ⟨_, rfl⟩
  rw [← hH, ← hlocs]
  rw [← hH] at hz
  replace hV : vS G.1 cls lo s H locs (vU V [(m, eO 8 [u0, u1, u2, u3, u4, u5, u6, u7, u8, u9, u10, u11, u12, u13, u14, u15, u16, u17, u18, .int (nI PB.length), .ref oa]), (oa, eI (gI G) 5000 fo)]) := by rw [hH, hlocs]; exact hV
  clear hH hlocs hV0
  rw [pN_len] at hF
  refine lv_aload_n hx hb d_Mo_putNumber_0 rfl (lv_at hl 0 rfl) ?_
  refine lv_iload_n hx hb d_Mo_putNumber_1 rfl (lv_at hl 1 rfl) ?_
  refine v_call (va_runV (As := [.int (nI c)]) (rest := []) ⟨hx, hb, hml, hown, hts⟩ (c_Mo_put l G lo _ _ m oa u0 u1 u2 u3 u4 u5 u6 u7 u8 u9 u10 u11 u12 u13 u14 u15 u16 u17 u18 fo PB hn hO c (by (try simp only [List.length_append, List.length_singleton, List.length_cons, List.length_nil]); (repeat' split at hF) <;> omega)) (kwV 1 hts w_co_Mo_put rfl rfl w_it_Mo w_ml_Mo_180 w_im_Mo_put w_se_Mo__Mo_put (by decide +kernel) ⟨(Nat.le_of_ble_eq_true rfl), (Nat.le_of_ble_eq_true rfl)⟩) (u_preV hK hV hn [0, 1] rfl hz 0 rfl rfl) rfl rfl hl.1 rfl (lv_room (Nat.le_of_ble_eq_true rfl)) d_Mo_putNumber_2 ⟨(Nat.le_of_ble_eq_true rfl), (Nat.le_of_ble_eq_true rfl)⟩) hV (fun r9 V9 H locs hp hV hle => ?_)
  obtain ⟨rfl, ⟨g_1, rfl, hO_g_1⟩, hz⟩ := hp
  replace hV := u_back hV hn [0, 1] rfl
  have hV : vS G.1 cls lo s H locs (vU V [(m, eO 8 [u0, u1, u2, u3, u4, u5, u6, u7, u8, u9, u10, u11, u12, u13, u14, u15, u16, u17, u18, .int (nI ((PB ++ [c]).length)), .ref oa]), (oa, eI (gI G) 5000 g_1)]) := hV
  refine lv_iload_n hx hb d_Mo_putNumber_5 rfl (lv_at hl 2 rfl) ?_
  refine lv_sipush (v := 999) hx hb d_Mo_putNumber_6 (by decide) ?_
  refine lv_icmp_le (tgt := 24) hx hb d_Mo_putNumber_9 (by decide) (fun c_2 => ?_) (fun c_2 => ?_)
  · replace c_2 : v ≤ 999 := (nI_leI (a := v) (b := 999) (by omega) (by omega)).mp c_2
    refine lv_iload_n hx hb d_Mo_putNumber_24 rfl (lv_at hl 2 rfl) ?_
    refine lv_bipush (v := 99) hx hb d_Mo_putNumber_25 (by decide) ?_
    refine lv_icmp_le (tgt := 44) hx hb d_Mo_putNumber_27 (by decide) (fun c_3 => ?_) (fun c_3 => ?_)
    · replace c_3 : v ≤ 99 := (nI_leI (a := v) (b := 99) (by omega) (by omega)).mp c_3
      refine lv_iload_n hx hb d_Mo_putNumber_44 rfl (lv_at hl 2 rfl) ?_
      refine lv_bipush (v := 9) hx hb d_Mo_putNumber_45 (by decide) ?_
      refine lv_icmp_le (tgt := 64) hx hb d_Mo_putNumber_47 (by decide) (fun c_4 => ?_) (fun c_4 => ?_)
      · replace c_4 : v ≤ 9 := (nI_leI (a := v) (b := 9) (by omega) (by omega)).mp c_4
        refine lv_aload_n hx hb d_Mo_putNumber_64 rfl (lv_at hl 0 rfl) ?_
        refine lv_bipush (v := 48) hx hb d_Mo_putNumber_65 (by decide) ?_
        refine lv_iload_n hx hb d_Mo_putNumber_67 rfl (lv_at hl 2 rfl) ?_
        refine lv_bipush (v := 10) hx hb d_Mo_putNumber_68 (by decide) ?_
        refine e_irem (v := nI (v % 10)) hx hb d_Mo_putNumber_70 (by decide) (nI_rem (b := 10) (by omega) (by decide)) ?_
        refine e_iadd (v := nI (48 + (v % 10))) hx hb d_Mo_putNumber_71 (nI_add 48 (v % 10)) ?_
        refine v_call (va_runV (As := [.int (nI (48 + (v % 10)))]) (rest := []) ⟨hx, hb, hml, hown, hts⟩ (c_Mo_put l G lo _ _ m oa u0 u1 u2 u3 u4 u5 u6 u7 u8 u9 u10 u11 u12 u13 u14 u15 u16 u17 u18 g_1 (PB ++ [c]) hn hO_g_1 (48 + (v % 10)) (by (try simp only [List.length_append, List.length_singleton, List.length_cons, List.length_nil]); (repeat' split at hF) <;> omega)) (kwV 1 hts w_co_Mo_put rfl rfl w_it_Mo w_ml_Mo_180 w_im_Mo_put w_se_Mo__Mo_put (by decide +kernel) ⟨(Nat.le_of_ble_eq_true rfl), (Nat.le_of_ble_eq_true rfl)⟩) (u_preV hK hV hn [0, 1] rfl hz 0 rfl rfl) rfl rfl hl.1 rfl (lv_room (Nat.le_of_ble_eq_true rfl)) d_Mo_putNumber_72 ⟨(Nat.le_of_ble_eq_true rfl), (Nat.le_of_ble_eq_true rfl)⟩) hV (fun r9 V9 H locs hp hV hle => ?_)
        obtain ⟨rfl, ⟨g_5, rfl, hO_g_5⟩, hz⟩ := hp
        replace hV := u_back hV hn [0, 1] rfl
        have hV : vS G.1 cls lo s H locs (vU V [(m, eO 8 [u0, u1, u2, u3, u4, u5, u6, u7, u8, u9, u10, u11, u12, u13, u14, u15, u16, u17, u18, .int (nI ((PB ++ [c] ++ [48 + (v % 10)]).length)), .ref oa]), (oa, eI (gI G) 5000 g_5)]) := hV
        have eB : PB ++ [c] ++ [48 + (v % 10)] = PB ++ pN c v := by unfold pN dgN; (repeat' split) <;> first | (exfalso; omega) | simp
        rw [eB] at hV hO_g_5
        exact W.vret hx hb hr (v_end hV ⟨rfl, ⟨_, rfl, hO_g_5⟩, hz⟩) hV.2.1.2.2 d_Mo_putNumber_75
      · replace c_4 : ¬ v ≤ 9 := fun z9 => c_4 ((nI_leI (a := v) (b := 9) (by omega) (by omega)).mpr z9)
        refine lv_aload_n hx hb d_Mo_putNumber_50 rfl (lv_at hl 0 rfl) ?_
        refine lv_bipush (v := 48) hx hb d_Mo_putNumber_51 (by decide) ?_
        refine lv_iload_n hx hb d_Mo_putNumber_53 rfl (lv_at hl 2 rfl) ?_
        refine lv_bipush (v := 10) hx hb d_Mo_putNumber_54 (by decide) ?_
        refine e_idiv (v := nI (v / 10)) hx hb d_Mo_putNumber_56 (by decide) (nI_div (b := 10) (by omega) (by decide)) ?_
        refine lv_bipush (v := 10) hx hb d_Mo_putNumber_57 (by decide) ?_
        refine e_irem (v := nI (v / 10 % 10)) hx hb d_Mo_putNumber_59 (by decide) (nI_rem (b := 10) (by omega) (by decide)) ?_
        refine e_iadd (v := nI (48 + (v / 10 % 10))) hx hb d_Mo_putNumber_60 (nI_add 48 (v / 10 % 10)) ?_
        refine v_call (va_runV (As := [.int (nI (48 + (v / 10 % 10)))]) (rest := []) ⟨hx, hb, hml, hown, hts⟩ (c_Mo_put l G lo _ _ m oa u0 u1 u2 u3 u4 u5 u6 u7 u8 u9 u10 u11 u12 u13 u14 u15 u16 u17 u18 g_1 (PB ++ [c]) hn hO_g_1 (48 + (v / 10 % 10)) (by (try simp only [List.length_append, List.length_singleton, List.length_cons, List.length_nil]); (repeat' split at hF) <;> omega)) (kwV 1 hts w_co_Mo_put rfl rfl w_it_Mo w_ml_Mo_180 w_im_Mo_put w_se_Mo__Mo_put (by decide +kernel) ⟨(Nat.le_of_ble_eq_true rfl), (Nat.le_of_ble_eq_true rfl)⟩) (u_preV hK hV hn [0, 1] rfl hz 0 rfl rfl) rfl rfl hl.1 rfl (lv_room (Nat.le_of_ble_eq_true rfl)) d_Mo_putNumber_61 ⟨(Nat.le_of_ble_eq_true rfl), (Nat.le_of_ble_eq_true rfl)⟩) hV (fun r9 V9 H locs hp hV hle => ?_)
        obtain ⟨rfl, ⟨g_6, rfl, hO_g_6⟩, hz⟩ := hp
        replace hV := u_back hV hn [0, 1] rfl
        have hV : vS G.1 cls lo s H locs (vU V [(m, eO 8 [u0, u1, u2, u3, u4, u5, u6, u7, u8, u9, u10, u11, u12, u13, u14, u15, u16, u17, u18, .int (nI ((PB ++ [c] ++ [48 + (v / 10 % 10)]).length)), .ref oa]), (oa, eI (gI G) 5000 g_6)]) := hV
        refine lv_aload_n hx hb d_Mo_putNumber_64 rfl (lv_at hl 0 rfl) ?_
        refine lv_bipush (v := 48) hx hb d_Mo_putNumber_65 (by decide) ?_
        refine lv_iload_n hx hb d_Mo_putNumber_67 rfl (lv_at hl 2 rfl) ?_
        refine lv_bipush (v := 10) hx hb d_Mo_putNumber_68 (by decide) ?_
        refine e_irem (v := nI (v % 10)) hx hb d_Mo_putNumber_70 (by decide) (nI_rem (b := 10) (by omega) (by decide)) ?_
        refine e_iadd (v := nI (48 + (v % 10))) hx hb d_Mo_putNumber_71 (nI_add 48 (v % 10)) ?_
        refine v_call (va_runV (As := [.int (nI (48 + (v % 10)))]) (rest := []) ⟨hx, hb, hml, hown, hts⟩ (c_Mo_put l G lo _ _ m oa u0 u1 u2 u3 u4 u5 u6 u7 u8 u9 u10 u11 u12 u13 u14 u15 u16 u17 u18 g_6 (PB ++ [c] ++ [48 + (v / 10 % 10)]) hn hO_g_6 (48 + (v % 10)) (by (try simp only [List.length_append, List.length_singleton, List.length_cons, List.length_nil]); (repeat' split at hF) <;> omega)) (kwV 1 hts w_co_Mo_put rfl rfl w_it_Mo w_ml_Mo_180 w_im_Mo_put w_se_Mo__Mo_put (by decide +kernel) ⟨(Nat.le_of_ble_eq_true rfl), (Nat.le_of_ble_eq_true rfl)⟩) (u_preV hK hV hn [0, 1] rfl hz 0 rfl rfl) rfl rfl hl.1 rfl (lv_room (Nat.le_of_ble_eq_true rfl)) d_Mo_putNumber_72 ⟨(Nat.le_of_ble_eq_true rfl), (Nat.le_of_ble_eq_true rfl)⟩) hV (fun r9 V9 H locs hp hV hle => ?_)
        obtain ⟨rfl, ⟨g_7, rfl, hO_g_7⟩, hz⟩ := hp
        replace hV := u_back hV hn [0, 1] rfl
        have hV : vS G.1 cls lo s H locs (vU V [(m, eO 8 [u0, u1, u2, u3, u4, u5, u6, u7, u8, u9, u10, u11, u12, u13, u14, u15, u16, u17, u18, .int (nI ((PB ++ [c] ++ [48 + (v / 10 % 10)] ++ [48 + (v % 10)]).length)), .ref oa]), (oa, eI (gI G) 5000 g_7)]) := hV
        have eB : PB ++ [c] ++ [48 + (v / 10 % 10)] ++ [48 + (v % 10)] = PB ++ pN c v := by unfold pN dgN; (repeat' split) <;> first | (exfalso; omega) | simp
        rw [eB] at hV hO_g_7
        exact W.vret hx hb hr (v_end hV ⟨rfl, ⟨_, rfl, hO_g_7⟩, hz⟩) hV.2.1.2.2 d_Mo_putNumber_75
    · replace c_3 : ¬ v ≤ 99 := fun z9 => c_3 ((nI_leI (a := v) (b := 99) (by omega) (by omega)).mpr z9)
      refine lv_aload_n hx hb d_Mo_putNumber_30 rfl (lv_at hl 0 rfl) ?_
      refine lv_bipush (v := 48) hx hb d_Mo_putNumber_31 (by decide) ?_
      refine lv_iload_n hx hb d_Mo_putNumber_33 rfl (lv_at hl 2 rfl) ?_
      refine lv_bipush (v := 100) hx hb d_Mo_putNumber_34 (by decide) ?_
      refine e_idiv (v := nI (v / 100)) hx hb d_Mo_putNumber_36 (by decide) (nI_div (b := 100) (by omega) (by decide)) ?_
      refine lv_bipush (v := 10) hx hb d_Mo_putNumber_37 (by decide) ?_
      refine e_irem (v := nI (v / 100 % 10)) hx hb d_Mo_putNumber_39 (by decide) (nI_rem (b := 10) (by omega) (by decide)) ?_
      refine e_iadd (v := nI (48 + (v / 100 % 10))) hx hb d_Mo_putNumber_40 (nI_add 48 (v / 100 % 10)) ?_
      refine v_call (va_runV (As := [.int (nI (48 + (v / 100 % 10)))]) (rest := []) ⟨hx, hb, hml, hown, hts⟩ (c_Mo_put l G lo _ _ m oa u0 u1 u2 u3 u4 u5 u6 u7 u8 u9 u10 u11 u12 u13 u14 u15 u16 u17 u18 g_1 (PB ++ [c]) hn hO_g_1 (48 + (v / 100 % 10)) (by (try simp only [List.length_append, List.length_singleton, List.length_cons, List.length_nil]); (repeat' split at hF) <;> omega)) (kwV 1 hts w_co_Mo_put rfl rfl w_it_Mo w_ml_Mo_180 w_im_Mo_put w_se_Mo__Mo_put (by decide +kernel) ⟨(Nat.le_of_ble_eq_true rfl), (Nat.le_of_ble_eq_true rfl)⟩) (u_preV hK hV hn [0, 1] rfl hz 0 rfl rfl) rfl rfl hl.1 rfl (lv_room (Nat.le_of_ble_eq_true rfl)) d_Mo_putNumber_41 ⟨(Nat.le_of_ble_eq_true rfl), (Nat.le_of_ble_eq_true rfl)⟩) hV (fun r9 V9 H locs hp hV hle => ?_)
      obtain ⟨rfl, ⟨g_8, rfl, hO_g_8⟩, hz⟩ := hp
      replace hV := u_back hV hn [0, 1] rfl
      have hV : vS G.1 cls lo s H locs (vU V [(m, eO 8 [u0, u1, u2, u3, u4, u5, u6, u7, u8, u9, u10, u11, u12, u13, u14, u15, u16, u17, u18, .int (nI ((PB ++ [c] ++ [48 + (v / 100 % 10)]).length)), .ref oa]), (oa, eI (gI G) 5000 g_8)]) := hV
      refine lv_iload_n hx hb d_Mo_putNumber_44 rfl (lv_at hl 2 rfl) ?_
      refine lv_bipush (v := 9) hx hb d_Mo_putNumber_45 (by decide) ?_
      refine lv_icmp_le (tgt := 64) hx hb d_Mo_putNumber_47 (by decide) (fun c_9 => ?_) (fun c_9 => ?_)
      · replace c_9 : v ≤ 9 := (nI_leI (a := v) (b := 9) (by omega) (by omega)).mp c_9
        refine lv_aload_n hx hb d_Mo_putNumber_64 rfl (lv_at hl 0 rfl) ?_
        refine lv_bipush (v := 48) hx hb d_Mo_putNumber_65 (by decide) ?_
        refine lv_iload_n hx hb d_Mo_putNumber_67 rfl (lv_at hl 2 rfl) ?_
        refine lv_bipush (v := 10) hx hb d_Mo_putNumber_68 (by decide) ?_
        refine e_irem (v := nI (v % 10)) hx hb d_Mo_putNumber_70 (by decide) (nI_rem (b := 10) (by omega) (by decide)) ?_
        refine e_iadd (v := nI (48 + (v % 10))) hx hb d_Mo_putNumber_71 (nI_add 48 (v % 10)) ?_
        refine v_call (va_runV (As := [.int (nI (48 + (v % 10)))]) (rest := []) ⟨hx, hb, hml, hown, hts⟩ (c_Mo_put l G lo _ _ m oa u0 u1 u2 u3 u4 u5 u6 u7 u8 u9 u10 u11 u12 u13 u14 u15 u16 u17 u18 g_8 (PB ++ [c] ++ [48 + (v / 100 % 10)]) hn hO_g_8 (48 + (v % 10)) (by (try simp only [List.length_append, List.length_singleton, List.length_cons, List.length_nil]); (repeat' split at hF) <;> omega)) (kwV 1 hts w_co_Mo_put rfl rfl w_it_Mo w_ml_Mo_180 w_im_Mo_put w_se_Mo__Mo_put (by decide +kernel) ⟨(Nat.le_of_ble_eq_true rfl), (Nat.le_of_ble_eq_true rfl)⟩) (u_preV hK hV hn [0, 1] rfl hz 0 rfl rfl) rfl rfl hl.1 rfl (lv_room (Nat.le_of_ble_eq_true rfl)) d_Mo_putNumber_72 ⟨(Nat.le_of_ble_eq_true rfl), (Nat.le_of_ble_eq_true rfl)⟩) hV (fun r9 V9 H locs hp hV hle => ?_)
        obtain ⟨rfl, ⟨g_10, rfl, hO_g_10⟩, hz⟩ := hp
        replace hV := u_back hV hn [0, 1] rfl
        have hV : vS G.1 cls lo s H locs (vU V [(m, eO 8 [u0, u1, u2, u3, u4, u5, u6, u7, u8, u9, u10, u11, u12, u13, u14, u15, u16, u17, u18, .int (nI ((PB ++ [c] ++ [48 + (v / 100 % 10)] ++ [48 + (v % 10)]).length)), .ref oa]), (oa, eI (gI G) 5000 g_10)]) := hV
        have eB : PB ++ [c] ++ [48 + (v / 100 % 10)] ++ [48 + (v % 10)] = PB ++ pN c v := by unfold pN dgN; (repeat' split) <;> first | (exfalso; omega) | simp
        rw [eB] at hV hO_g_10
        exact W.vret hx hb hr (v_end hV ⟨rfl, ⟨_, rfl, hO_g_10⟩, hz⟩) hV.2.1.2.2 d_Mo_putNumber_75
      · replace c_9 : ¬ v ≤ 9 := fun z9 => c_9 ((nI_leI (a := v) (b := 9) (by omega) (by omega)).mpr z9)
        refine lv_aload_n hx hb d_Mo_putNumber_50 rfl (lv_at hl 0 rfl) ?_
        refine lv_bipush (v := 48) hx hb d_Mo_putNumber_51 (by decide) ?_
        refine lv_iload_n hx hb d_Mo_putNumber_53 rfl (lv_at hl 2 rfl) ?_
        refine lv_bipush (v := 10) hx hb d_Mo_putNumber_54 (by decide) ?_
        refine e_idiv (v := nI (v / 10)) hx hb d_Mo_putNumber_56 (by decide) (nI_div (b := 10) (by omega) (by decide)) ?_
        refine lv_bipush (v := 10) hx hb d_Mo_putNumber_57 (by decide) ?_
        refine e_irem (v := nI (v / 10 % 10)) hx hb d_Mo_putNumber_59 (by decide) (nI_rem (b := 10) (by omega) (by decide)) ?_
        refine e_iadd (v := nI (48 + (v / 10 % 10))) hx hb d_Mo_putNumber_60 (nI_add 48 (v / 10 % 10)) ?_
        refine v_call (va_runV (As := [.int (nI (48 + (v / 10 % 10)))]) (rest := []) ⟨hx, hb, hml, hown, hts⟩ (c_Mo_put l G lo _ _ m oa u0 u1 u2 u3 u4 u5 u6 u7 u8 u9 u10 u11 u12 u13 u14 u15 u16 u17 u18 g_8 (PB ++ [c] ++ [48 + (v / 100 % 10)]) hn hO_g_8 (48 + (v / 10 % 10)) (by (try simp only [List.length_append, List.length_singleton, List.length_cons, List.length_nil]); (repeat' split at hF) <;> omega)) (kwV 1 hts w_co_Mo_put rfl rfl w_it_Mo w_ml_Mo_180 w_im_Mo_put w_se_Mo__Mo_put (by decide +kernel) ⟨(Nat.le_of_ble_eq_true rfl), (Nat.le_of_ble_eq_true rfl)⟩) (u_preV hK hV hn [0, 1] rfl hz 0 rfl rfl) rfl rfl hl.1 rfl (lv_room (Nat.le_of_ble_eq_true rfl)) d_Mo_putNumber_61 ⟨(Nat.le_of_ble_eq_true rfl), (Nat.le_of_ble_eq_true rfl)⟩) hV (fun r9 V9 H locs hp hV hle => ?_)
        obtain ⟨rfl, ⟨g_11, rfl, hO_g_11⟩, hz⟩ := hp
        replace hV := u_back hV hn [0, 1] rfl
        have hV : vS G.1 cls lo s H locs (vU V [(m, eO 8 [u0, u1, u2, u3, u4, u5, u6, u7, u8, u9, u10, u11, u12, u13, u14, u15, u16, u17, u18, .int (nI ((PB ++ [c] ++ [48 + (v / 100 % 10)] ++ [48 + (v / 10 % 10)]).length)), .ref oa]), (oa, eI (gI G) 5000 g_11)]) := hV
        refine lv_aload_n hx hb d_Mo_putNumber_64 rfl (lv_at hl 0 rfl) ?_
        refine lv_bipush (v := 48) hx hb d_Mo_putNumber_65 (by decide) ?_
        refine lv_iload_n hx hb d_Mo_putNumber_67 rfl (lv_at hl 2 rfl) ?_
        refine lv_bipush (v := 10) hx hb d_Mo_putNumber_68 (by decide) ?_
        refine e_irem (v := nI (v % 10)) hx hb d_Mo_putNumber_70 (by decide) (nI_rem (b := 10) (by omega) (by decide)) ?_
        refine e_iadd (v := nI (48 + (v % 10))) hx hb d_Mo_putNumber_71 (nI_add 48 (v % 10)) ?_
        refine v_call (va_runV (As := [.int (nI (48 + (v % 10)))]) (rest := []) ⟨hx, hb, hml, hown, hts⟩ (c_Mo_put l G lo _ _ m oa u0 u1 u2 u3 u4 u5 u6 u7 u8 u9 u10 u11 u12 u13 u14 u15 u16 u17 u18 g_11 (PB ++ [c] ++ [48 + (v / 100 % 10)] ++ [48 + (v / 10 % 10)]) hn hO_g_11 (48 + (v % 10)) (by (try simp only [List.length_append, List.length_singleton, List.length_cons, List.length_nil]); (repeat' split at hF) <;> omega)) (kwV 1 hts w_co_Mo_put rfl rfl w_it_Mo w_ml_Mo_180 w_im_Mo_put w_se_Mo__Mo_put (by decide +kernel) ⟨(Nat.le_of_ble_eq_true rfl), (Nat.le_of_ble_eq_true rfl)⟩) (u_preV hK hV hn [0, 1] rfl hz 0 rfl rfl) rfl rfl hl.1 rfl (lv_room (Nat.le_of_ble_eq_true rfl)) d_Mo_putNumber_72 ⟨(Nat.le_of_ble_eq_true rfl), (Nat.le_of_ble_eq_true rfl)⟩) hV (fun r9 V9 H locs hp hV hle => ?_)
        obtain ⟨rfl, ⟨g_12, rfl, hO_g_12⟩, hz⟩ := hp
        replace hV := u_back hV hn [0, 1] rfl
        have hV : vS G.1 cls lo s H locs (vU V [(m, eO 8 [u0, u1, u2, u3, u4, u5, u6, u7, u8, u9, u10, u11, u12, u13, u14, u15, u16, u17, u18, .int (nI ((PB ++ [c] ++ [48 + (v / 100 % 10)] ++ [48 + (v / 10 % 10)] ++ [48 + (v % 10)]).length)), .ref oa]), (oa, eI (gI G) 5000 g_12)]) := hV
        have eB : PB ++ [c] ++ [48 + (v / 100 % 10)] ++ [48 + (v / 10 % 10)] ++ [48 + (v % 10)] = PB ++ pN c v := by unfold pN dgN; (repeat' split) <;> first | (exfalso; omega) | simp
        rw [eB] at hV hO_g_12
        exact W.vret hx hb hr (v_end hV ⟨rfl, ⟨_, rfl, hO_g_12⟩, hz⟩) hV.2.1.2.2 d_Mo_putNumber_75
  · replace c_2 : ¬ v ≤ 999 := fun z9 => c_2 ((nI_leI (a := v) (b := 999) (by omega) (by omega)).mpr z9)
    refine lv_aload_n hx hb d_Mo_putNumber_12 rfl (lv_at hl 0 rfl) ?_
    refine lv_bipush (v := 48) hx hb d_Mo_putNumber_13 (by decide) ?_
    refine lv_iload_n hx hb d_Mo_putNumber_15 rfl (lv_at hl 2 rfl) ?_
    refine lv_sipush (v := 1000) hx hb d_Mo_putNumber_16 (by decide) ?_
    refine e_idiv (v := nI (v / 1000)) hx hb d_Mo_putNumber_19 (by decide) (nI_div (b := 1000) (by omega) (by decide)) ?_
    refine e_iadd (v := nI (48 + (v / 1000))) hx hb d_Mo_putNumber_20 (nI_add 48 (v / 1000)) ?_
    refine v_call (va_runV (As := [.int (nI (48 + (v / 1000)))]) (rest := []) ⟨hx, hb, hml, hown, hts⟩ (c_Mo_put l G lo _ _ m oa u0 u1 u2 u3 u4 u5 u6 u7 u8 u9 u10 u11 u12 u13 u14 u15 u16 u17 u18 g_1 (PB ++ [c]) hn hO_g_1 (48 + (v / 1000)) (by (try simp only [List.length_append, List.length_singleton, List.length_cons, List.length_nil]); (repeat' split at hF) <;> omega)) (kwV 1 hts w_co_Mo_put rfl rfl w_it_Mo w_ml_Mo_180 w_im_Mo_put w_se_Mo__Mo_put (by decide +kernel) ⟨(Nat.le_of_ble_eq_true rfl), (Nat.le_of_ble_eq_true rfl)⟩) (u_preV hK hV hn [0, 1] rfl hz 0 rfl rfl) rfl rfl hl.1 rfl (lv_room (Nat.le_of_ble_eq_true rfl)) d_Mo_putNumber_21 ⟨(Nat.le_of_ble_eq_true rfl), (Nat.le_of_ble_eq_true rfl)⟩) hV (fun r9 V9 H locs hp hV hle => ?_)
    obtain ⟨rfl, ⟨g_13, rfl, hO_g_13⟩, hz⟩ := hp
    replace hV := u_back hV hn [0, 1] rfl
    have hV : vS G.1 cls lo s H locs (vU V [(m, eO 8 [u0, u1, u2, u3, u4, u5, u6, u7, u8, u9, u10, u11, u12, u13, u14, u15, u16, u17, u18, .int (nI ((PB ++ [c] ++ [48 + (v / 1000)]).length)), .ref oa]), (oa, eI (gI G) 5000 g_13)]) := hV
    refine lv_iload_n hx hb d_Mo_putNumber_24 rfl (lv_at hl 2 rfl) ?_
    refine lv_bipush (v := 99) hx hb d_Mo_putNumber_25 (by decide) ?_
    refine lv_icmp_le (tgt := 44) hx hb d_Mo_putNumber_27 (by decide) (fun c_14 => ?_) (fun c_14 => ?_)
    · replace c_14 : v ≤ 99 := (nI_leI (a := v) (b := 99) (by omega) (by omega)).mp c_14
      refine lv_iload_n hx hb d_Mo_putNumber_44 rfl (lv_at hl 2 rfl) ?_
      refine lv_bipush (v := 9) hx hb d_Mo_putNumber_45 (by decide) ?_
      refine lv_icmp_le (tgt := 64) hx hb d_Mo_putNumber_47 (by decide) (fun c_15 => ?_) (fun c_15 => ?_)
      · replace c_15 : v ≤ 9 := (nI_leI (a := v) (b := 9) (by omega) (by omega)).mp c_15
        refine lv_aload_n hx hb d_Mo_putNumber_64 rfl (lv_at hl 0 rfl) ?_
        refine lv_bipush (v := 48) hx hb d_Mo_putNumber_65 (by decide) ?_
        refine lv_iload_n hx hb d_Mo_putNumber_67 rfl (lv_at hl 2 rfl) ?_
        refine lv_bipush (v := 10) hx hb d_Mo_putNumber_68 (by decide) ?_
        refine e_irem (v := nI (v % 10)) hx hb d_Mo_putNumber_70 (by decide) (nI_rem (b := 10) (by omega) (by decide)) ?_
        refine e_iadd (v := nI (48 + (v % 10))) hx hb d_Mo_putNumber_71 (nI_add 48 (v % 10)) ?_
        refine v_call (va_runV (As := [.int (nI (48 + (v % 10)))]) (rest := []) ⟨hx, hb, hml, hown, hts⟩ (c_Mo_put l G lo _ _ m oa u0 u1 u2 u3 u4 u5 u6 u7 u8 u9 u10 u11 u12 u13 u14 u15 u16 u17 u18 g_13 (PB ++ [c] ++ [48 + (v / 1000)]) hn hO_g_13 (48 + (v % 10)) (by (try simp only [List.length_append, List.length_singleton, List.length_cons, List.length_nil]); (repeat' split at hF) <;> omega)) (kwV 1 hts w_co_Mo_put rfl rfl w_it_Mo w_ml_Mo_180 w_im_Mo_put w_se_Mo__Mo_put (by decide +kernel) ⟨(Nat.le_of_ble_eq_true rfl), (Nat.le_of_ble_eq_true rfl)⟩) (u_preV hK hV hn [0, 1] rfl hz 0 rfl rfl) rfl rfl hl.1 rfl (lv_room (Nat.le_of_ble_eq_true rfl)) d_Mo_putNumber_72 ⟨(Nat.le_of_ble_eq_true rfl), (Nat.le_of_ble_eq_true rfl)⟩) hV (fun r9 V9 H locs hp hV hle => ?_)
        obtain ⟨rfl, ⟨g_16, rfl, hO_g_16⟩, hz⟩ := hp
        replace hV := u_back hV hn [0, 1] rfl
        have hV : vS G.1 cls lo s H locs (vU V [(m, eO 8 [u0, u1, u2, u3, u4, u5, u6, u7, u8, u9, u10, u11, u12, u13, u14, u15, u16, u17, u18, .int (nI ((PB ++ [c] ++ [48 + (v / 1000)] ++ [48 + (v % 10)]).length)), .ref oa]), (oa, eI (gI G) 5000 g_16)]) := hV
        have eB : PB ++ [c] ++ [48 + (v / 1000)] ++ [48 + (v % 10)] = PB ++ pN c v := by unfold pN dgN; (repeat' split) <;> first | (exfalso; omega) | simp
        rw [eB] at hV hO_g_16
        exact W.vret hx hb hr (v_end hV ⟨rfl, ⟨_, rfl, hO_g_16⟩, hz⟩) hV.2.1.2.2 d_Mo_putNumber_75
      · replace c_15 : ¬ v ≤ 9 := fun z9 => c_15 ((nI_leI (a := v) (b := 9) (by omega) (by omega)).mpr z9)
        refine lv_aload_n hx hb d_Mo_putNumber_50 rfl (lv_at hl 0 rfl) ?_
        refine lv_bipush (v := 48) hx hb d_Mo_putNumber_51 (by decide) ?_
        refine lv_iload_n hx hb d_Mo_putNumber_53 rfl (lv_at hl 2 rfl) ?_
        refine lv_bipush (v := 10) hx hb d_Mo_putNumber_54 (by decide) ?_
        refine e_idiv (v := nI (v / 10)) hx hb d_Mo_putNumber_56 (by decide) (nI_div (b := 10) (by omega) (by decide)) ?_
        refine lv_bipush (v := 10) hx hb d_Mo_putNumber_57 (by decide) ?_
        refine e_irem (v := nI (v / 10 % 10)) hx hb d_Mo_putNumber_59 (by decide) (nI_rem (b := 10) (by omega) (by decide)) ?_
        refine e_iadd (v := nI (48 + (v / 10 % 10))) hx hb d_Mo_putNumber_60 (nI_add 48 (v / 10 % 10)) ?_
        refine v_call (va_runV (As := [.int (nI (48 + (v / 10 % 10)))]) (rest := []) ⟨hx, hb, hml, hown, hts⟩ (c_Mo_put l G lo _ _ m oa u0 u1 u2 u3 u4 u5 u6 u7 u8 u9 u10 u11 u12 u13 u14 u15 u16 u17 u18 g_13 (PB ++ [c] ++ [48 + (v / 1000)]) hn hO_g_13 (48 + (v / 10 % 10)) (by (try simp only [List.length_append, List.length_singleton, List.length_cons, List.length_nil]); (repeat' split at hF) <;> omega)) (kwV 1 hts w_co_Mo_put rfl rfl w_it_Mo w_ml_Mo_180 w_im_Mo_put w_se_Mo__Mo_put (by decide +kernel) ⟨(Nat.le_of_ble_eq_true rfl), (Nat.le_of_ble_eq_true rfl)⟩) (u_preV hK hV hn [0, 1] rfl hz 0 rfl rfl) rfl rfl hl.1 rfl (lv_room (Nat.le_of_ble_eq_true rfl)) d_Mo_putNumber_61 ⟨(Nat.le_of_ble_eq_true rfl), (Nat.le_of_ble_eq_true rfl)⟩) hV (fun r9 V9 H locs hp hV hle => ?_)
        obtain ⟨rfl, ⟨g_17, rfl, hO_g_17⟩, hz⟩ := hp
        replace hV := u_back hV hn [0, 1] rfl
        have hV : vS G.1 cls lo s H locs (vU V [(m, eO 8 [u0, u1, u2, u3, u4, u5, u6, u7, u8, u9, u10, u11, u12, u13, u14, u15, u16, u17, u18, .int (nI ((PB ++ [c] ++ [48 + (v / 1000)] ++ [48 + (v / 10 % 10)]).length)), .ref oa]), (oa, eI (gI G) 5000 g_17)]) := hV
        refine lv_aload_n hx hb d_Mo_putNumber_64 rfl (lv_at hl 0 rfl) ?_
        refine lv_bipush (v := 48) hx hb d_Mo_putNumber_65 (by decide) ?_
        refine lv_iload_n hx hb d_Mo_putNumber_67 rfl (lv_at hl 2 rfl) ?_
        refine lv_bipush (v := 10) hx hb d_Mo_putNumber_68 (by decide) ?_
        refine e_irem (v := nI (v % 10)) hx hb d_Mo_putNumber_70 (by decide) (nI_rem (b := 10) (by omega) (by decide)) ?_
        refine e_iadd (v := nI (48 + (v % 10))) hx hb d_Mo_putNumber_71 (nI_add 48 (v % 10)) ?_
        refine v_call (va_runV (As := [.int (nI (48 + (v % 10)))]) (rest := []) ⟨hx, hb, hml, hown, hts⟩ (c_Mo_put l G lo _ _ m oa u0 u1 u2 u3 u4 u5 u6 u7 u8 u9 u10 u11 u12 u13 u14 u15 u16 u17 u18 g_17 (PB ++ [c] ++ [48 + (v / 1000)] ++ [48 + (v / 10 % 10)]) hn hO_g_17 (48 + (v % 10)) (by (try simp only [List.length_append, List.length_singleton, List.length_cons, List.length_nil]); (repeat' split at hF) <;> omega)) (kwV 1 hts w_co_Mo_put rfl rfl w_it_Mo w_ml_Mo_180 w_im_Mo_put w_se_Mo__Mo_put (by decide +kernel) ⟨(Nat.le_of_ble_eq_true rfl), (Nat.le_of_ble_eq_true rfl)⟩) (u_preV hK hV hn [0, 1] rfl hz 0 rfl rfl) rfl rfl hl.1 rfl (lv_room (Nat.le_of_ble_eq_true rfl)) d_Mo_putNumber_72 ⟨(Nat.le_of_ble_eq_true rfl), (Nat.le_of_ble_eq_true rfl)⟩) hV (fun r9 V9 H locs hp hV hle => ?_)
        obtain ⟨rfl, ⟨g_18, rfl, hO_g_18⟩, hz⟩ := hp
        replace hV := u_back hV hn [0, 1] rfl
        have hV : vS G.1 cls lo s H locs (vU V [(m, eO 8 [u0, u1, u2, u3, u4, u5, u6, u7, u8, u9, u10, u11, u12, u13, u14, u15, u16, u17, u18, .int (nI ((PB ++ [c] ++ [48 + (v / 1000)] ++ [48 + (v / 10 % 10)] ++ [48 + (v % 10)]).length)), .ref oa]), (oa, eI (gI G) 5000 g_18)]) := hV
        have eB : PB ++ [c] ++ [48 + (v / 1000)] ++ [48 + (v / 10 % 10)] ++ [48 + (v % 10)] = PB ++ pN c v := by unfold pN dgN; (repeat' split) <;> first | (exfalso; omega) | simp
        rw [eB] at hV hO_g_18
        exact W.vret hx hb hr (v_end hV ⟨rfl, ⟨_, rfl, hO_g_18⟩, hz⟩) hV.2.1.2.2 d_Mo_putNumber_75
    · replace c_14 : ¬ v ≤ 99 := fun z9 => c_14 ((nI_leI (a := v) (b := 99) (by omega) (by omega)).mpr z9)
      refine lv_aload_n hx hb d_Mo_putNumber_30 rfl (lv_at hl 0 rfl) ?_
      refine lv_bipush (v := 48) hx hb d_Mo_putNumber_31 (by decide) ?_
      refine lv_iload_n hx hb d_Mo_putNumber_33 rfl (lv_at hl 2 rfl) ?_
      refine lv_bipush (v := 100) hx hb d_Mo_putNumber_34 (by decide) ?_
      refine e_idiv (v := nI (v / 100)) hx hb d_Mo_putNumber_36 (by decide) (nI_div (b := 100) (by omega) (by decide)) ?_
      refine lv_bipush (v := 10) hx hb d_Mo_putNumber_37 (by decide) ?_
      refine e_irem (v := nI (v / 100 % 10)) hx hb d_Mo_putNumber_39 (by decide) (nI_rem (b := 10) (by omega) (by decide)) ?_
      refine e_iadd (v := nI (48 + (v / 100 % 10))) hx hb d_Mo_putNumber_40 (nI_add 48 (v / 100 % 10)) ?_
      refine v_call (va_runV (As := [.int (nI (48 + (v / 100 % 10)))]) (rest := []) ⟨hx, hb, hml, hown, hts⟩ (c_Mo_put l G lo _ _ m oa u0 u1 u2 u3 u4 u5 u6 u7 u8 u9 u10 u11 u12 u13 u14 u15 u16 u17 u18 g_13 (PB ++ [c] ++ [48 + (v / 1000)]) hn hO_g_13 (48 + (v / 100 % 10)) (by (try simp only [List.length_append, List.length_singleton, List.length_cons, List.length_nil]); (repeat' split at hF) <;> omega)) (kwV 1 hts w_co_Mo_put rfl rfl w_it_Mo w_ml_Mo_180 w_im_Mo_put w_se_Mo__Mo_put (by decide +kernel) ⟨(Nat.le_of_ble_eq_true rfl), (Nat.le_of_ble_eq_true rfl)⟩) (u_preV hK hV hn [0, 1] rfl hz 0 rfl rfl) rfl rfl hl.1 rfl (lv_room (Nat.le_of_ble_eq_true rfl)) d_Mo_putNumber_41 ⟨(Nat.le_of_ble_eq_true rfl), (Nat.le_of_ble_eq_true rfl)⟩) hV (fun r9 V9 H locs hp hV hle => ?_)
      obtain ⟨rfl, ⟨g_19, rfl, hO_g_19⟩, hz⟩ := hp
      replace hV := u_back hV hn [0, 1] rfl
      have hV : vS G.1 cls lo s H locs (vU V [(m, eO 8 [u0, u1, u2, u3, u4, u5, u6, u7, u8, u9, u10, u11, u12, u13, u14, u15, u16, u17, u18, .int (nI ((PB ++ [c] ++ [48 + (v / 1000)] ++ [48 + (v / 100 % 10)]).length)), .ref oa]), (oa, eI (gI G) 5000 g_19)]) := hV
      refine lv_iload_n hx hb d_Mo_putNumber_44 rfl (lv_at hl 2 rfl) ?_
      refine lv_bipush (v := 9) hx hb d_Mo_putNumber_45 (by decide) ?_
      refine lv_icmp_le (tgt := 64) hx hb d_Mo_putNumber_47 (by decide) (fun c_20 => ?_) (fun c_20 => ?_)
      · replace c_20 : v ≤ 9 := (nI_leI (a := v) (b := 9) (by omega) (by omega)).mp c_20
        refine lv_aload_n hx hb d_Mo_putNumber_64 rfl (lv_at hl 0 rfl) ?_
        refine lv_bipush (v := 48) hx hb d_Mo_putNumber_65 (by decide) ?_
        refine lv_iload_n hx hb d_Mo_putNumber_67 rfl (lv_at hl 2 rfl) ?_
        refine lv_bipush (v := 10) hx hb d_Mo_putNumber_68 (by decide) ?_
        refine e_irem (v := nI (v % 10)) hx hb d_Mo_putNumber_70 (by decide) (nI_rem (b := 10) (by omega) (by decide)) ?_
        refine e_iadd (v := nI (48 + (v % 10))) hx hb d_Mo_putNumber_71 (nI_add 48 (v % 10)) ?_
        refine v_call (va_runV (As := [.int (nI (48 + (v % 10)))]) (rest := []) ⟨hx, hb, hml, hown, hts⟩ (c_Mo_put l G lo _ _ m oa u0 u1 u2 u3 u4 u5 u6 u7 u8 u9 u10 u11 u12 u13 u14 u15 u16 u17 u18 g_19 (PB ++ [c] ++ [48 + (v / 1000)] ++ [48 + (v / 100 % 10)]) hn hO_g_19 (48 + (v % 10)) (by (try simp only [List.length_append, List.length_singleton, List.length_cons, List.length_nil]); (repeat' split at hF) <;> omega)) (kwV 1 hts w_co_Mo_put rfl rfl w_it_Mo w_ml_Mo_180 w_im_Mo_put w_se_Mo__Mo_put (by decide +kernel) ⟨(Nat.le_of_ble_eq_true rfl), (Nat.le_of_ble_eq_true rfl)⟩) (u_preV hK hV hn [0, 1] rfl hz 0 rfl rfl) rfl rfl hl.1 rfl (lv_room (Nat.le_of_ble_eq_true rfl)) d_Mo_putNumber_72 ⟨(Nat.le_of_ble_eq_true rfl), (Nat.le_of_ble_eq_true rfl)⟩) hV (fun r9 V9 H locs hp hV hle => ?_)
        obtain ⟨rfl, ⟨g_21, rfl, hO_g_21⟩, hz⟩ := hp
        replace hV := u_back hV hn [0, 1] rfl
        have hV : vS G.1 cls lo s H locs (vU V [(m, eO 8 [u0, u1, u2, u3, u4, u5, u6, u7, u8, u9, u10, u11, u12, u13, u14, u15, u16, u17, u18, .int (nI ((PB ++ [c] ++ [48 + (v / 1000)] ++ [48 + (v / 100 % 10)] ++ [48 + (v % 10)]).length)), .ref oa]), (oa, eI (gI G) 5000 g_21)]) := hV
        have eB : PB ++ [c] ++ [48 + (v / 1000)] ++ [48 + (v / 100 % 10)] ++ [48 + (v % 10)] = PB ++ pN c v := by unfold pN dgN; (repeat' split) <;> first | (exfalso; omega) | simp
        rw [eB] at hV hO_g_21
        exact W.vret hx hb hr (v_end hV ⟨rfl, ⟨_, rfl, hO_g_21⟩, hz⟩) hV.2.1.2.2 d_Mo_putNumber_75
      · replace c_20 : ¬ v ≤ 9 := fun z9 => c_20 ((nI_leI (a := v) (b := 9) (by omega) (by omega)).mpr z9)
        refine lv_aload_n hx hb d_Mo_putNumber_50 rfl (lv_at hl 0 rfl) ?_
        refine lv_bipush (v := 48) hx hb d_Mo_putNumber_51 (by decide) ?_
        refine lv_iload_n hx hb d_Mo_putNumber_53 rfl (lv_at hl 2 rfl) ?_
        refine lv_bipush (v := 10) hx hb d_Mo_putNumber_54 (by decide) ?_
        refine e_idiv (v := nI (v / 10)) hx hb d_Mo_putNumber_56 (by decide) (nI_div (b := 10) (by omega) (by decide)) ?_
        refine lv_bipush (v := 10) hx hb d_Mo_putNumber_57 (by decide) ?_
        refine e_irem (v := nI (v / 10 % 10)) hx hb d_Mo_putNumber_59 (by decide) (nI_rem (b := 10) (by omega) (by decide)) ?_
        refine e_iadd (v := nI (48 + (v / 10 % 10))) hx hb d_Mo_putNumber_60 (nI_add 48 (v / 10 % 10)) ?_
        refine v_call (va_runV (As := [.int (nI (48 + (v / 10 % 10)))]) (rest := []) ⟨hx, hb, hml, hown, hts⟩ (c_Mo_put l G lo _ _ m oa u0 u1 u2 u3 u4 u5 u6 u7 u8 u9 u10 u11 u12 u13 u14 u15 u16 u17 u18 g_19 (PB ++ [c] ++ [48 + (v / 1000)] ++ [48 + (v / 100 % 10)]) hn hO_g_19 (48 + (v / 10 % 10)) (by (try simp only [List.length_append, List.length_singleton, List.length_cons, List.length_nil]); (repeat' split at hF) <;> omega)) (kwV 1 hts w_co_Mo_put rfl rfl w_it_Mo w_ml_Mo_180 w_im_Mo_put w_se_Mo__Mo_put (by decide +kernel) ⟨(Nat.le_of_ble_eq_true rfl), (Nat.le_of_ble_eq_true rfl)⟩) (u_preV hK hV hn [0, 1] rfl hz 0 rfl rfl) rfl rfl hl.1 rfl (lv_room (Nat.le_of_ble_eq_true rfl)) d_Mo_putNumber_61 ⟨(Nat.le_of_ble_eq_true rfl), (Nat.le_of_ble_eq_true rfl)⟩) hV (fun r9 V9 H locs hp hV hle => ?_)
        obtain ⟨rfl, ⟨g_22, rfl, hO_g_22⟩, hz⟩ := hp
        replace hV := u_back hV hn [0, 1] rfl
        have hV : vS G.1 cls lo s H locs (vU V [(m, eO 8 [u0, u1, u2, u3, u4, u5, u6, u7, u8, u9, u10, u11, u12, u13, u14, u15, u16, u17, u18, .int (nI ((PB ++ [c] ++ [48 + (v / 1000)] ++ [48 + (v / 100 % 10)] ++ [48 + (v / 10 % 10)]).length)), .ref oa]), (oa, eI (gI G) 5000 g_22)]) := hV
        refine lv_aload_n hx hb d_Mo_putNumber_64 rfl (lv_at hl 0 rfl) ?_
        refine lv_bipush (v := 48) hx hb d_Mo_putNumber_65 (by decide) ?_
        refine lv_iload_n hx hb d_Mo_putNumber_67 rfl (lv_at hl 2 rfl) ?_
        refine lv_bipush (v := 10) hx hb d_Mo_putNumber_68 (by decide) ?_
        refine e_irem (v := nI (v % 10)) hx hb d_Mo_putNumber_70 (by decide) (nI_rem (b := 10) (by omega) (by decide)) ?_
        refine e_iadd (v := nI (48 + (v % 10))) hx hb d_Mo_putNumber_71 (nI_add 48 (v % 10)) ?_
        refine v_call (va_runV (As := [.int (nI (48 + (v % 10)))]) (rest := []) ⟨hx, hb, hml, hown, hts⟩ (c_Mo_put l G lo _ _ m oa u0 u1 u2 u3 u4 u5 u6 u7 u8 u9 u10 u11 u12 u13 u14 u15 u16 u17 u18 g_22 (PB ++ [c] ++ [48 + (v / 1000)] ++ [48 + (v / 100 % 10)] ++ [48 + (v / 10 % 10)]) hn hO_g_22 (48 + (v % 10)) (by (try simp only [List.length_append, List.length_singleton, List.length_cons, List.length_nil]); (repeat' split at hF) <;> omega)) (kwV 1 hts w_co_Mo_put rfl rfl w_it_Mo w_ml_Mo_180 w_im_Mo_put w_se_Mo__Mo_put (by decide +kernel) ⟨(Nat.le_of_ble_eq_true rfl), (Nat.le_of_ble_eq_true rfl)⟩) (u_preV hK hV hn [0, 1] rfl hz 0 rfl rfl) rfl rfl hl.1 rfl (lv_room (Nat.le_of_ble_eq_true rfl)) d_Mo_putNumber_72 ⟨(Nat.le_of_ble_eq_true rfl), (Nat.le_of_ble_eq_true rfl)⟩) hV (fun r9 V9 H locs hp hV hle => ?_)
        obtain ⟨rfl, ⟨g_23, rfl, hO_g_23⟩, hz⟩ := hp
        replace hV := u_back hV hn [0, 1] rfl
        have hV : vS G.1 cls lo s H locs (vU V [(m, eO 8 [u0, u1, u2, u3, u4, u5, u6, u7, u8, u9, u10, u11, u12, u13, u14, u15, u16, u17, u18, .int (nI ((PB ++ [c] ++ [48 + (v / 1000)] ++ [48 + (v / 100 % 10)] ++ [48 + (v / 10 % 10)] ++ [48 + (v % 10)]).length)), .ref oa]), (oa, eI (gI G) 5000 g_23)]) := hV
        have eB : PB ++ [c] ++ [48 + (v / 1000)] ++ [48 + (v / 100 % 10)] ++ [48 + (v / 10 % 10)] ++ [48 + (v % 10)] = PB ++ pN c v := by unfold pN dgN; (repeat' split) <;> first | (exfalso; omega) | simp
        rw [eB] at hV hO_g_23
        exact W.vret hx hb hr (v_end hV ⟨rfl, ⟨_, rfl, hO_g_23⟩, hz⟩) hV.2.1.2.2 d_Mo_putNumber_75

set_option maxHeartbeats 4000000 in
set_option maxRecDepth 100000 in
/-- printPiece -/
theorem c_Mo_printPiece (l : Launch) (G : Gx) (lo : Nat) (V : Vw) (sz : Nat) (m oa pa : Nat) (u0 u1 u2 u3 u5 u6 u7 u8 u9 u10 u11 u12 u13 u14 u15 u16 u17 u18 : Value) (fo : Nat → Int32) (PB : List Nat) (P : Nat → Int32) (R : PcR) (hn : [m, oa, pa].Nodup) (hO : prOk fo PB) (j : Nat) (hj1 : 1 ≤ j) (hj2 : j ≤ 60) (hR : mpR P (29 * j) R) (hRv : pcV R) (hF : PB.length + (prPc j R).length ≤ 5000) : Met l y_Mo_printPiece ws_Mo_printPiece ({ frames := 2, cells := 0, slots := 0, locals := 60 } : Room) (vPre G lo [.ref m, .int (nI j)] (vU V [(m, eO 8 [u0, u1, u2, u3, .ref pa, u5, u6, u7, u8, u9, u10, u11, u12, u13, u14, u15, u16, u17, u18, .int (nI PB.length), .ref oa]), (oa, eI (gI G) 5000 fo), (pa, eI (gI G) 1769 P)]) sz) (vPost G lo (fun r V' k => r = none ∧ (∃ f1 : Nat → Int32, V' = vU V [(m, eO 8 [u0, u1, u2, u3, .ref pa, u5, u6, u7, u8, u9, u10, u11, u12, u13, u14, u15, u16, u17, u18, .int (nI ((PB ++ prPc j R).length)), .ref oa]), (oa, eI (gI G) 5000 f1), (pa, eI (gI G) 1769 P)] ∧ prOk f1 (PB ++ prPc j R)) ∧ k = sz)) 0 0 (vL lo) := by
  refine vMet (R := RMo) (by decide) rfl (Nat.le_of_ble_eq_true rfl) ?_
  intro pg ev s mi args below meth cd hx hb hr hml hlk hnm hts hown hK hz hV ls hl
  have hl : lv_has ls 5 [(0, .ref m), (1, .int (nI j))] := hl
  have hV0 := hV
  obtain ⟨H, hH⟩ : ∃ H, H = s.heap := ⟨_, rfl⟩
  obtain ⟨locs, hlocs⟩ : ∃ locs : List Loc, locs = [] := ⟨_, rfl⟩
  rw [← hH, ← hlocs]
  rw [← hH] at hz
  replace hV : vS G.1 cls lo s H locs (vU V [(m, eO 8 [u0, u1, u2, u3, .ref pa, u5, u6, u7, u8, u9, u10, u11, u12, u13, u14, u15, u16, u17, u18, .int (nI PB.length), .ref oa]), (oa, eI (gI G) 5000 fo), (pa, eI (gI G) 1769 P)]) := by rw [hH, hlocs]; exact hV
  clear hH hlocs hV0
  obtain ⟨r0, r1, r2, r3, r4, r5, r6, r7, rh, r17, r18, r19, r20, rl⟩ := hR
  obtain ⟨⟨z1, z2, z3_, z4⟩, ⟨z5, z6, z7, z8, z9⟩, ⟨z10, z11⟩, ⟨z12, z13⟩, z14⟩ := id hRv
  have hnl := nm_len z14
  have b359 : ∀ (P9 : List Nat) (fo : Nat → Int32), (prOk fo (P9)) → (P9 ++ [59] = PB ++ prPc j R) → ∀ (H : Heap) (locs : List Loc) (ls : Array Slot), H.size = sz → vS G.1 cls lo s H locs (vU V [(m, eO 8 [u0, u1, u2, u3, .ref pa, u5, u6, u7, u8, u9, u10, u11, u12, u13, u14, u15, u16, u17, u18, .int (nI P9.length), .ref oa]), (oa, eI (gI G) 5000 fo), (pa, eI (gI G) 1769 P)]) → lv_has ls 5 [(0, .ref m), (1, .int (nI j)), (2, .int (nI (29 * j))), (3, .int (nI R.2.1.2.1))] → W pg l ev ({ frames := 2, cells := 0, slots := 0, locals := 60 } : Room) s mi args below meth cd H locs 0 0 (MQ below (vPost G lo (fun r V' k => r = none ∧ (∃ f1 : Nat → Int32, V' = vU V [(m, eO 8 [u0, u1, u2, u3, .ref pa, u5, u6, u7, u8, u9, u10, u11, u12, u13, u14, u15, u16, u17, u18, .int (nI ((PB ++ prPc j R).length)), .ref oa]), (oa, eI (gI G) 5000 f1), (pa, eI (gI G) 1769 P)] ∧ prOk f1 (PB ++ prPc j R)) ∧ k = sz)) args s 0 0 (vL lo)) (F0 mi 359 ls []) := by
    intro P9 fo  hO he H locs ls hz hV hl
    refine lv_aload_n hx hb d_Mo_printPiece_359 rfl (lv_at hl 0 rfl) ?_
    refine lv_bipush (v := 59) hx hb d_Mo_printPiece_360 (by decide) ?_
    refine v_call (va_runV (As := [.int 59]) (rest := []) ⟨hx, hb, hml, hown, hts⟩ (c_Mo_put l G lo _ _ m oa u0 u1 u2 u3 (.ref pa) u5 u6 u7 u8 u9 u10 u11 u12 u13 u14 u15 u16 u17 u18 fo P9 (nd_sub hn [0, 1] (by decide) rfl) hO 59 (by have hl9 := congrArg List.length he; simp only [List.length_append, List.length_singleton, List.length_cons, List.length_nil] at hl9 ⊢; omega)) (kwV 1 hts w_co_Mo_put rfl rfl w_it_Mo w_ml_Mo_180 w_im_Mo_put w_se_Mo__Mo_put (by decide +kernel) ⟨(Nat.le_of_ble_eq_true rfl), (Nat.le_of_ble_eq_true rfl)⟩) (u_preV hK hV hn [0, 1] rfl hz 0 rfl rfl) rfl rfl hl.1 rfl (lv_room (Nat.le_of_ble_eq_true rfl)) d_Mo_printPiece_362 ⟨(Nat.le_of_ble_eq_true rfl), (Nat.le_of_ble_eq_true rfl)⟩) hV (fun r9 V9 H locs hp hV hle => ?_)
    obtain ⟨rfl, ⟨g_1, rfl, hO_g_1⟩, hz⟩ := hp
    replace hV := u_back hV hn [0, 1] rfl
    have hV : vS G.1 cls lo s H locs (vU V [(m, eO 8 [u0, u1, u2, u3, .ref pa, u5, u6, u7, u8, u9, u10, u11, u12, u13, u14, u15, u16, u17, u18, .int (nI ((P9 ++ [59]).length)), .ref oa]), (oa, eI (gI G) 5000 g_1), (pa, eI (gI G) 1769 P)]) := hV
    rw [he] at hV hO_g_1
    exact W.vret hx hb hr (v_end hV ⟨rfl, ⟨_, rfl, hO_g_1⟩, hz⟩) hV.2.1.2.2 d_Mo_printPiece_365
  have b281 : ∀ (P9 : List Nat) (fo : Nat → Int32), (prOk fo (P9)) → (P9 ++ (prNm R.2.2.2.2 ++ [59]) = PB ++ prPc j R) → ∀ (H : Heap) (locs : List Loc) (ls : Array Slot), H.size = sz → vS G.1 cls lo s H locs (vU V [(m, eO 8 [u0, u1, u2, u3, .ref pa, u5, u6, u7, u8, u9, u10, u11, u12, u13, u14, u15, u16, u17, u18, .int (nI P9.length), .ref oa]), (oa, eI (gI G) 5000 fo), (pa, eI (gI G) 1769 P)]) → lv_has ls 5 [(0, .ref m), (1, .int (nI j)), (2, .int (nI (29 * j))), (3, .int (nI R.2.1.2.1))] → W pg l ev ({ frames := 2, cells := 0, slots := 0, locals := 60 } : Room) s mi args below meth cd H locs 0 0 (MQ below (vPost G lo (fun r V' k => r = none ∧ (∃ f1 : Nat → Int32, V' = vU V [(m, eO 8 [u0, u1, u2, u3, .ref pa, u5, u6, u7, u8, u9, u10, u11, u12, u13, u14, u15, u16, u17, u18, .int (nI ((PB ++ prPc j R).length)), .ref oa]), (oa, eI (gI G) 5000 f1), (pa, eI (gI G) 1769 P)] ∧ prOk f1 (PB ++ prPc j R)) ∧ k = sz)) args s 0 0 (vL lo)) (F0 mi 281 ls []) := by
    intro P9 fo  hO he H locs ls hz hV hl
    refine lv_aload_n hx hb d_Mo_printPiece_281 rfl (lv_at hl 0 rfl) ?_
    refine u_get hx hb hts inMo hown hK hV hn 0 rfl rfl 4 (by decide) w_fl_Mo_17 rfl rfl d_Mo_printPiece_282 ?_
    refine lv_iload_n hx hb d_Mo_printPiece_285 rfl (lv_at hl 2 rfl) ?_
    refine lv_bipush (v := 20) hx hb d_Mo_printPiece_286 (by decide) ?_
    refine e_iadd (v := nI (29 * j + 20)) hx hb d_Mo_printPiece_288 (nI_add (29 * j) 20) ?_
    refine u_ialdN hx hb hK hV hn 2 rfl (by omega) (by decide) d_Mo_printPiece_289 ?_
    rw [r20]
    refine lv_if_le (tgt := 359) hx hb d_Mo_printPiece_290 (by decide) (fun c_2 => ?_) (fun c_2 => ?_)
    · replace c_2 : (nmL R.2.2.2.2).length ≤ 0 := (nI_leI (a := (nmL R.2.2.2.2).length) (b := 0) (by omega) (by omega)).mp c_2
      rw [prNm_0 (o := R.2.2.2.2) (by omega) z14, List.nil_append] at he
      exact b359 (P9) fo hO (by rw [← he] <;> simp only [List.append_assoc, List.cons_append, List.nil_append]) H locs ls hz hV (lv_sub hl [0, 1, 2, 3] rfl)
    · replace c_2 : ¬ (nmL R.2.2.2.2).length ≤ 0 := fun z9 => c_2 ((nI_leI (a := (nmL R.2.2.2.2).length) (b := 0) (by omega) (by omega)).mpr z9)
      obtain ⟨ls0, ar, hNm⟩ := prNm_1 (o := R.2.2.2.2) (by omega)
      have eL : nmL R.2.2.2.2 = ls0 := by rw [hNm]; rfl
      have eA : nmA R.2.2.2.2 = nI ar := by rw [hNm]; rfl
      rw [hNm] at he
      have hv9 := z14
      rw [hNm] at hv9
      have har : ar ≤ 9 := hv9.2.2.2
      rw [eL] at r20 rl hnl
      rw [eA] at r19
      simp only [prNm, List.cons_append, List.append_assoc] at he
      refine lv_aload_n hx hb d_Mo_printPiece_293 rfl (lv_at hl 0 rfl) ?_
      refine lv_bipush (v := 34) hx hb d_Mo_printPiece_294 (by decide) ?_
      refine v_call (va_runV (As := [.int 34]) (rest := []) ⟨hx, hb, hml, hown, hts⟩ (c_Mo_put l G lo _ _ m oa u0 u1 u2 u3 (.ref pa) u5 u6 u7 u8 u9 u10 u11 u12 u13 u14 u15 u16 u17 u18 fo P9 (nd_sub hn [0, 1] (by decide) rfl) hO 34 (by have hl9 := congrArg List.length he; simp only [List.length_append, List.length_singleton, List.length_cons, List.length_nil] at hl9 ⊢; omega)) (kwV 1 hts w_co_Mo_put rfl rfl w_it_Mo w_ml_Mo_180 w_im_Mo_put w_se_Mo__Mo_put (by decide +kernel) ⟨(Nat.le_of_ble_eq_true rfl), (Nat.le_of_ble_eq_true rfl)⟩) (u_preV hK hV hn [0, 1] rfl hz 0 rfl rfl) rfl rfl hl.1 rfl (lv_room (Nat.le_of_ble_eq_true rfl)) d_Mo_printPiece_296 ⟨(Nat.le_of_ble_eq_true rfl), (Nat.le_of_ble_eq_true rfl)⟩) hV (fun r9 V9 H locs hp hV hle => ?_)
      obtain ⟨rfl, ⟨g_3, rfl, hO_g_3⟩, hz⟩ := hp
      replace hV := u_back hV hn [0, 1] rfl
      have hV : vS G.1 cls lo s H locs (vU V [(m, eO 8 [u0, u1, u2, u3, .ref pa, u5, u6, u7, u8, u9, u10, u11, u12, u13, u14, u15, u16, u17, u18, .int (nI ((P9 ++ [34]).length)), .ref oa]), (oa, eI (gI G) 5000 g_3), (pa, eI (gI G) 1769 P)]) := hV
      refine lv_iconst (v := 0) hx hb d_Mo_printPiece_299 (by decide) ?_
      refine lv_istore (lv' := [(4, .int 0), (0, .ref m), (1, .int (nI j)), (2, .int (nI (29 * j))), (3, .int (nI R.2.1.2.1))]) hx hb d_Mo_printPiece_300 hl (by decide) rfl (fun ls hl => ?_)
      have lloop : ∀ (k : Nat) (i : Nat) (fo : Nat → Int32), ls0.length - i < k → (i ≤ ls0.length) → (prOk fo (P9 ++ [34] ++ ls0.take i)) → ∀ (H : Heap) (locs : List Loc) (ls : Array Slot), H.size = sz → vS G.1 cls lo s H locs (vU V [(m, eO 8 [u0, u1, u2, u3, .ref pa, u5, u6, u7, u8, u9, u10, u11, u12, u13, u14, u15, u16, u17, u18, .int (nI ((P9 ++ [34] ++ ls0.take i).length)), .ref oa]), (oa, eI (gI G) 5000 fo), (pa, eI (gI G) 1769 P)]) → lv_has ls 5 [(0, .ref m), (1, .int (nI j)), (2, .int (nI (29 * j))), (3, .int (nI R.2.1.2.1)), (4, .int (nI i))] → W pg l ev ({ frames := 2, cells := 0, slots := 0, locals := 60 } : Room) s mi args below meth cd H locs 0 0 (MQ below (vPost G lo (fun r V' k => r = none ∧ (∃ f1 : Nat → Int32, V' = vU V [(m, eO 8 [u0, u1, u2, u3, .ref pa, u5, u6, u7, u8, u9, u10, u11, u12, u13, u14, u15, u16, u17, u18, .int (nI ((PB ++ prPc j R).length)), .ref oa]), (oa, eI (gI G) 5000 f1), (pa, eI (gI G) 1769 P)] ∧ prOk f1 (PB ++ prPc j R)) ∧ k = sz)) args s 0 0 (vL lo)) (F0 mi 302 ls []) := by
        intro k
        induction k with
        | zero => intro i fo hk; exact absurd hk (by omega)
        | succ k ih =>
          intro i fo hk hi hO H locs ls hz hV hl
          refine lv_iload hx hb d_Mo_printPiece_302 (lv_at hl 4 rfl) ?_
          refine lv_aload_n hx hb d_Mo_printPiece_304 rfl (lv_at hl 0 rfl) ?_
          refine u_get hx hb hts inMo hown hK hV hn 0 rfl rfl 4 (by decide) w_fl_Mo_17 rfl rfl d_Mo_printPiece_305 ?_
          refine lv_iload_n hx hb d_Mo_printPiece_308 rfl (lv_at hl 2 rfl) ?_
          refine lv_bipush (v := 20) hx hb d_Mo_printPiece_309 (by decide) ?_
          refine e_iadd (v := nI (29 * j + 20)) hx hb d_Mo_printPiece_311 (nI_add (29 * j) 20) ?_
          refine u_ialdN hx hb hK hV hn 2 rfl (by omega) (by decide) d_Mo_printPiece_312 ?_
          rw [r20]
          refine lv_icmp_ge (tgt := 338) hx hb d_Mo_printPiece_313 (by decide) (fun c_4 => ?_) (fun c_4 => ?_)
          · replace c_4 : ls0.length ≤ i := (nI_leI (a := ls0.length) (b := i) (by omega) (by omega)).mp c_4
            rw [show ls0.take i = ls0 from List.take_of_length_le (by omega)] at hV hO
            refine lv_aload_n hx hb d_Mo_printPiece_338 rfl (lv_at hl 0 rfl) ?_
            refine lv_bipush (v := 34) hx hb d_Mo_printPiece_339 (by decide) ?_
            refine v_call (va_runV (As := [.int 34]) (rest := []) ⟨hx, hb, hml, hown, hts⟩ (c_Mo_put l G lo _ _ m oa u0 u1 u2 u3 (.ref pa) u5 u6 u7 u8 u9 u10 u11 u12 u13 u14 u15 u16 u17 u18 fo (P9 ++ [34] ++ ls0) (nd_sub hn [0, 1] (by decide) rfl) hO 34 (by have hl9 := congrArg List.length he; simp only [List.length_append, List.length_singleton, List.length_cons, List.length_nil] at hl9 ⊢; omega)) (kwV 1 hts w_co_Mo_put rfl rfl w_it_Mo w_ml_Mo_180 w_im_Mo_put w_se_Mo__Mo_put (by decide +kernel) ⟨(Nat.le_of_ble_eq_true rfl), (Nat.le_of_ble_eq_true rfl)⟩) (u_preV hK hV hn [0, 1] rfl hz 0 rfl rfl) rfl rfl hl.1 rfl (lv_room (Nat.le_of_ble_eq_true rfl)) d_Mo_printPiece_341 ⟨(Nat.le_of_ble_eq_true rfl), (Nat.le_of_ble_eq_true rfl)⟩) hV (fun r9 V9 H locs hp hV hle => ?_)
            obtain ⟨rfl, ⟨g_5, rfl, hO_g_5⟩, hz⟩ := hp
            replace hV := u_back hV hn [0, 1] rfl
            have hV : vS G.1 cls lo s H locs (vU V [(m, eO 8 [u0, u1, u2, u3, .ref pa, u5, u6, u7, u8, u9, u10, u11, u12, u13, u14, u15, u16, u17, u18, .int (nI ((P9 ++ [34] ++ ls0 ++ [34]).length)), .ref oa]), (oa, eI (gI G) 5000 g_5), (pa, eI (gI G) 1769 P)]) := hV
            refine lv_aload_n hx hb d_Mo_printPiece_344 rfl (lv_at hl 0 rfl) ?_
            refine lv_bipush (v := 35) hx hb d_Mo_printPiece_345 (by decide) ?_
            refine lv_aload_n hx hb d_Mo_printPiece_347 rfl (lv_at hl 0 rfl) ?_
            refine u_get hx hb hts inMo hown hK hV hn 0 rfl rfl 4 (by decide) w_fl_Mo_17 rfl rfl d_Mo_printPiece_348 ?_
            refine lv_iload_n hx hb d_Mo_printPiece_351 rfl (lv_at hl 2 rfl) ?_
            refine lv_bipush (v := 19) hx hb d_Mo_printPiece_352 (by decide) ?_
            refine e_iadd (v := nI (29 * j + 19)) hx hb d_Mo_printPiece_354 (nI_add (29 * j) 19) ?_
            refine u_ialdN hx hb hK hV hn 2 rfl (by omega) (by decide) d_Mo_printPiece_355 ?_
            rw [r19]
            refine v_call (va_runV (As := [.int 35, .int (nI ar)]) (rest := []) ⟨hx, hb, hml, hown, hts⟩ (c_Mo_putNumber l G lo _ _ m oa u0 u1 u2 u3 (.ref pa) u5 u6 u7 u8 u9 u10 u11 u12 u13 u14 u15 u16 u17 u18 g_5 (P9 ++ [34] ++ ls0 ++ [34]) (nd_sub hn [0, 1] (by decide) rfl) hO_g_5 35 ar (by omega) (by have hl9 := congrArg List.length he; simp only [List.length_append, List.length_singleton, List.length_cons, List.length_nil] at hl9 ⊢; omega)) (kwV 2 hts w_co_Mo_putNumber rfl rfl w_it_Mo w_ml_Mo_183 w_im_Mo_putNumber w_se_Mo__Mo_putNumber (by decide +kernel) ⟨(Nat.le_of_ble_eq_true rfl), (Nat.le_of_ble_eq_true rfl)⟩) (u_preV hK hV hn [0, 1] rfl hz 0 rfl rfl) rfl rfl hl.1 rfl (lv_room (Nat.le_of_ble_eq_true rfl)) d_Mo_printPiece_356 ⟨(Nat.le_of_ble_eq_true rfl), (Nat.le_of_ble_eq_true rfl)⟩) hV (fun r9 V9 H locs hp hV hle => ?_)
            obtain ⟨rfl, ⟨g_6, rfl, hO_g_6⟩, hz⟩ := hp
            replace hV := u_back hV hn [0, 1] rfl
            have hV : vS G.1 cls lo s H locs (vU V [(m, eO 8 [u0, u1, u2, u3, .ref pa, u5, u6, u7, u8, u9, u10, u11, u12, u13, u14, u15, u16, u17, u18, .int (nI ((P9 ++ [34] ++ ls0 ++ [34] ++ pN 35 ar).length)), .ref oa]), (oa, eI (gI G) 5000 g_6), (pa, eI (gI G) 1769 P)]) := hV
            exact b359 (P9 ++ [34] ++ ls0 ++ [34] ++ pN 35 ar) g_6 hO_g_6 (by rw [← he] <;> simp only [List.append_assoc, List.cons_append, List.nil_append]) H locs ls hz hV (lv_sub hl [0, 1, 2, 3] rfl)
          · replace c_4 : ¬ ls0.length ≤ i := fun z9 => c_4 ((nI_leI (a := ls0.length) (b := i) (by omega) (by omega)).mpr z9)
            have hlt9 : (ls0.take i).length ≤ i := List.length_take_le _ _
            refine lv_aload_n hx hb d_Mo_printPiece_316 rfl (lv_at hl 0 rfl) ?_
            refine lv_aload_n hx hb d_Mo_printPiece_317 rfl (lv_at hl 0 rfl) ?_
            refine u_get hx hb hts inMo hown hK hV hn 0 rfl rfl 4 (by decide) w_fl_Mo_17 rfl rfl d_Mo_printPiece_318 ?_
            refine lv_iload_n hx hb d_Mo_printPiece_321 rfl (lv_at hl 2 rfl) ?_
            refine lv_bipush (v := 21) hx hb d_Mo_printPiece_322 (by decide) ?_
            refine e_iadd (v := nI (29 * j + 21)) hx hb d_Mo_printPiece_324 (nI_add (29 * j) 21) ?_
            refine lv_iload hx hb d_Mo_printPiece_325 (lv_at hl 4 rfl) ?_
            refine e_iadd (v := nI (29 * j + 21 + i)) hx hb d_Mo_printPiece_327 (nI_add (29 * j + 21) i) ?_
            refine u_ialdN hx hb hK hV hn 2 rfl (by omega) (by decide) d_Mo_printPiece_328 ?_
            rw [rl i (by omega)]
            refine v_call (va_runV (As := [.int (nI (ls0.getD i 0))]) (rest := []) ⟨hx, hb, hml, hown, hts⟩ (c_Mo_put l G lo _ _ m oa u0 u1 u2 u3 (.ref pa) u5 u6 u7 u8 u9 u10 u11 u12 u13 u14 u15 u16 u17 u18 fo (P9 ++ [34] ++ ls0.take i) (nd_sub hn [0, 1] (by decide) rfl) hO (ls0.getD i 0) (by have hl9 := congrArg List.length he; simp only [List.length_append, List.length_singleton, List.length_cons, List.length_nil] at hl9 ⊢; omega)) (kwV 1 hts w_co_Mo_put rfl rfl w_it_Mo w_ml_Mo_180 w_im_Mo_put w_se_Mo__Mo_put (by decide +kernel) ⟨(Nat.le_of_ble_eq_true rfl), (Nat.le_of_ble_eq_true rfl)⟩) (u_preV hK hV hn [0, 1] rfl hz 0 rfl rfl) rfl rfl hl.1 rfl (lv_room (Nat.le_of_ble_eq_true rfl)) d_Mo_printPiece_329 ⟨(Nat.le_of_ble_eq_true rfl), (Nat.le_of_ble_eq_true rfl)⟩) hV (fun r9 V9 H locs hp hV hle => ?_)
            obtain ⟨rfl, ⟨g_7, rfl, hO_g_7⟩, hz⟩ := hp
            replace hV := u_back hV hn [0, 1] rfl
            have hV : vS G.1 cls lo s H locs (vU V [(m, eO 8 [u0, u1, u2, u3, .ref pa, u5, u6, u7, u8, u9, u10, u11, u12, u13, u14, u15, u16, u17, u18, .int (nI ((P9 ++ [34] ++ ls0.take i ++ [ls0.getD i 0]).length)), .ref oa]), (oa, eI (gI G) 5000 g_7), (pa, eI (gI G) 1769 P)]) := hV
            refine lv_iinc (v := nI (i + 1)) (lv' := [(4, .int (nI (i + 1))), (0, .ref m), (1, .int (nI j)), (2, .int (nI (29 * j))), (3, .int (nI R.2.1.2.1))]) hx hb d_Mo_printPiece_332 hl (k := 4) rfl (nI_add i 1) (by decide) rfl (fun ls hl => ?_)
            refine lv_goto (tgt := 302) hx hb d_Mo_printPiece_335 (by decide) ?_
            have eT : P9 ++ [34] ++ ls0.take i ++ [ls0.getD i 0] = P9 ++ [34] ++ ls0.take (i + 1) := by rw [List.append_assoc, take_getD (by omega)]
            rw [eT] at hV hO_g_7
            exact ih (i + 1) g_7 (by omega) (by omega) hO_g_7 H locs ls hz hV (lv_sub hl [1, 2, 3, 4, 0] rfl)
      rw [show P9 ++ [34] = P9 ++ [34] ++ ls0.take 0 by simp] at hV hO_g_3
      exact lloop (ls0.length + 1) 0 g_3 (by omega) (by omega) hO_g_3 H locs ls hz hV (lv_sub hl [1, 2, 3, 4, 0] rfl)
  have b254 : ∀ (P9 : List Nat) (fo : Nat → Int32), (prOk fo (P9)) → (P9 ++ (prLm 33 R.2.2.2.1.2 ++ (prNm R.2.2.2.2 ++ [59])) = PB ++ prPc j R) → ∀ (H : Heap) (locs : List Loc) (ls : Array Slot), H.size = sz → vS G.1 cls lo s H locs (vU V [(m, eO 8 [u0, u1, u2, u3, .ref pa, u5, u6, u7, u8, u9, u10, u11, u12, u13, u14, u15, u16, u17, u18, .int (nI P9.length), .ref oa]), (oa, eI (gI G) 5000 fo), (pa, eI (gI G) 1769 P)]) → lv_has ls 5 [(0, .ref m), (1, .int (nI j)), (2, .int (nI (29 * j))), (3, .int (nI R.2.1.2.1))] → W pg l ev ({ frames := 2, cells := 0, slots := 0, locals := 60 } : Room) s mi args below meth cd H locs 0 0 (MQ below (vPost G lo (fun r V' k => r = none ∧ (∃ f1 : Nat → Int32, V' = vU V [(m, eO 8 [u0, u1, u2, u3, .ref pa, u5, u6, u7, u8, u9, u10, u11, u12, u13, u14, u15, u16, u17, u18, .int (nI ((PB ++ prPc j R).length)), .ref oa]), (oa, eI (gI G) 5000 f1), (pa, eI (gI G) 1769 P)] ∧ prOk f1 (PB ++ prPc j R)) ∧ k = sz)) args s 0 0 (vL lo)) (F0 mi 254 ls []) := by
    intro P9 fo  hO he H locs ls hz hV hl
    refine lv_aload_n hx hb d_Mo_printPiece_254 rfl (lv_at hl 0 rfl) ?_
    refine u_get hx hb hts inMo hown hK hV hn 0 rfl rfl 4 (by decide) w_fl_Mo_17 rfl rfl d_Mo_printPiece_255 ?_
    refine lv_iload_n hx hb d_Mo_printPiece_258 rfl (lv_at hl 2 rfl) ?_
    refine lv_bipush (v := 18) hx hb d_Mo_printPiece_259 (by decide) ?_
    refine e_iadd (v := nI (29 * j + 18)) hx hb d_Mo_printPiece_261 (nI_add (29 * j) 18) ?_
    refine u_ialdN hx hb hK hV hn 2 rfl (by omega) (by decide) d_Mo_printPiece_262 ?_
    rw [r18]
    refine lv_if_le (tgt := 281) hx hb d_Mo_printPiece_263 (by decide) (fun c_8 => ?_) (fun c_8 => ?_)
    · replace c_8 : R.2.2.2.1.2 ≤ 0 := (nI_leI (a := R.2.2.2.1.2) (b := 0) (by omega) (by omega)).mp c_8
      rw [show prLm 33 R.2.2.2.1.2 = [] from if_pos (by omega), List.nil_append] at he
      exact b281 (P9) fo hO (by rw [← he] <;> simp only [List.append_assoc, List.cons_append, List.nil_append]) H locs ls hz hV (lv_sub hl [0, 1, 2, 3] rfl)
    · replace c_8 : ¬ R.2.2.2.1.2 ≤ 0 := fun z9 => c_8 ((nI_leI (a := R.2.2.2.1.2) (b := 0) (by omega) (by omega)).mpr z9)
      rw [show prLm 33 R.2.2.2.1.2 = pN 33 R.2.2.2.1.2 from if_neg (by omega)] at he
      refine lv_aload_n hx hb d_Mo_printPiece_266 rfl (lv_at hl 0 rfl) ?_
      refine lv_bipush (v := 33) hx hb d_Mo_printPiece_267 (by decide) ?_
      refine lv_aload_n hx hb d_Mo_printPiece_269 rfl (lv_at hl 0 rfl) ?_
      refine u_get hx hb hts inMo hown hK hV hn 0 rfl rfl 4 (by decide) w_fl_Mo_17 rfl rfl d_Mo_printPiece_270 ?_
      refine lv_iload_n hx hb d_Mo_printPiece_273 rfl (lv_at hl 2 rfl) ?_
      refine lv_bipush (v := 18) hx hb d_Mo_printPiece_274 (by decide) ?_
      refine e_iadd (v := nI (29 * j + 18)) hx hb d_Mo_printPiece_276 (nI_add (29 * j) 18) ?_
      refine u_ialdN hx hb hK hV hn 2 rfl (by omega) (by decide) d_Mo_printPiece_277 ?_
      rw [r18]
      refine v_call (va_runV (As := [.int 33, .int (nI R.2.2.2.1.2)]) (rest := []) ⟨hx, hb, hml, hown, hts⟩ (c_Mo_putNumber l G lo _ _ m oa u0 u1 u2 u3 (.ref pa) u5 u6 u7 u8 u9 u10 u11 u12 u13 u14 u15 u16 u17 u18 fo P9 (nd_sub hn [0, 1] (by decide) rfl) hO 33 R.2.2.2.1.2 (by omega) (by have hl9 := congrArg List.length he; simp only [List.length_append, List.length_singleton, List.length_cons, List.length_nil] at hl9 ⊢; omega)) (kwV 2 hts w_co_Mo_putNumber rfl rfl w_it_Mo w_ml_Mo_183 w_im_Mo_putNumber w_se_Mo__Mo_putNumber (by decide +kernel) ⟨(Nat.le_of_ble_eq_true rfl), (Nat.le_of_ble_eq_true rfl)⟩) (u_preV hK hV hn [0, 1] rfl hz 0 rfl rfl) rfl rfl hl.1 rfl (lv_room (Nat.le_of_ble_eq_true rfl)) d_Mo_printPiece_278 ⟨(Nat.le_of_ble_eq_true rfl), (Nat.le_of_ble_eq_true rfl)⟩) hV (fun r9 V9 H locs hp hV hle => ?_)
      obtain ⟨rfl, ⟨g_9, rfl, hO_g_9⟩, hz⟩ := hp
      replace hV := u_back hV hn [0, 1] rfl
      have hV : vS G.1 cls lo s H locs (vU V [(m, eO 8 [u0, u1, u2, u3, .ref pa, u5, u6, u7, u8, u9, u10, u11, u12, u13, u14, u15, u16, u17, u18, .int (nI ((P9 ++ pN 33 R.2.2.2.1.2).length)), .ref oa]), (oa, eI (gI G) 5000 g_9), (pa, eI (gI G) 1769 P)]) := hV
      exact b281 (P9 ++ pN 33 R.2.2.2.1.2) g_9 hO_g_9 (by rw [← he] <;> simp only [List.append_assoc, List.cons_append, List.nil_append]) H locs ls hz hV (lv_sub hl [0, 1, 2, 3] rfl)
  have b227 : ∀ (P9 : List Nat) (fo : Nat → Int32), (prOk fo (P9)) → (P9 ++ (prLm 94 R.2.2.2.1.1 ++ (prLm 33 R.2.2.2.1.2 ++ (prNm R.2.2.2.2 ++ [59]))) = PB ++ prPc j R) → ∀ (H : Heap) (locs : List Loc) (ls : Array Slot), H.size = sz → vS G.1 cls lo s H locs (vU V [(m, eO 8 [u0, u1, u2, u3, .ref pa, u5, u6, u7, u8, u9, u10, u11, u12, u13, u14, u15, u16, u17, u18, .int (nI P9.length), .ref oa]), (oa, eI (gI G) 5000 fo), (pa, eI (gI G) 1769 P)]) → lv_has ls 5 [(0, .ref m), (1, .int (nI j)), (2, .int (nI (29 * j))), (3, .int (nI R.2.1.2.1))] → W pg l ev ({ frames := 2, cells := 0, slots := 0, locals := 60 } : Room) s mi args below meth cd H locs 0 0 (MQ below (vPost G lo (fun r V' k => r = none ∧ (∃ f1 : Nat → Int32, V' = vU V [(m, eO 8 [u0, u1, u2, u3, .ref pa, u5, u6, u7, u8, u9, u10, u11, u12, u13, u14, u15, u16, u17, u18, .int (nI ((PB ++ prPc j R).length)), .ref oa]), (oa, eI (gI G) 5000 f1), (pa, eI (gI G) 1769 P)] ∧ prOk f1 (PB ++ prPc j R)) ∧ k = sz)) args s 0 0 (vL lo)) (F0 mi 227 ls []) := by
    intro P9 fo  hO he H locs ls hz hV hl
    refine lv_aload_n hx hb d_Mo_printPiece_227 rfl (lv_at hl 0 rfl) ?_
    refine u_get hx hb hts inMo hown hK hV hn 0 rfl rfl 4 (by decide) w_fl_Mo_17 rfl rfl d_Mo_printPiece_228 ?_
    refine lv_iload_n hx hb d_Mo_printPiece_231 rfl (lv_at hl 2 rfl) ?_
    refine lv_bipush (v := 17) hx hb d_Mo_printPiece_232 (by decide) ?_
    refine e_iadd (v := nI (29 * j + 17)) hx hb d_Mo_printPiece_234 (nI_add (29 * j) 17) ?_
    refine u_ialdN hx hb hK hV hn 2 rfl (by omega) (by decide) d_Mo_printPiece_235 ?_
    rw [r17]
    refine lv_if_le (tgt := 254) hx hb d_Mo_printPiece_236 (by decide) (fun c_10 => ?_) (fun c_10 => ?_)
    · replace c_10 : R.2.2.2.1.1 ≤ 0 := (nI_leI (a := R.2.2.2.1.1) (b := 0) (by omega) (by omega)).mp c_10
      rw [show prLm 94 R.2.2.2.1.1 = [] from if_pos (by omega), List.nil_append] at he
      exact b254 (P9) fo hO (by rw [← he] <;> simp only [List.append_assoc, List.cons_append, List.nil_append]) H locs ls hz hV (lv_sub hl [0, 1, 2, 3] rfl)
    · replace c_10 : ¬ R.2.2.2.1.1 ≤ 0 := fun z9 => c_10 ((nI_leI (a := R.2.2.2.1.1) (b := 0) (by omega) (by omega)).mpr z9)
      rw [show prLm 94 R.2.2.2.1.1 = pN 94 R.2.2.2.1.1 from if_neg (by omega)] at he
      refine lv_aload_n hx hb d_Mo_printPiece_239 rfl (lv_at hl 0 rfl) ?_
      refine lv_bipush (v := 94) hx hb d_Mo_printPiece_240 (by decide) ?_
      refine lv_aload_n hx hb d_Mo_printPiece_242 rfl (lv_at hl 0 rfl) ?_
      refine u_get hx hb hts inMo hown hK hV hn 0 rfl rfl 4 (by decide) w_fl_Mo_17 rfl rfl d_Mo_printPiece_243 ?_
      refine lv_iload_n hx hb d_Mo_printPiece_246 rfl (lv_at hl 2 rfl) ?_
      refine lv_bipush (v := 17) hx hb d_Mo_printPiece_247 (by decide) ?_
      refine e_iadd (v := nI (29 * j + 17)) hx hb d_Mo_printPiece_249 (nI_add (29 * j) 17) ?_
      refine u_ialdN hx hb hK hV hn 2 rfl (by omega) (by decide) d_Mo_printPiece_250 ?_
      rw [r17]
      refine v_call (va_runV (As := [.int 94, .int (nI R.2.2.2.1.1)]) (rest := []) ⟨hx, hb, hml, hown, hts⟩ (c_Mo_putNumber l G lo _ _ m oa u0 u1 u2 u3 (.ref pa) u5 u6 u7 u8 u9 u10 u11 u12 u13 u14 u15 u16 u17 u18 fo P9 (nd_sub hn [0, 1] (by decide) rfl) hO 94 R.2.2.2.1.1 (by omega) (by have hl9 := congrArg List.length he; simp only [List.length_append, List.length_singleton, List.length_cons, List.length_nil] at hl9 ⊢; omega)) (kwV 2 hts w_co_Mo_putNumber rfl rfl w_it_Mo w_ml_Mo_183 w_im_Mo_putNumber w_se_Mo__Mo_putNumber (by decide +kernel) ⟨(Nat.le_of_ble_eq_true rfl), (Nat.le_of_ble_eq_true rfl)⟩) (u_preV hK hV hn [0, 1] rfl hz 0 rfl rfl) rfl rfl hl.1 rfl (lv_room (Nat.le_of_ble_eq_true rfl)) d_Mo_printPiece_251 ⟨(Nat.le_of_ble_eq_true rfl), (Nat.le_of_ble_eq_true rfl)⟩) hV (fun r9 V9 H locs hp hV hle => ?_)
      obtain ⟨rfl, ⟨g_11, rfl, hO_g_11⟩, hz⟩ := hp
      replace hV := u_back hV hn [0, 1] rfl
      have hV : vS G.1 cls lo s H locs (vU V [(m, eO 8 [u0, u1, u2, u3, .ref pa, u5, u6, u7, u8, u9, u10, u11, u12, u13, u14, u15, u16, u17, u18, .int (nI ((P9 ++ pN 94 R.2.2.2.1.1).length)), .ref oa]), (oa, eI (gI G) 5000 g_11), (pa, eI (gI G) 1769 P)]) := hV
      exact b254 (P9 ++ pN 94 R.2.2.2.1.1) g_11 hO_g_11 (by rw [← he] <;> simp only [List.append_assoc, List.cons_append, List.nil_append]) H locs ls hz hV (lv_sub hl [0, 1, 2, 3] rfl)
  have loop : ∀ (k : Nat) (i : Nat) (P9 : List Nat) (fo : Nat → Int32), R.2.2.1.length - i < k → (prOk fo (P9 ++ prH R.2.2.1 i)) → (P9 ++ (prH R.2.2.1 R.2.2.1.length ++ (prLm 94 R.2.2.2.1.1 ++ (prLm 33 R.2.2.2.1.2 ++ (prNm R.2.2.2.2 ++ [59])))) = PB ++ prPc j R) → (i ≤ R.2.2.1.length) → ∀ (H : Heap) (locs : List Loc) (ls : Array Slot), H.size = sz → vS G.1 cls lo s H locs (vU V [(m, eO 8 [u0, u1, u2, u3, .ref pa, u5, u6, u7, u8, u9, u10, u11, u12, u13, u14, u15, u16, u17, u18, .int (nI ((P9 ++ prH R.2.2.1 i).length)), .ref oa]), (oa, eI (gI G) 5000 fo), (pa, eI (gI G) 1769 P)]) → lv_has ls 5 [(0, .ref m), (1, .int (nI j)), (2, .int (nI (29 * j))), (3, .int (nI R.2.1.2.1)), (4, .int (nI i))] → W pg l ev ({ frames := 2, cells := 0, slots := 0, locals := 60 } : Room) s mi args below meth cd H locs 0 0 (MQ below (vPost G lo (fun r V' k => r = none ∧ (∃ f1 : Nat → Int32, V' = vU V [(m, eO 8 [u0, u1, u2, u3, .ref pa, u5, u6, u7, u8, u9, u10, u11, u12, u13, u14, u15, u16, u17, u18, .int (nI ((PB ++ prPc j R).length)), .ref oa]), (oa, eI (gI G) 5000 f1), (pa, eI (gI G) 1769 P)] ∧ prOk f1 (PB ++ prPc j R)) ∧ k = sz)) args s 0 0 (vL lo)) (F0 mi 137 ls []) := by
    intro k
    induction k with
    | zero => intro i P9 fo hk; exact absurd hk (by omega)
    | succ k ih =>
      intro i P9 fo hk hO he hi H locs ls hz hV hl
      refine lv_iload hx hb d_Mo_printPiece_137 (lv_at hl 4 rfl) ?_
      refine lv_aload_n hx hb d_Mo_printPiece_139 rfl (lv_at hl 0 rfl) ?_
      refine u_get hx hb hts inMo hown hK hV hn 0 rfl rfl 4 (by decide) w_fl_Mo_17 rfl rfl d_Mo_printPiece_140 ?_
      refine lv_iload_n hx hb d_Mo_printPiece_143 rfl (lv_at hl 2 rfl) ?_
      refine lv_bipush (v := 7) hx hb d_Mo_printPiece_144 (by decide) ?_
      refine e_iadd (v := nI (29 * j + 7)) hx hb d_Mo_printPiece_146 (nI_add (29 * j) 7) ?_
      refine u_ialdN hx hb hK hV hn 2 rfl (by omega) (by decide) d_Mo_printPiece_147 ?_
      rw [r7]
      refine lv_icmp_ge (tgt := 227) hx hb d_Mo_printPiece_148 (by decide) (fun c_12 => ?_) (fun c_12 => ?_)
      · replace c_12 : R.2.2.1.length ≤ i := (nI_leI (a := R.2.2.1.length) (b := i) (by omega) (by omega)).mp c_12
        have eI9 : i = R.2.2.1.length := by omega
        subst eI9
        exact b227 (P9 ++ prH R.2.2.1 R.2.2.1.length) fo hO (by rw [← he]; simp only [List.append_assoc]) H locs ls hz hV (lv_sub hl [0, 1, 2, 3] rfl)
      · replace c_12 : ¬ R.2.2.1.length ≤ i := fun z9 => c_12 ((nI_leI (a := R.2.2.1.length) (b := i) (by omega) (by omega)).mpr z9)
        obtain ⟨o1, o2, o3⟩ := rh i (by omega)
        obtain ⟨o4, o5, o6, o7⟩ := z11 i (by omega)
        have hM9 := prH_mono R.2.2.1 (i + 1) R.2.2.1.length (by omega)
        simp only [prH, List.length_append, List.length_singleton] at hM9
        refine lv_aload_n hx hb d_Mo_printPiece_151 rfl (lv_at hl 0 rfl) ?_
        refine lv_bipush (v := 91) hx hb d_Mo_printPiece_152 (by decide) ?_
        refine lv_aload_n hx hb d_Mo_printPiece_154 rfl (lv_at hl 0 rfl) ?_
        refine u_get hx hb hts inMo hown hK hV hn 0 rfl rfl 4 (by decide) w_fl_Mo_17 rfl rfl d_Mo_printPiece_155 ?_
        refine lv_iload_n hx hb d_Mo_printPiece_158 rfl (lv_at hl 2 rfl) ?_
        refine lv_bipush (v := 8) hx hb d_Mo_printPiece_159 (by decide) ?_
        refine e_iadd (v := nI (29 * j + 8)) hx hb d_Mo_printPiece_161 (nI_add (29 * j) 8) ?_
        refine lv_iconst (v := 3) hx hb d_Mo_printPiece_162 (by decide) ?_
        refine lv_iload hx hb d_Mo_printPiece_163 (lv_at hl 4 rfl) ?_
        refine e_imul (v := nI (3 * i)) hx hb d_Mo_printPiece_165 (nI_mul 3 i) ?_
        refine e_iadd (v := nI (29 * j + 8 + (3 * i))) hx hb d_Mo_printPiece_166 (nI_add (29 * j + 8) (3 * i)) ?_
        refine u_ialdN hx hb hK hV hn 2 rfl (by omega) (by decide) d_Mo_printPiece_167 ?_
        rw [o1]
        refine v_call (va_runV (As := [.int 91, .int (nI ((R.2.2.1.getD i z3).1))]) (rest := []) ⟨hx, hb, hml, hown, hts⟩ (c_Mo_putNumber l G lo _ _ m oa u0 u1 u2 u3 (.ref pa) u5 u6 u7 u8 u9 u10 u11 u12 u13 u14 u15 u16 u17 u18 fo (P9 ++ prH R.2.2.1 i) (nd_sub hn [0, 1] (by decide) rfl) hO 91 ((R.2.2.1.getD i z3).1) (by omega) (by have hl9 := congrArg List.length he; simp only [List.length_append, List.length_singleton, List.length_cons, List.length_nil] at hl9 ⊢; omega)) (kwV 2 hts w_co_Mo_putNumber rfl rfl w_it_Mo w_ml_Mo_183 w_im_Mo_putNumber w_se_Mo__Mo_putNumber (by decide +kernel) ⟨(Nat.le_of_ble_eq_true rfl), (Nat.le_of_ble_eq_true rfl)⟩) (u_preV hK hV hn [0, 1] rfl hz 0 rfl rfl) rfl rfl hl.1 rfl (lv_room (Nat.le_of_ble_eq_true rfl)) d_Mo_printPiece_168 ⟨(Nat.le_of_ble_eq_true rfl), (Nat.le_of_ble_eq_true rfl)⟩) hV (fun r9 V9 H locs hp hV hle => ?_)
        obtain ⟨rfl, ⟨g_13, rfl, hO_g_13⟩, hz⟩ := hp
        replace hV := u_back hV hn [0, 1] rfl
        have hV : vS G.1 cls lo s H locs (vU V [(m, eO 8 [u0, u1, u2, u3, .ref pa, u5, u6, u7, u8, u9, u10, u11, u12, u13, u14, u15, u16, u17, u18, .int (nI ((P9 ++ prH R.2.2.1 i ++ pN 91 ((R.2.2.1.getD i z3).1)).length)), .ref oa]), (oa, eI (gI G) 5000 g_13), (pa, eI (gI G) 1769 P)]) := hV
        refine lv_aload_n hx hb d_Mo_printPiece_171 rfl (lv_at hl 0 rfl) ?_
        refine lv_bipush (v := 45) hx hb d_Mo_printPiece_172 (by decide) ?_
        refine lv_aload_n hx hb d_Mo_printPiece_174 rfl (lv_at hl 0 rfl) ?_
        refine u_get hx hb hts inMo hown hK hV hn 0 rfl rfl 4 (by decide) w_fl_Mo_17 rfl rfl d_Mo_printPiece_175 ?_
        refine lv_iload_n hx hb d_Mo_printPiece_178 rfl (lv_at hl 2 rfl) ?_
        refine lv_bipush (v := 8) hx hb d_Mo_printPiece_179 (by decide) ?_
        refine e_iadd (v := nI (29 * j + 8)) hx hb d_Mo_printPiece_181 (nI_add (29 * j) 8) ?_
        refine lv_iconst (v := 3) hx hb d_Mo_printPiece_182 (by decide) ?_
        refine lv_iload hx hb d_Mo_printPiece_183 (lv_at hl 4 rfl) ?_
        refine e_imul (v := nI (3 * i)) hx hb d_Mo_printPiece_185 (nI_mul 3 i) ?_
        refine e_iadd (v := nI (29 * j + 8 + (3 * i))) hx hb d_Mo_printPiece_186 (nI_add (29 * j + 8) (3 * i)) ?_
        refine lv_iconst (v := 1) hx hb d_Mo_printPiece_187 (by decide) ?_
        refine e_iadd (v := nI (29 * j + 8 + (3 * i) + 1)) hx hb d_Mo_printPiece_188 (nI_add (29 * j + 8 + (3 * i)) 1) ?_
        refine u_ialdN hx hb hK hV hn 2 rfl (by omega) (by decide) d_Mo_printPiece_189 ?_
        rw [o2]
        refine v_call (va_runV (As := [.int 45, .int (nI ((R.2.2.1.getD i z3).2.1))]) (rest := []) ⟨hx, hb, hml, hown, hts⟩ (c_Mo_putNumber l G lo _ _ m oa u0 u1 u2 u3 (.ref pa) u5 u6 u7 u8 u9 u10 u11 u12 u13 u14 u15 u16 u17 u18 g_13 (P9 ++ prH R.2.2.1 i ++ pN 91 ((R.2.2.1.getD i z3).1)) (nd_sub hn [0, 1] (by decide) rfl) hO_g_13 45 ((R.2.2.1.getD i z3).2.1) (by omega) (by have hl9 := congrArg List.length he; simp only [List.length_append, List.length_singleton, List.length_cons, List.length_nil] at hl9 ⊢; omega)) (kwV 2 hts w_co_Mo_putNumber rfl rfl w_it_Mo w_ml_Mo_183 w_im_Mo_putNumber w_se_Mo__Mo_putNumber (by decide +kernel) ⟨(Nat.le_of_ble_eq_true rfl), (Nat.le_of_ble_eq_true rfl)⟩) (u_preV hK hV hn [0, 1] rfl hz 0 rfl rfl) rfl rfl hl.1 rfl (lv_room (Nat.le_of_ble_eq_true rfl)) d_Mo_printPiece_190 ⟨(Nat.le_of_ble_eq_true rfl), (Nat.le_of_ble_eq_true rfl)⟩) hV (fun r9 V9 H locs hp hV hle => ?_)
        obtain ⟨rfl, ⟨g_14, rfl, hO_g_14⟩, hz⟩ := hp
        replace hV := u_back hV hn [0, 1] rfl
        have hV : vS G.1 cls lo s H locs (vU V [(m, eO 8 [u0, u1, u2, u3, .ref pa, u5, u6, u7, u8, u9, u10, u11, u12, u13, u14, u15, u16, u17, u18, .int (nI ((P9 ++ prH R.2.2.1 i ++ pN 91 ((R.2.2.1.getD i z3).1) ++ pN 45 ((R.2.2.1.getD i z3).2.1)).length)), .ref oa]), (oa, eI (gI G) 5000 g_14), (pa, eI (gI G) 1769 P)]) := hV
        refine lv_aload_n hx hb d_Mo_printPiece_193 rfl (lv_at hl 0 rfl) ?_
        refine lv_bipush (v := 58) hx hb d_Mo_printPiece_194 (by decide) ?_
        refine lv_aload_n hx hb d_Mo_printPiece_196 rfl (lv_at hl 0 rfl) ?_
        refine u_get hx hb hts inMo hown hK hV hn 0 rfl rfl 4 (by decide) w_fl_Mo_17 rfl rfl d_Mo_printPiece_197 ?_
        refine lv_iload_n hx hb d_Mo_printPiece_200 rfl (lv_at hl 2 rfl) ?_
        refine lv_bipush (v := 8) hx hb d_Mo_printPiece_201 (by decide) ?_
        refine e_iadd (v := nI (29 * j + 8)) hx hb d_Mo_printPiece_203 (nI_add (29 * j) 8) ?_
        refine lv_iconst (v := 3) hx hb d_Mo_printPiece_204 (by decide) ?_
        refine lv_iload hx hb d_Mo_printPiece_205 (lv_at hl 4 rfl) ?_
        refine e_imul (v := nI (3 * i)) hx hb d_Mo_printPiece_207 (nI_mul 3 i) ?_
        refine e_iadd (v := nI (29 * j + 8 + (3 * i))) hx hb d_Mo_printPiece_208 (nI_add (29 * j + 8) (3 * i)) ?_
        refine lv_iconst (v := 2) hx hb d_Mo_printPiece_209 (by decide) ?_
        refine e_iadd (v := nI (29 * j + 8 + (3 * i) + 2)) hx hb d_Mo_printPiece_210 (nI_add (29 * j + 8 + (3 * i)) 2) ?_
        refine u_ialdN hx hb hK hV hn 2 rfl (by omega) (by decide) d_Mo_printPiece_211 ?_
        rw [o3]
        refine v_call (va_runV (As := [.int 58, .int (nI ((R.2.2.1.getD i z3).2.2))]) (rest := []) ⟨hx, hb, hml, hown, hts⟩ (c_Mo_putNumber l G lo _ _ m oa u0 u1 u2 u3 (.ref pa) u5 u6 u7 u8 u9 u10 u11 u12 u13 u14 u15 u16 u17 u18 g_14 (P9 ++ prH R.2.2.1 i ++ pN 91 ((R.2.2.1.getD i z3).1) ++ pN 45 ((R.2.2.1.getD i z3).2.1)) (nd_sub hn [0, 1] (by decide) rfl) hO_g_14 58 ((R.2.2.1.getD i z3).2.2) (by omega) (by have hl9 := congrArg List.length he; simp only [List.length_append, List.length_singleton, List.length_cons, List.length_nil] at hl9 ⊢; omega)) (kwV 2 hts w_co_Mo_putNumber rfl rfl w_it_Mo w_ml_Mo_183 w_im_Mo_putNumber w_se_Mo__Mo_putNumber (by decide +kernel) ⟨(Nat.le_of_ble_eq_true rfl), (Nat.le_of_ble_eq_true rfl)⟩) (u_preV hK hV hn [0, 1] rfl hz 0 rfl rfl) rfl rfl hl.1 rfl (lv_room (Nat.le_of_ble_eq_true rfl)) d_Mo_printPiece_212 ⟨(Nat.le_of_ble_eq_true rfl), (Nat.le_of_ble_eq_true rfl)⟩) hV (fun r9 V9 H locs hp hV hle => ?_)
        obtain ⟨rfl, ⟨g_15, rfl, hO_g_15⟩, hz⟩ := hp
        replace hV := u_back hV hn [0, 1] rfl
        have hV : vS G.1 cls lo s H locs (vU V [(m, eO 8 [u0, u1, u2, u3, .ref pa, u5, u6, u7, u8, u9, u10, u11, u12, u13, u14, u15, u16, u17, u18, .int (nI ((P9 ++ prH R.2.2.1 i ++ pN 91 ((R.2.2.1.getD i z3).1) ++ pN 45 ((R.2.2.1.getD i z3).2.1) ++ pN 58 ((R.2.2.1.getD i z3).2.2)).length)), .ref oa]), (oa, eI (gI G) 5000 g_15), (pa, eI (gI G) 1769 P)]) := hV
        refine lv_aload_n hx hb d_Mo_printPiece_215 rfl (lv_at hl 0 rfl) ?_
        refine lv_bipush (v := 93) hx hb d_Mo_printPiece_216 (by decide) ?_
        refine v_call (va_runV (As := [.int 93]) (rest := []) ⟨hx, hb, hml, hown, hts⟩ (c_Mo_put l G lo _ _ m oa u0 u1 u2 u3 (.ref pa) u5 u6 u7 u8 u9 u10 u11 u12 u13 u14 u15 u16 u17 u18 g_15 (P9 ++ prH R.2.2.1 i ++ pN 91 ((R.2.2.1.getD i z3).1) ++ pN 45 ((R.2.2.1.getD i z3).2.1) ++ pN 58 ((R.2.2.1.getD i z3).2.2)) (nd_sub hn [0, 1] (by decide) rfl) hO_g_15 93 (by have hl9 := congrArg List.length he; simp only [List.length_append, List.length_singleton, List.length_cons, List.length_nil] at hl9 ⊢; omega)) (kwV 1 hts w_co_Mo_put rfl rfl w_it_Mo w_ml_Mo_180 w_im_Mo_put w_se_Mo__Mo_put (by decide +kernel) ⟨(Nat.le_of_ble_eq_true rfl), (Nat.le_of_ble_eq_true rfl)⟩) (u_preV hK hV hn [0, 1] rfl hz 0 rfl rfl) rfl rfl hl.1 rfl (lv_room (Nat.le_of_ble_eq_true rfl)) d_Mo_printPiece_218 ⟨(Nat.le_of_ble_eq_true rfl), (Nat.le_of_ble_eq_true rfl)⟩) hV (fun r9 V9 H locs hp hV hle => ?_)
        obtain ⟨rfl, ⟨g_16, rfl, hO_g_16⟩, hz⟩ := hp
        replace hV := u_back hV hn [0, 1] rfl
        have hV : vS G.1 cls lo s H locs (vU V [(m, eO 8 [u0, u1, u2, u3, .ref pa, u5, u6, u7, u8, u9, u10, u11, u12, u13, u14, u15, u16, u17, u18, .int (nI ((P9 ++ prH R.2.2.1 i ++ pN 91 ((R.2.2.1.getD i z3).1) ++ pN 45 ((R.2.2.1.getD i z3).2.1) ++ pN 58 ((R.2.2.1.getD i z3).2.2) ++ [93]).length)), .ref oa]), (oa, eI (gI G) 5000 g_16), (pa, eI (gI G) 1769 P)]) := hV
        have eP : P9 ++ prH R.2.2.1 i ++ pN 91 ((R.2.2.1.getD i z3).1) ++ pN 45 ((R.2.2.1.getD i z3).2.1) ++ pN 58 ((R.2.2.1.getD i z3).2.2) ++ [93] = P9 ++ prH R.2.2.1 (i + 1) := by simp only [prH, List.append_assoc]
        rw [eP] at hV hO_g_16
        refine lv_iinc (v := nI (i + 1)) (lv' := [(4, .int (nI (i + 1))), (0, .ref m), (1, .int (nI j)), (2, .int (nI (29 * j))), (3, .int (nI R.2.1.2.1))]) hx hb d_Mo_printPiece_221 hl (k := 4) rfl (nI_add i 1) (by decide) rfl (fun ls hl => ?_)
        refine lv_goto (tgt := 137) hx hb d_Mo_printPiece_224 (by decide) ?_
        exact ih (i + 1) P9 g_16 (by omega) hO_g_16 he (by omega) H locs ls hz hV (lv_sub hl [1, 2, 3, 4, 0] rfl)
  have he : PB ++ (pN 112 j ++ (pN 61 R.1.1 ++ (pN (if R.1.2.1 then 62 else 45) R.1.2.2 ++ (pN 58 R.2.1.1 ++ (pN (kindN R.2.1.2.1) R.2.1.2.2 ++ (prH R.2.2.1 R.2.2.1.length ++ (prLm 94 R.2.2.2.1.1 ++ (prLm 33 R.2.2.2.1.2 ++ (prNm R.2.2.2.2 ++ [59]))))))))) = PB ++ prPc j R := rfl
  refine lv_iload_n hx hb d_Mo_printPiece_0 rfl (lv_at hl 1 rfl) ?_
  refine lv_bipush (v := 29) hx hb d_Mo_printPiece_1 (by decide) ?_
  refine e_imul (v := nI (29 * j)) hx hb d_Mo_printPiece_3 (by rw [Nat.mul_comm 29 j]; exact nI_mul j 29) ?_
  refine lv_istore_n (lv' := [(2, .int (nI (29 * j))), (0, .ref m), (1, .int (nI j))]) hx hb d_Mo_printPiece_4 rfl hl (by decide) rfl (fun ls hl => ?_)
  refine lv_aload_n hx hb d_Mo_printPiece_5 rfl (lv_at hl 1 rfl) ?_
  refine lv_bipush (v := 112) hx hb d_Mo_printPiece_6 (by decide) ?_
  refine lv_iload_n hx hb d_Mo_printPiece_8 rfl (lv_at hl 2 rfl) ?_
  refine v_call (va_runV (As := [.int 112, .int (nI j)]) (rest := []) ⟨hx, hb, hml, hown, hts⟩ (c_Mo_putNumber l G lo _ _ m oa u0 u1 u2 u3 (.ref pa) u5 u6 u7 u8 u9 u10 u11 u12 u13 u14 u15 u16 u17 u18 fo PB (nd_sub hn [0, 1] (by decide) rfl) hO 112 j (by omega) (by have hl9 := congrArg List.length he; simp only [List.length_append, List.length_singleton, List.length_cons, List.length_nil] at hl9 ⊢; omega)) (kwV 2 hts w_co_Mo_putNumber rfl rfl w_it_Mo w_ml_Mo_183 w_im_Mo_putNumber w_se_Mo__Mo_putNumber (by decide +kernel) ⟨(Nat.le_of_ble_eq_true rfl), (Nat.le_of_ble_eq_true rfl)⟩) (u_preV hK hV hn [0, 1] rfl hz 0 rfl rfl) rfl rfl hl.1 rfl (lv_room (Nat.le_of_ble_eq_true rfl)) d_Mo_printPiece_9 ⟨(Nat.le_of_ble_eq_true rfl), (Nat.le_of_ble_eq_true rfl)⟩) hV (fun r9 V9 H locs hp hV hle => ?_)
  obtain ⟨rfl, ⟨g_17, rfl, hO_g_17⟩, hz⟩ := hp
  replace hV := u_back hV hn [0, 1] rfl
  have hV : vS G.1 cls lo s H locs (vU V [(m, eO 8 [u0, u1, u2, u3, .ref pa, u5, u6, u7, u8, u9, u10, u11, u12, u13, u14, u15, u16, u17, u18, .int (nI ((PB ++ pN 112 j).length)), .ref oa]), (oa, eI (gI G) 5000 g_17), (pa, eI (gI G) 1769 P)]) := hV
  refine lv_aload_n hx hb d_Mo_printPiece_12 rfl (lv_at hl 1 rfl) ?_
  refine lv_bipush (v := 61) hx hb d_Mo_printPiece_13 (by decide) ?_
  refine lv_aload_n hx hb d_Mo_printPiece_15 rfl (lv_at hl 1 rfl) ?_
  refine u_get hx hb hts inMo hown hK hV hn 0 rfl rfl 4 (by decide) w_fl_Mo_17 rfl rfl d_Mo_printPiece_16 ?_
  refine lv_iload_n hx hb d_Mo_printPiece_19 rfl (lv_at hl 0 rfl) ?_
  refine lv_iconst (v := 1) hx hb d_Mo_printPiece_20 (by decide) ?_
  refine e_iadd (v := nI (29 * j + 1)) hx hb d_Mo_printPiece_21 (nI_add (29 * j) 1) ?_
  refine u_ialdN hx hb hK hV hn 2 rfl (by omega) (by decide) d_Mo_printPiece_22 ?_
  rw [r1]
  refine v_call (va_runV (As := [.int 61, .int (nI R.1.1)]) (rest := []) ⟨hx, hb, hml, hown, hts⟩ (c_Mo_putNumber l G lo _ _ m oa u0 u1 u2 u3 (.ref pa) u5 u6 u7 u8 u9 u10 u11 u12 u13 u14 u15 u16 u17 u18 g_17 (PB ++ pN 112 j) (nd_sub hn [0, 1] (by decide) rfl) hO_g_17 61 R.1.1 (by omega) (by have hl9 := congrArg List.length he; simp only [List.length_append, List.length_singleton, List.length_cons, List.length_nil] at hl9 ⊢; omega)) (kwV 2 hts w_co_Mo_putNumber rfl rfl w_it_Mo w_ml_Mo_183 w_im_Mo_putNumber w_se_Mo__Mo_putNumber (by decide +kernel) ⟨(Nat.le_of_ble_eq_true rfl), (Nat.le_of_ble_eq_true rfl)⟩) (u_preV hK hV hn [0, 1] rfl hz 0 rfl rfl) rfl rfl hl.1 rfl (lv_room (Nat.le_of_ble_eq_true rfl)) d_Mo_printPiece_23 ⟨(Nat.le_of_ble_eq_true rfl), (Nat.le_of_ble_eq_true rfl)⟩) hV (fun r9 V9 H locs hp hV hle => ?_)
  obtain ⟨rfl, ⟨g_18, rfl, hO_g_18⟩, hz⟩ := hp
  replace hV := u_back hV hn [0, 1] rfl
  have hV : vS G.1 cls lo s H locs (vU V [(m, eO 8 [u0, u1, u2, u3, .ref pa, u5, u6, u7, u8, u9, u10, u11, u12, u13, u14, u15, u16, u17, u18, .int (nI ((PB ++ pN 112 j ++ pN 61 R.1.1).length)), .ref oa]), (oa, eI (gI G) 5000 g_18), (pa, eI (gI G) 1769 P)]) := hV
  refine lv_aload_n hx hb d_Mo_printPiece_26 rfl (lv_at hl 1 rfl) ?_
  refine lv_aload_n hx hb d_Mo_printPiece_27 rfl (lv_at hl 1 rfl) ?_
  refine u_get hx hb hts inMo hown hK hV hn 0 rfl rfl 4 (by decide) w_fl_Mo_17 rfl rfl d_Mo_printPiece_28 ?_
  refine lv_iload_n hx hb d_Mo_printPiece_31 rfl (lv_at hl 0 rfl) ?_
  refine lv_iconst (v := 3) hx hb d_Mo_printPiece_32 (by decide) ?_
  refine e_iadd (v := nI (29 * j + 3)) hx hb d_Mo_printPiece_33 (nI_add (29 * j) 3) ?_
  refine u_ialdN hx hb hK hV hn 2 rfl (by omega) (by decide) d_Mo_printPiece_34 ?_
  rw [r3]
  refine lv_iconst (v := 1) hx hb d_Mo_printPiece_35 (by decide) ?_
  refine lv_icmp_ne (tgt := 44) hx hb d_Mo_printPiece_36 (by decide) (fun c_19 => ?_) (fun c_19 => ?_)
  · rw [show (if R.1.2.1 = true then 62 else 45 : Nat) = 45 by cases hb9 : R.1.2.1 <;> simp_all [b2i]] at he
    refine lv_bipush (v := 45) hx hb d_Mo_printPiece_44 (by decide) ?_
    refine lv_aload_n hx hb d_Mo_printPiece_46 rfl (lv_at hl 1 rfl) ?_
    refine u_get hx hb hts inMo hown hK hV hn 0 rfl rfl 4 (by decide) w_fl_Mo_17 rfl rfl d_Mo_printPiece_47 ?_
    refine lv_iload_n hx hb d_Mo_printPiece_50 rfl (lv_at hl 0 rfl) ?_
    refine lv_iconst (v := 2) hx hb d_Mo_printPiece_51 (by decide) ?_
    refine e_iadd (v := nI (29 * j + 2)) hx hb d_Mo_printPiece_52 (nI_add (29 * j) 2) ?_
    refine u_ialdN hx hb hK hV hn 2 rfl (by omega) (by decide) d_Mo_printPiece_53 ?_
    rw [r2]
    refine v_call (va_runV (As := [.int 45, .int (nI R.1.2.2)]) (rest := []) ⟨hx, hb, hml, hown, hts⟩ (c_Mo_putNumber l G lo _ _ m oa u0 u1 u2 u3 (.ref pa) u5 u6 u7 u8 u9 u10 u11 u12 u13 u14 u15 u16 u17 u18 g_18 (PB ++ pN 112 j ++ pN 61 R.1.1) (nd_sub hn [0, 1] (by decide) rfl) hO_g_18 45 R.1.2.2 (by omega) (by have hl9 := congrArg List.length he; simp only [List.length_append, List.length_singleton, List.length_cons, List.length_nil] at hl9 ⊢; omega)) (kwV 2 hts w_co_Mo_putNumber rfl rfl w_it_Mo w_ml_Mo_183 w_im_Mo_putNumber w_se_Mo__Mo_putNumber (by decide +kernel) ⟨(Nat.le_of_ble_eq_true rfl), (Nat.le_of_ble_eq_true rfl)⟩) (u_preV hK hV hn [0, 1] rfl hz 0 rfl rfl) rfl rfl hl.1 rfl (lv_room (Nat.le_of_ble_eq_true rfl)) d_Mo_printPiece_54 ⟨(Nat.le_of_ble_eq_true rfl), (Nat.le_of_ble_eq_true rfl)⟩) hV (fun r9 V9 H locs hp hV hle => ?_)
    obtain ⟨rfl, ⟨g_20, rfl, hO_g_20⟩, hz⟩ := hp
    replace hV := u_back hV hn [0, 1] rfl
    have hV : vS G.1 cls lo s H locs (vU V [(m, eO 8 [u0, u1, u2, u3, .ref pa, u5, u6, u7, u8, u9, u10, u11, u12, u13, u14, u15, u16, u17, u18, .int (nI ((PB ++ pN 112 j ++ pN 61 R.1.1 ++ pN 45 R.1.2.2).length)), .ref oa]), (oa, eI (gI G) 5000 g_20), (pa, eI (gI G) 1769 P)]) := hV
    refine lv_aload_n hx hb d_Mo_printPiece_57 rfl (lv_at hl 1 rfl) ?_
    refine lv_bipush (v := 58) hx hb d_Mo_printPiece_58 (by decide) ?_
    refine lv_aload_n hx hb d_Mo_printPiece_60 rfl (lv_at hl 1 rfl) ?_
    refine u_get hx hb hts inMo hown hK hV hn 0 rfl rfl 4 (by decide) w_fl_Mo_17 rfl rfl d_Mo_printPiece_61 ?_
    refine lv_iload_n hx hb d_Mo_printPiece_64 rfl (lv_at hl 0 rfl) ?_
    refine lv_iconst (v := 4) hx hb d_Mo_printPiece_65 (by decide) ?_
    refine e_iadd (v := nI (29 * j + 4)) hx hb d_Mo_printPiece_66 (nI_add (29 * j) 4) ?_
    refine u_ialdN hx hb hK hV hn 2 rfl (by omega) (by decide) d_Mo_printPiece_67 ?_
    rw [r4]
    refine v_call (va_runV (As := [.int 58, .int (nI R.2.1.1)]) (rest := []) ⟨hx, hb, hml, hown, hts⟩ (c_Mo_putNumber l G lo _ _ m oa u0 u1 u2 u3 (.ref pa) u5 u6 u7 u8 u9 u10 u11 u12 u13 u14 u15 u16 u17 u18 g_20 (PB ++ pN 112 j ++ pN 61 R.1.1 ++ pN 45 R.1.2.2) (nd_sub hn [0, 1] (by decide) rfl) hO_g_20 58 R.2.1.1 (by omega) (by have hl9 := congrArg List.length he; simp only [List.length_append, List.length_singleton, List.length_cons, List.length_nil] at hl9 ⊢; omega)) (kwV 2 hts w_co_Mo_putNumber rfl rfl w_it_Mo w_ml_Mo_183 w_im_Mo_putNumber w_se_Mo__Mo_putNumber (by decide +kernel) ⟨(Nat.le_of_ble_eq_true rfl), (Nat.le_of_ble_eq_true rfl)⟩) (u_preV hK hV hn [0, 1] rfl hz 0 rfl rfl) rfl rfl hl.1 rfl (lv_room (Nat.le_of_ble_eq_true rfl)) d_Mo_printPiece_68 ⟨(Nat.le_of_ble_eq_true rfl), (Nat.le_of_ble_eq_true rfl)⟩) hV (fun r9 V9 H locs hp hV hle => ?_)
    obtain ⟨rfl, ⟨g_21, rfl, hO_g_21⟩, hz⟩ := hp
    replace hV := u_back hV hn [0, 1] rfl
    have hV : vS G.1 cls lo s H locs (vU V [(m, eO 8 [u0, u1, u2, u3, .ref pa, u5, u6, u7, u8, u9, u10, u11, u12, u13, u14, u15, u16, u17, u18, .int (nI ((PB ++ pN 112 j ++ pN 61 R.1.1 ++ pN 45 R.1.2.2 ++ pN 58 R.2.1.1).length)), .ref oa]), (oa, eI (gI G) 5000 g_21), (pa, eI (gI G) 1769 P)]) := hV
    refine lv_aload_n hx hb d_Mo_printPiece_71 rfl (lv_at hl 1 rfl) ?_
    refine u_get hx hb hts inMo hown hK hV hn 0 rfl rfl 4 (by decide) w_fl_Mo_17 rfl rfl d_Mo_printPiece_72 ?_
    refine lv_iload_n hx hb d_Mo_printPiece_75 rfl (lv_at hl 0 rfl) ?_
    refine lv_iconst (v := 5) hx hb d_Mo_printPiece_76 (by decide) ?_
    refine e_iadd (v := nI (29 * j + 5)) hx hb d_Mo_printPiece_77 (nI_add (29 * j) 5) ?_
    refine u_ialdN hx hb hK hV hn 2 rfl (by omega) (by decide) d_Mo_printPiece_78 ?_
    rw [r5]
    refine lv_istore_n (lv' := [(3, .int (nI R.2.1.2.1)), (2, .int (nI (29 * j))), (0, .ref m), (1, .int (nI j))]) hx hb d_Mo_printPiece_79 rfl hl (by decide) rfl (fun ls hl => ?_)
    refine lv_aload_n hx hb d_Mo_printPiece_80 rfl (lv_at hl 2 rfl) ?_
    refine lv_iload_n hx hb d_Mo_printPiece_81 rfl (lv_at hl 0 rfl) ?_
    refine lv_if_ne (tgt := 90) hx hb d_Mo_printPiece_82 (by decide) (fun c_22 => ?_) (fun c_22 => ?_)
    · replace c_22 : ¬ R.2.1.2.1 = 0 := fun z9 => c_22 ((nI_eq (a := R.2.1.2.1) (b := 0) (by omega) (by omega)).mpr z9)
      refine lv_iload_n hx hb d_Mo_printPiece_90 rfl (lv_at hl 0 rfl) ?_
      refine lv_iconst (v := 1) hx hb d_Mo_printPiece_91 (by decide) ?_
      refine lv_icmp_ne (tgt := 100) hx hb d_Mo_printPiece_92 (by decide) (fun c_23 => ?_) (fun c_23 => ?_)
      · replace c_23 : ¬ R.2.1.2.1 = 1 := fun z9 => c_23 ((nI_eq (a := R.2.1.2.1) (b := 1) (by omega) (by omega)).mpr z9)
        refine lv_iload_n hx hb d_Mo_printPiece_100 rfl (lv_at hl 0 rfl) ?_
        refine lv_iconst (v := 2) hx hb d_Mo_printPiece_101 (by decide) ?_
        refine lv_icmp_ne (tgt := 110) hx hb d_Mo_printPiece_102 (by decide) (fun c_24 => ?_) (fun c_24 => ?_)
        · replace c_24 : ¬ R.2.1.2.1 = 2 := fun z9 => c_24 ((nI_eq (a := R.2.1.2.1) (b := 2) (by omega) (by omega)).mpr z9)
          refine lv_iload_n hx hb d_Mo_printPiece_110 rfl (lv_at hl 0 rfl) ?_
          refine lv_iconst (v := 3) hx hb d_Mo_printPiece_111 (by decide) ?_
          refine lv_icmp_ne (tgt := 120) hx hb d_Mo_printPiece_112 (by decide) (fun c_25 => ?_) (fun c_25 => ?_)
          · replace c_25 : ¬ R.2.1.2.1 = 3 := fun z9 => c_25 ((nI_eq (a := R.2.1.2.1) (b := 3) (by omega) (by omega)).mpr z9)
            refine lv_bipush (v := 119) hx hb d_Mo_printPiece_120 (by decide) ?_
            rw [show kindN R.2.1.2.1 = 119 by rw [show R.2.1.2.1 = 4 by omega]; rfl] at he
            refine lv_aload_n hx hb d_Mo_printPiece_122 rfl (lv_at hl 2 rfl) ?_
            refine u_get hx hb hts inMo hown hK hV hn 0 rfl rfl 4 (by decide) w_fl_Mo_17 rfl rfl d_Mo_printPiece_123 ?_
            refine lv_iload_n hx hb d_Mo_printPiece_126 rfl (lv_at hl 1 rfl) ?_
            refine lv_bipush (v := 6) hx hb d_Mo_printPiece_127 (by decide) ?_
            refine e_iadd (v := nI (29 * j + 6)) hx hb d_Mo_printPiece_129 (nI_add (29 * j) 6) ?_
            refine u_ialdN hx hb hK hV hn 2 rfl (by omega) (by decide) d_Mo_printPiece_130 ?_
            rw [r6]
            refine v_call (va_runV (As := [.int 119, .int (nI R.2.1.2.2)]) (rest := []) ⟨hx, hb, hml, hown, hts⟩ (c_Mo_putNumber l G lo _ _ m oa u0 u1 u2 u3 (.ref pa) u5 u6 u7 u8 u9 u10 u11 u12 u13 u14 u15 u16 u17 u18 g_21 (PB ++ pN 112 j ++ pN 61 R.1.1 ++ pN 45 R.1.2.2 ++ pN 58 R.2.1.1) (nd_sub hn [0, 1] (by decide) rfl) hO_g_21 119 R.2.1.2.2 (by omega) (by have hl9 := congrArg List.length he; simp only [List.length_append, List.length_singleton, List.length_cons, List.length_nil] at hl9 ⊢; omega)) (kwV 2 hts w_co_Mo_putNumber rfl rfl w_it_Mo w_ml_Mo_183 w_im_Mo_putNumber w_se_Mo__Mo_putNumber (by decide +kernel) ⟨(Nat.le_of_ble_eq_true rfl), (Nat.le_of_ble_eq_true rfl)⟩) (u_preV hK hV hn [0, 1] rfl hz 0 rfl rfl) rfl rfl hl.1 rfl (lv_room (Nat.le_of_ble_eq_true rfl)) d_Mo_printPiece_131 ⟨(Nat.le_of_ble_eq_true rfl), (Nat.le_of_ble_eq_true rfl)⟩) hV (fun r9 V9 H locs hp hV hle => ?_)
            obtain ⟨rfl, ⟨g_26, rfl, hO_g_26⟩, hz⟩ := hp
            replace hV := u_back hV hn [0, 1] rfl
            have hV : vS G.1 cls lo s H locs (vU V [(m, eO 8 [u0, u1, u2, u3, .ref pa, u5, u6, u7, u8, u9, u10, u11, u12, u13, u14, u15, u16, u17, u18, .int (nI ((PB ++ pN 112 j ++ pN 61 R.1.1 ++ pN 45 R.1.2.2 ++ pN 58 R.2.1.1 ++ pN 119 R.2.1.2.2).length)), .ref oa]), (oa, eI (gI G) 5000 g_26), (pa, eI (gI G) 1769 P)]) := hV
            refine lv_iconst (v := 0) hx hb d_Mo_printPiece_134 (by decide) ?_
            refine lv_istore (lv' := [(4, .int 0), (3, .int (nI R.2.1.2.1)), (2, .int (nI (29 * j))), (0, .ref m), (1, .int (nI j))]) hx hb d_Mo_printPiece_135 hl (by decide) rfl (fun ls hl => ?_)
            rw [show PB ++ pN 112 j ++ pN 61 R.1.1 ++ pN 45 R.1.2.2 ++ pN 58 R.2.1.1 ++ pN 119 R.2.1.2.2 = PB ++ pN 112 j ++ pN 61 R.1.1 ++ pN 45 R.1.2.2 ++ pN 58 R.2.1.1 ++ pN 119 R.2.1.2.2 ++ prH R.2.2.1 0 from (List.append_nil _).symm] at hV hO_g_26
            exact loop (R.2.2.1.length + 1) 0 (PB ++ pN 112 j ++ pN 61 R.1.1 ++ pN 45 R.1.2.2 ++ pN 58 R.2.1.1 ++ pN 119 R.2.1.2.2) g_26 (by omega) hO_g_26 (by rw [← he]; simp only [List.append_assoc]) (by omega) H locs ls hz hV (lv_sub hl [3, 4, 2, 1, 0] rfl)
          · replace c_25 : R.2.1.2.1 = 3 := (nI_eq (a := R.2.1.2.1) (b := 3) (by omega) (by omega)).mp c_25
            refine lv_bipush (v := 102) hx hb d_Mo_printPiece_115 (by decide) ?_
            refine lv_goto (tgt := 122) hx hb d_Mo_printPiece_117 (by decide) ?_
            rw [show kindN R.2.1.2.1 = 102 by rw [show R.2.1.2.1 = 3 by omega]; rfl] at he
            refine lv_aload_n hx hb d_Mo_printPiece_122 rfl (lv_at hl 2 rfl) ?_
            refine u_get hx hb hts inMo hown hK hV hn 0 rfl rfl 4 (by decide) w_fl_Mo_17 rfl rfl d_Mo_printPiece_123 ?_
            refine lv_iload_n hx hb d_Mo_printPiece_126 rfl (lv_at hl 1 rfl) ?_
            refine lv_bipush (v := 6) hx hb d_Mo_printPiece_127 (by decide) ?_
            refine e_iadd (v := nI (29 * j + 6)) hx hb d_Mo_printPiece_129 (nI_add (29 * j) 6) ?_
            refine u_ialdN hx hb hK hV hn 2 rfl (by omega) (by decide) d_Mo_printPiece_130 ?_
            rw [r6]
            refine v_call (va_runV (As := [.int 102, .int (nI R.2.1.2.2)]) (rest := []) ⟨hx, hb, hml, hown, hts⟩ (c_Mo_putNumber l G lo _ _ m oa u0 u1 u2 u3 (.ref pa) u5 u6 u7 u8 u9 u10 u11 u12 u13 u14 u15 u16 u17 u18 g_21 (PB ++ pN 112 j ++ pN 61 R.1.1 ++ pN 45 R.1.2.2 ++ pN 58 R.2.1.1) (nd_sub hn [0, 1] (by decide) rfl) hO_g_21 102 R.2.1.2.2 (by omega) (by have hl9 := congrArg List.length he; simp only [List.length_append, List.length_singleton, List.length_cons, List.length_nil] at hl9 ⊢; omega)) (kwV 2 hts w_co_Mo_putNumber rfl rfl w_it_Mo w_ml_Mo_183 w_im_Mo_putNumber w_se_Mo__Mo_putNumber (by decide +kernel) ⟨(Nat.le_of_ble_eq_true rfl), (Nat.le_of_ble_eq_true rfl)⟩) (u_preV hK hV hn [0, 1] rfl hz 0 rfl rfl) rfl rfl hl.1 rfl (lv_room (Nat.le_of_ble_eq_true rfl)) d_Mo_printPiece_131 ⟨(Nat.le_of_ble_eq_true rfl), (Nat.le_of_ble_eq_true rfl)⟩) hV (fun r9 V9 H locs hp hV hle => ?_)
            obtain ⟨rfl, ⟨g_27, rfl, hO_g_27⟩, hz⟩ := hp
            replace hV := u_back hV hn [0, 1] rfl
            have hV : vS G.1 cls lo s H locs (vU V [(m, eO 8 [u0, u1, u2, u3, .ref pa, u5, u6, u7, u8, u9, u10, u11, u12, u13, u14, u15, u16, u17, u18, .int (nI ((PB ++ pN 112 j ++ pN 61 R.1.1 ++ pN 45 R.1.2.2 ++ pN 58 R.2.1.1 ++ pN 102 R.2.1.2.2).length)), .ref oa]), (oa, eI (gI G) 5000 g_27), (pa, eI (gI G) 1769 P)]) := hV
            refine lv_iconst (v := 0) hx hb d_Mo_printPiece_134 (by decide) ?_
            refine lv_istore (lv' := [(4, .int 0), (3, .int (nI R.2.1.2.1)), (2, .int (nI (29 * j))), (0, .ref m), (1, .int (nI j))]) hx hb d_Mo_printPiece_135 hl (by decide) rfl (fun ls hl => ?_)
            rw [show PB ++ pN 112 j ++ pN 61 R.1.1 ++ pN 45 R.1.2.2 ++ pN 58 R.2.1.1 ++ pN 102 R.2.1.2.2 = PB ++ pN 112 j ++ pN 61 R.1.1 ++ pN 45 R.1.2.2 ++ pN 58 R.2.1.1 ++ pN 102 R.2.1.2.2 ++ prH R.2.2.1 0 from (List.append_nil _).symm] at hV hO_g_27
            exact loop (R.2.2.1.length + 1) 0 (PB ++ pN 112 j ++ pN 61 R.1.1 ++ pN 45 R.1.2.2 ++ pN 58 R.2.1.1 ++ pN 102 R.2.1.2.2) g_27 (by omega) hO_g_27 (by rw [← he]; simp only [List.append_assoc]) (by omega) H locs ls hz hV (lv_sub hl [3, 4, 2, 1, 0] rfl)
        · replace c_24 : R.2.1.2.1 = 2 := (nI_eq (a := R.2.1.2.1) (b := 2) (by omega) (by omega)).mp c_24
          refine lv_bipush (v := 116) hx hb d_Mo_printPiece_105 (by decide) ?_
          refine lv_goto (tgt := 122) hx hb d_Mo_printPiece_107 (by decide) ?_
          rw [show kindN R.2.1.2.1 = 116 by rw [show R.2.1.2.1 = 2 by omega]; rfl] at he
          refine lv_aload_n hx hb d_Mo_printPiece_122 rfl (lv_at hl 2 rfl) ?_
          refine u_get hx hb hts inMo hown hK hV hn 0 rfl rfl 4 (by decide) w_fl_Mo_17 rfl rfl d_Mo_printPiece_123 ?_
          refine lv_iload_n hx hb d_Mo_printPiece_126 rfl (lv_at hl 1 rfl) ?_
          refine lv_bipush (v := 6) hx hb d_Mo_printPiece_127 (by decide) ?_
          refine e_iadd (v := nI (29 * j + 6)) hx hb d_Mo_printPiece_129 (nI_add (29 * j) 6) ?_
          refine u_ialdN hx hb hK hV hn 2 rfl (by omega) (by decide) d_Mo_printPiece_130 ?_
          rw [r6]
          refine v_call (va_runV (As := [.int 116, .int (nI R.2.1.2.2)]) (rest := []) ⟨hx, hb, hml, hown, hts⟩ (c_Mo_putNumber l G lo _ _ m oa u0 u1 u2 u3 (.ref pa) u5 u6 u7 u8 u9 u10 u11 u12 u13 u14 u15 u16 u17 u18 g_21 (PB ++ pN 112 j ++ pN 61 R.1.1 ++ pN 45 R.1.2.2 ++ pN 58 R.2.1.1) (nd_sub hn [0, 1] (by decide) rfl) hO_g_21 116 R.2.1.2.2 (by omega) (by have hl9 := congrArg List.length he; simp only [List.length_append, List.length_singleton, List.length_cons, List.length_nil] at hl9 ⊢; omega)) (kwV 2 hts w_co_Mo_putNumber rfl rfl w_it_Mo w_ml_Mo_183 w_im_Mo_putNumber w_se_Mo__Mo_putNumber (by decide +kernel) ⟨(Nat.le_of_ble_eq_true rfl), (Nat.le_of_ble_eq_true rfl)⟩) (u_preV hK hV hn [0, 1] rfl hz 0 rfl rfl) rfl rfl hl.1 rfl (lv_room (Nat.le_of_ble_eq_true rfl)) d_Mo_printPiece_131 ⟨(Nat.le_of_ble_eq_true rfl), (Nat.le_of_ble_eq_true rfl)⟩) hV (fun r9 V9 H locs hp hV hle => ?_)
          obtain ⟨rfl, ⟨g_28, rfl, hO_g_28⟩, hz⟩ := hp
          replace hV := u_back hV hn [0, 1] rfl
          have hV : vS G.1 cls lo s H locs (vU V [(m, eO 8 [u0, u1, u2, u3, .ref pa, u5, u6, u7, u8, u9, u10, u11, u12, u13, u14, u15, u16, u17, u18, .int (nI ((PB ++ pN 112 j ++ pN 61 R.1.1 ++ pN 45 R.1.2.2 ++ pN 58 R.2.1.1 ++ pN 116 R.2.1.2.2).length)), .ref oa]), (oa, eI (gI G) 5000 g_28), (pa, eI (gI G) 1769 P)]) := hV
          refine lv_iconst (v := 0) hx hb d_Mo_printPiece_134 (by decide) ?_
          refine lv_istore (lv' := [(4, .int 0), (3, .int (nI R.2.1.2.1)), (2, .int (nI (29 * j))), (0, .ref m), (1, .int (nI j))]) hx hb d_Mo_printPiece_135 hl (by decide) rfl (fun ls hl => ?_)
          rw [show PB ++ pN 112 j ++ pN 61 R.1.1 ++ pN 45 R.1.2.2 ++ pN 58 R.2.1.1 ++ pN 116 R.2.1.2.2 = PB ++ pN 112 j ++ pN 61 R.1.1 ++ pN 45 R.1.2.2 ++ pN 58 R.2.1.1 ++ pN 116 R.2.1.2.2 ++ prH R.2.2.1 0 from (List.append_nil _).symm] at hV hO_g_28
          exact loop (R.2.2.1.length + 1) 0 (PB ++ pN 112 j ++ pN 61 R.1.1 ++ pN 45 R.1.2.2 ++ pN 58 R.2.1.1 ++ pN 116 R.2.1.2.2) g_28 (by omega) hO_g_28 (by rw [← he]; simp only [List.append_assoc]) (by omega) H locs ls hz hV (lv_sub hl [3, 4, 2, 1, 0] rfl)
      · replace c_23 : R.2.1.2.1 = 1 := (nI_eq (a := R.2.1.2.1) (b := 1) (by omega) (by omega)).mp c_23
        refine lv_bipush (v := 98) hx hb d_Mo_printPiece_95 (by decide) ?_
        refine lv_goto (tgt := 122) hx hb d_Mo_printPiece_97 (by decide) ?_
        rw [show kindN R.2.1.2.1 = 98 by rw [show R.2.1.2.1 = 1 by omega]; rfl] at he
        refine lv_aload_n hx hb d_Mo_printPiece_122 rfl (lv_at hl 2 rfl) ?_
        refine u_get hx hb hts inMo hown hK hV hn 0 rfl rfl 4 (by decide) w_fl_Mo_17 rfl rfl d_Mo_printPiece_123 ?_
        refine lv_iload_n hx hb d_Mo_printPiece_126 rfl (lv_at hl 1 rfl) ?_
        refine lv_bipush (v := 6) hx hb d_Mo_printPiece_127 (by decide) ?_
        refine e_iadd (v := nI (29 * j + 6)) hx hb d_Mo_printPiece_129 (nI_add (29 * j) 6) ?_
        refine u_ialdN hx hb hK hV hn 2 rfl (by omega) (by decide) d_Mo_printPiece_130 ?_
        rw [r6]
        refine v_call (va_runV (As := [.int 98, .int (nI R.2.1.2.2)]) (rest := []) ⟨hx, hb, hml, hown, hts⟩ (c_Mo_putNumber l G lo _ _ m oa u0 u1 u2 u3 (.ref pa) u5 u6 u7 u8 u9 u10 u11 u12 u13 u14 u15 u16 u17 u18 g_21 (PB ++ pN 112 j ++ pN 61 R.1.1 ++ pN 45 R.1.2.2 ++ pN 58 R.2.1.1) (nd_sub hn [0, 1] (by decide) rfl) hO_g_21 98 R.2.1.2.2 (by omega) (by have hl9 := congrArg List.length he; simp only [List.length_append, List.length_singleton, List.length_cons, List.length_nil] at hl9 ⊢; omega)) (kwV 2 hts w_co_Mo_putNumber rfl rfl w_it_Mo w_ml_Mo_183 w_im_Mo_putNumber w_se_Mo__Mo_putNumber (by decide +kernel) ⟨(Nat.le_of_ble_eq_true rfl), (Nat.le_of_ble_eq_true rfl)⟩) (u_preV hK hV hn [0, 1] rfl hz 0 rfl rfl) rfl rfl hl.1 rfl (lv_room (Nat.le_of_ble_eq_true rfl)) d_Mo_printPiece_131 ⟨(Nat.le_of_ble_eq_true rfl), (Nat.le_of_ble_eq_true rfl)⟩) hV (fun r9 V9 H locs hp hV hle => ?_)
        obtain ⟨rfl, ⟨g_29, rfl, hO_g_29⟩, hz⟩ := hp
        replace hV := u_back hV hn [0, 1] rfl
        have hV : vS G.1 cls lo s H locs (vU V [(m, eO 8 [u0, u1, u2, u3, .ref pa, u5, u6, u7, u8, u9, u10, u11, u12, u13, u14, u15, u16, u17, u18, .int (nI ((PB ++ pN 112 j ++ pN 61 R.1.1 ++ pN 45 R.1.2.2 ++ pN 58 R.2.1.1 ++ pN 98 R.2.1.2.2).length)), .ref oa]), (oa, eI (gI G) 5000 g_29), (pa, eI (gI G) 1769 P)]) := hV
        refine lv_iconst (v := 0) hx hb d_Mo_printPiece_134 (by decide) ?_
        refine lv_istore (lv' := [(4, .int 0), (3, .int (nI R.2.1.2.1)), (2, .int (nI (29 * j))), (0, .ref m), (1, .int (nI j))]) hx hb d_Mo_printPiece_135 hl (by decide) rfl (fun ls hl => ?_)
        rw [show PB ++ pN 112 j ++ pN 61 R.1.1 ++ pN 45 R.1.2.2 ++ pN 58 R.2.1.1 ++ pN 98 R.2.1.2.2 = PB ++ pN 112 j ++ pN 61 R.1.1 ++ pN 45 R.1.2.2 ++ pN 58 R.2.1.1 ++ pN 98 R.2.1.2.2 ++ prH R.2.2.1 0 from (List.append_nil _).symm] at hV hO_g_29
        exact loop (R.2.2.1.length + 1) 0 (PB ++ pN 112 j ++ pN 61 R.1.1 ++ pN 45 R.1.2.2 ++ pN 58 R.2.1.1 ++ pN 98 R.2.1.2.2) g_29 (by omega) hO_g_29 (by rw [← he]; simp only [List.append_assoc]) (by omega) H locs ls hz hV (lv_sub hl [3, 4, 2, 1, 0] rfl)
    · replace c_22 : R.2.1.2.1 = 0 := (nI_eq (a := R.2.1.2.1) (b := 0) (by omega) (by omega)).mp c_22
      refine lv_bipush (v := 114) hx hb d_Mo_printPiece_85 (by decide) ?_
      refine lv_goto (tgt := 122) hx hb d_Mo_printPiece_87 (by decide) ?_
      rw [show kindN R.2.1.2.1 = 114 by rw [show R.2.1.2.1 = 0 by omega]; rfl] at he
      refine lv_aload_n hx hb d_Mo_printPiece_122 rfl (lv_at hl 2 rfl) ?_
      refine u_get hx hb hts inMo hown hK hV hn 0 rfl rfl 4 (by decide) w_fl_Mo_17 rfl rfl d_Mo_printPiece_123 ?_
      refine lv_iload_n hx hb d_Mo_printPiece_126 rfl (lv_at hl 1 rfl) ?_
      refine lv_bipush (v := 6) hx hb d_Mo_printPiece_127 (by decide) ?_
      refine e_iadd (v := nI (29 * j + 6)) hx hb d_Mo_printPiece_129 (nI_add (29 * j) 6) ?_
      refine u_ialdN hx hb hK hV hn 2 rfl (by omega) (by decide) d_Mo_printPiece_130 ?_
      rw [r6]
      refine v_call (va_runV (As := [.int 114, .int (nI R.2.1.2.2)]) (rest := []) ⟨hx, hb, hml, hown, hts⟩ (c_Mo_putNumber l G lo _ _ m oa u0 u1 u2 u3 (.ref pa) u5 u6 u7 u8 u9 u10 u11 u12 u13 u14 u15 u16 u17 u18 g_21 (PB ++ pN 112 j ++ pN 61 R.1.1 ++ pN 45 R.1.2.2 ++ pN 58 R.2.1.1) (nd_sub hn [0, 1] (by decide) rfl) hO_g_21 114 R.2.1.2.2 (by omega) (by have hl9 := congrArg List.length he; simp only [List.length_append, List.length_singleton, List.length_cons, List.length_nil] at hl9 ⊢; omega)) (kwV 2 hts w_co_Mo_putNumber rfl rfl w_it_Mo w_ml_Mo_183 w_im_Mo_putNumber w_se_Mo__Mo_putNumber (by decide +kernel) ⟨(Nat.le_of_ble_eq_true rfl), (Nat.le_of_ble_eq_true rfl)⟩) (u_preV hK hV hn [0, 1] rfl hz 0 rfl rfl) rfl rfl hl.1 rfl (lv_room (Nat.le_of_ble_eq_true rfl)) d_Mo_printPiece_131 ⟨(Nat.le_of_ble_eq_true rfl), (Nat.le_of_ble_eq_true rfl)⟩) hV (fun r9 V9 H locs hp hV hle => ?_)
      obtain ⟨rfl, ⟨g_30, rfl, hO_g_30⟩, hz⟩ := hp
      replace hV := u_back hV hn [0, 1] rfl
      have hV : vS G.1 cls lo s H locs (vU V [(m, eO 8 [u0, u1, u2, u3, .ref pa, u5, u6, u7, u8, u9, u10, u11, u12, u13, u14, u15, u16, u17, u18, .int (nI ((PB ++ pN 112 j ++ pN 61 R.1.1 ++ pN 45 R.1.2.2 ++ pN 58 R.2.1.1 ++ pN 114 R.2.1.2.2).length)), .ref oa]), (oa, eI (gI G) 5000 g_30), (pa, eI (gI G) 1769 P)]) := hV
      refine lv_iconst (v := 0) hx hb d_Mo_printPiece_134 (by decide) ?_
      refine lv_istore (lv' := [(4, .int 0), (3, .int (nI R.2.1.2.1)), (2, .int (nI (29 * j))), (0, .ref m), (1, .int (nI j))]) hx hb d_Mo_printPiece_135 hl (by decide) rfl (fun ls hl => ?_)
      rw [show PB ++ pN 112 j ++ pN 61 R.1.1 ++ pN 45 R.1.2.2 ++ pN 58 R.2.1.1 ++ pN 114 R.2.1.2.2 = PB ++ pN 112 j ++ pN 61 R.1.1 ++ pN 45 R.1.2.2 ++ pN 58 R.2.1.1 ++ pN 114 R.2.1.2.2 ++ prH R.2.2.1 0 from (List.append_nil _).symm] at hV hO_g_30
      exact loop (R.2.2.1.length + 1) 0 (PB ++ pN 112 j ++ pN 61 R.1.1 ++ pN 45 R.1.2.2 ++ pN 58 R.2.1.1 ++ pN 114 R.2.1.2.2) g_30 (by omega) hO_g_30 (by rw [← he]; simp only [List.append_assoc]) (by omega) H locs ls hz hV (lv_sub hl [3, 4, 2, 1, 0] rfl)
  · rw [show (if R.1.2.1 = true then 62 else 45 : Nat) = 62 by cases hb9 : R.1.2.1 <;> simp_all [b2i]] at he
    refine lv_bipush (v := 62) hx hb d_Mo_printPiece_39 (by decide) ?_
    refine lv_goto (tgt := 46) hx hb d_Mo_printPiece_41 (by decide) ?_
    refine lv_aload_n hx hb d_Mo_printPiece_46 rfl (lv_at hl 1 rfl) ?_
    refine u_get hx hb hts inMo hown hK hV hn 0 rfl rfl 4 (by decide) w_fl_Mo_17 rfl rfl d_Mo_printPiece_47 ?_
    refine lv_iload_n hx hb d_Mo_printPiece_50 rfl (lv_at hl 0 rfl) ?_
    refine lv_iconst (v := 2) hx hb d_Mo_printPiece_51 (by decide) ?_
    refine e_iadd (v := nI (29 * j + 2)) hx hb d_Mo_printPiece_52 (nI_add (29 * j) 2) ?_
    refine u_ialdN hx hb hK hV hn 2 rfl (by omega) (by decide) d_Mo_printPiece_53 ?_
    rw [r2]
    refine v_call (va_runV (As := [.int 62, .int (nI R.1.2.2)]) (rest := []) ⟨hx, hb, hml, hown, hts⟩ (c_Mo_putNumber l G lo _ _ m oa u0 u1 u2 u3 (.ref pa) u5 u6 u7 u8 u9 u10 u11 u12 u13 u14 u15 u16 u17 u18 g_18 (PB ++ pN 112 j ++ pN 61 R.1.1) (nd_sub hn [0, 1] (by decide) rfl) hO_g_18 62 R.1.2.2 (by omega) (by have hl9 := congrArg List.length he; simp only [List.length_append, List.length_singleton, List.length_cons, List.length_nil] at hl9 ⊢; omega)) (kwV 2 hts w_co_Mo_putNumber rfl rfl w_it_Mo w_ml_Mo_183 w_im_Mo_putNumber w_se_Mo__Mo_putNumber (by decide +kernel) ⟨(Nat.le_of_ble_eq_true rfl), (Nat.le_of_ble_eq_true rfl)⟩) (u_preV hK hV hn [0, 1] rfl hz 0 rfl rfl) rfl rfl hl.1 rfl (lv_room (Nat.le_of_ble_eq_true rfl)) d_Mo_printPiece_54 ⟨(Nat.le_of_ble_eq_true rfl), (Nat.le_of_ble_eq_true rfl)⟩) hV (fun r9 V9 H locs hp hV hle => ?_)
    obtain ⟨rfl, ⟨g_31, rfl, hO_g_31⟩, hz⟩ := hp
    replace hV := u_back hV hn [0, 1] rfl
    have hV : vS G.1 cls lo s H locs (vU V [(m, eO 8 [u0, u1, u2, u3, .ref pa, u5, u6, u7, u8, u9, u10, u11, u12, u13, u14, u15, u16, u17, u18, .int (nI ((PB ++ pN 112 j ++ pN 61 R.1.1 ++ pN 62 R.1.2.2).length)), .ref oa]), (oa, eI (gI G) 5000 g_31), (pa, eI (gI G) 1769 P)]) := hV
    refine lv_aload_n hx hb d_Mo_printPiece_57 rfl (lv_at hl 1 rfl) ?_
    refine lv_bipush (v := 58) hx hb d_Mo_printPiece_58 (by decide) ?_
    refine lv_aload_n hx hb d_Mo_printPiece_60 rfl (lv_at hl 1 rfl) ?_
    refine u_get hx hb hts inMo hown hK hV hn 0 rfl rfl 4 (by decide) w_fl_Mo_17 rfl rfl d_Mo_printPiece_61 ?_
    refine lv_iload_n hx hb d_Mo_printPiece_64 rfl (lv_at hl 0 rfl) ?_
    refine lv_iconst (v := 4) hx hb d_Mo_printPiece_65 (by decide) ?_
    refine e_iadd (v := nI (29 * j + 4)) hx hb d_Mo_printPiece_66 (nI_add (29 * j) 4) ?_
    refine u_ialdN hx hb hK hV hn 2 rfl (by omega) (by decide) d_Mo_printPiece_67 ?_
    rw [r4]
    refine v_call (va_runV (As := [.int 58, .int (nI R.2.1.1)]) (rest := []) ⟨hx, hb, hml, hown, hts⟩ (c_Mo_putNumber l G lo _ _ m oa u0 u1 u2 u3 (.ref pa) u5 u6 u7 u8 u9 u10 u11 u12 u13 u14 u15 u16 u17 u18 g_31 (PB ++ pN 112 j ++ pN 61 R.1.1 ++ pN 62 R.1.2.2) (nd_sub hn [0, 1] (by decide) rfl) hO_g_31 58 R.2.1.1 (by omega) (by have hl9 := congrArg List.length he; simp only [List.length_append, List.length_singleton, List.length_cons, List.length_nil] at hl9 ⊢; omega)) (kwV 2 hts w_co_Mo_putNumber rfl rfl w_it_Mo w_ml_Mo_183 w_im_Mo_putNumber w_se_Mo__Mo_putNumber (by decide +kernel) ⟨(Nat.le_of_ble_eq_true rfl), (Nat.le_of_ble_eq_true rfl)⟩) (u_preV hK hV hn [0, 1] rfl hz 0 rfl rfl) rfl rfl hl.1 rfl (lv_room (Nat.le_of_ble_eq_true rfl)) d_Mo_printPiece_68 ⟨(Nat.le_of_ble_eq_true rfl), (Nat.le_of_ble_eq_true rfl)⟩) hV (fun r9 V9 H locs hp hV hle => ?_)
    obtain ⟨rfl, ⟨g_32, rfl, hO_g_32⟩, hz⟩ := hp
    replace hV := u_back hV hn [0, 1] rfl
    have hV : vS G.1 cls lo s H locs (vU V [(m, eO 8 [u0, u1, u2, u3, .ref pa, u5, u6, u7, u8, u9, u10, u11, u12, u13, u14, u15, u16, u17, u18, .int (nI ((PB ++ pN 112 j ++ pN 61 R.1.1 ++ pN 62 R.1.2.2 ++ pN 58 R.2.1.1).length)), .ref oa]), (oa, eI (gI G) 5000 g_32), (pa, eI (gI G) 1769 P)]) := hV
    refine lv_aload_n hx hb d_Mo_printPiece_71 rfl (lv_at hl 1 rfl) ?_
    refine u_get hx hb hts inMo hown hK hV hn 0 rfl rfl 4 (by decide) w_fl_Mo_17 rfl rfl d_Mo_printPiece_72 ?_
    refine lv_iload_n hx hb d_Mo_printPiece_75 rfl (lv_at hl 0 rfl) ?_
    refine lv_iconst (v := 5) hx hb d_Mo_printPiece_76 (by decide) ?_
    refine e_iadd (v := nI (29 * j + 5)) hx hb d_Mo_printPiece_77 (nI_add (29 * j) 5) ?_
    refine u_ialdN hx hb hK hV hn 2 rfl (by omega) (by decide) d_Mo_printPiece_78 ?_
    rw [r5]
    refine lv_istore_n (lv' := [(3, .int (nI R.2.1.2.1)), (2, .int (nI (29 * j))), (0, .ref m), (1, .int (nI j))]) hx hb d_Mo_printPiece_79 rfl hl (by decide) rfl (fun ls hl => ?_)
    refine lv_aload_n hx hb d_Mo_printPiece_80 rfl (lv_at hl 2 rfl) ?_
    refine lv_iload_n hx hb d_Mo_printPiece_81 rfl (lv_at hl 0 rfl) ?_
    refine lv_if_ne (tgt := 90) hx hb d_Mo_printPiece_82 (by decide) (fun c_33 => ?_) (fun c_33 => ?_)
    · replace c_33 : ¬ R.2.1.2.1 = 0 := fun z9 => c_33 ((nI_eq (a := R.2.1.2.1) (b := 0) (by omega) (by omega)).mpr z9)
      refine lv_iload_n hx hb d_Mo_printPiece_90 rfl (lv_at hl 0 rfl) ?_
      refine lv_iconst (v := 1) hx hb d_Mo_printPiece_91 (by decide) ?_
      refine lv_icmp_ne (tgt := 100) hx hb d_Mo_printPiece_92 (by decide) (fun c_34 => ?_) (fun c_34 => ?_)
      · replace c_34 : ¬ R.2.1.2.1 = 1 := fun z9 => c_34 ((nI_eq (a := R.2.1.2.1) (b := 1) (by omega) (by omega)).mpr z9)
        refine lv_iload_n hx hb d_Mo_printPiece_100 rfl (lv_at hl 0 rfl) ?_
        refine lv_iconst (v := 2) hx hb d_Mo_printPiece_101 (by decide) ?_
        refine lv_icmp_ne (tgt := 110) hx hb d_Mo_printPiece_102 (by decide) (fun c_35 => ?_) (fun c_35 => ?_)
        · replace c_35 : ¬ R.2.1.2.1 = 2 := fun z9 => c_35 ((nI_eq (a := R.2.1.2.1) (b := 2) (by omega) (by omega)).mpr z9)
          refine lv_iload_n hx hb d_Mo_printPiece_110 rfl (lv_at hl 0 rfl) ?_
          refine lv_iconst (v := 3) hx hb d_Mo_printPiece_111 (by decide) ?_
          refine lv_icmp_ne (tgt := 120) hx hb d_Mo_printPiece_112 (by decide) (fun c_36 => ?_) (fun c_36 => ?_)
          · replace c_36 : ¬ R.2.1.2.1 = 3 := fun z9 => c_36 ((nI_eq (a := R.2.1.2.1) (b := 3) (by omega) (by omega)).mpr z9)
            refine lv_bipush (v := 119) hx hb d_Mo_printPiece_120 (by decide) ?_
            rw [show kindN R.2.1.2.1 = 119 by rw [show R.2.1.2.1 = 4 by omega]; rfl] at he
            refine lv_aload_n hx hb d_Mo_printPiece_122 rfl (lv_at hl 2 rfl) ?_
            refine u_get hx hb hts inMo hown hK hV hn 0 rfl rfl 4 (by decide) w_fl_Mo_17 rfl rfl d_Mo_printPiece_123 ?_
            refine lv_iload_n hx hb d_Mo_printPiece_126 rfl (lv_at hl 1 rfl) ?_
            refine lv_bipush (v := 6) hx hb d_Mo_printPiece_127 (by decide) ?_
            refine e_iadd (v := nI (29 * j + 6)) hx hb d_Mo_printPiece_129 (nI_add (29 * j) 6) ?_
            refine u_ialdN hx hb hK hV hn 2 rfl (by omega) (by decide) d_Mo_printPiece_130 ?_
            rw [r6]
            refine v_call (va_runV (As := [.int 119, .int (nI R.2.1.2.2)]) (rest := []) ⟨hx, hb, hml, hown, hts⟩ (c_Mo_putNumber l G lo _ _ m oa u0 u1 u2 u3 (.ref pa) u5 u6 u7 u8 u9 u10 u11 u12 u13 u14 u15 u16 u17 u18 g_32 (PB ++ pN 112 j ++ pN 61 R.1.1 ++ pN 62 R.1.2.2 ++ pN 58 R.2.1.1) (nd_sub hn [0, 1] (by decide) rfl) hO_g_32 119 R.2.1.2.2 (by omega) (by have hl9 := congrArg List.length he; simp only [List.length_append, List.length_singleton, List.length_cons, List.length_nil] at hl9 ⊢; omega)) (kwV 2 hts w_co_Mo_putNumber rfl rfl w_it_Mo w_ml_Mo_183 w_im_Mo_putNumber w_se_Mo__Mo_putNumber (by decide +kernel) ⟨(Nat.le_of_ble_eq_true rfl), (Nat.le_of_ble_eq_true rfl)⟩) (u_preV hK hV hn [0, 1] rfl hz 0 rfl rfl) rfl rfl hl.1 rfl (lv_room (Nat.le_of_ble_eq_true rfl)) d_Mo_printPiece_131 ⟨(Nat.le_of_ble_eq_true rfl), (Nat.le_of_ble_eq_true rfl)⟩) hV (fun r9 V9 H locs hp hV hle => ?_)
            obtain ⟨rfl, ⟨g_37, rfl, hO_g_37⟩, hz⟩ := hp
            replace hV := u_back hV hn [0, 1] rfl
            have hV : vS G.1 cls lo s H locs (vU V [(m, eO 8 [u0, u1, u2, u3, .ref pa, u5, u6, u7, u8, u9, u10, u11, u12, u13, u14, u15, u16, u17, u18, .int (nI ((PB ++ pN 112 j ++ pN 61 R.1.1 ++ pN 62 R.1.2.2 ++ pN 58 R.2.1.1 ++ pN 119 R.2.1.2.2).length)), .ref oa]), (oa, eI (gI G) 5000 g_37), (pa, eI (gI G) 1769 P)]) := hV
            refine lv_iconst (v := 0) hx hb d_Mo_printPiece_134 (by decide) ?_
            refine lv_istore (lv' := [(4, .int 0), (3, .int (nI R.2.1.2.1)), (2, .int (nI (29 * j))), (0, .ref m), (1, .int (nI j))]) hx hb d_Mo_printPiece_135 hl (by decide) rfl (fun ls hl => ?_)
            rw [show PB ++ pN 112 j ++ pN 61 R.1.1 ++ pN 62 R.1.2.2 ++ pN 58 R.2.1.1 ++ pN 119 R.2.1.2.2 = PB ++ pN 112 j ++ pN 61 R.1.1 ++ pN 62 R.1.2.2 ++ pN 58 R.2.1.1 ++ pN 119 R.2.1.2.2 ++ prH R.2.2.1 0 from (List.append_nil _).symm] at hV hO_g_37
            exact loop (R.2.2.1.length + 1) 0 (PB ++ pN 112 j ++ pN 61 R.1.1 ++ pN 62 R.1.2.2 ++ pN 58 R.2.1.1 ++ pN 119 R.2.1.2.2) g_37 (by omega) hO_g_37 (by rw [← he]; simp only [List.append_assoc]) (by omega) H locs ls hz hV (lv_sub hl [3, 4, 2, 1, 0] rfl)
          · replace c_36 : R.2.1.2.1 = 3 := (nI_eq (a := R.2.1.2.1) (b := 3) (by omega) (by omega)).mp c_36
            refine lv_bipush (v := 102) hx hb d_Mo_printPiece_115 (by decide) ?_
            refine lv_goto (tgt := 122) hx hb d_Mo_printPiece_117 (by decide) ?_
            rw [show kindN R.2.1.2.1 = 102 by rw [show R.2.1.2.1 = 3 by omega]; rfl] at he
            refine lv_aload_n hx hb d_Mo_printPiece_122 rfl (lv_at hl 2 rfl) ?_
            refine u_get hx hb hts inMo hown hK hV hn 0 rfl rfl 4 (by decide) w_fl_Mo_17 rfl rfl d_Mo_printPiece_123 ?_
            refine lv_iload_n hx hb d_Mo_printPiece_126 rfl (lv_at hl 1 rfl) ?_
            refine lv_bipush (v := 6) hx hb d_Mo_printPiece_127 (by decide) ?_
            refine e_iadd (v := nI (29 * j + 6)) hx hb d_Mo_printPiece_129 (nI_add (29 * j) 6) ?_
            refine u_ialdN hx hb hK hV hn 2 rfl (by omega) (by decide) d_Mo_printPiece_130 ?_
            rw [r6]
            refine v_call (va_runV (As := [.int 102, .int (nI R.2.1.2.2)]) (rest := []) ⟨hx, hb, hml, hown, hts⟩ (c_Mo_putNumber l G lo _ _ m oa u0 u1 u2 u3 (.ref pa) u5 u6 u7 u8 u9 u10 u11 u12 u13 u14 u15 u16 u17 u18 g_32 (PB ++ pN 112 j ++ pN 61 R.1.1 ++ pN 62 R.1.2.2 ++ pN 58 R.2.1.1) (nd_sub hn [0, 1] (by decide) rfl) hO_g_32 102 R.2.1.2.2 (by omega) (by have hl9 := congrArg List.length he; simp only [List.length_append, List.length_singleton, List.length_cons, List.length_nil] at hl9 ⊢; omega)) (kwV 2 hts w_co_Mo_putNumber rfl rfl w_it_Mo w_ml_Mo_183 w_im_Mo_putNumber w_se_Mo__Mo_putNumber (by decide +kernel) ⟨(Nat.le_of_ble_eq_true rfl), (Nat.le_of_ble_eq_true rfl)⟩) (u_preV hK hV hn [0, 1] rfl hz 0 rfl rfl) rfl rfl hl.1 rfl (lv_room (Nat.le_of_ble_eq_true rfl)) d_Mo_printPiece_131 ⟨(Nat.le_of_ble_eq_true rfl), (Nat.le_of_ble_eq_true rfl)⟩) hV (fun r9 V9 H locs hp hV hle => ?_)
            obtain ⟨rfl, ⟨g_38, rfl, hO_g_38⟩, hz⟩ := hp
            replace hV := u_back hV hn [0, 1] rfl
            have hV : vS G.1 cls lo s H locs (vU V [(m, eO 8 [u0, u1, u2, u3, .ref pa, u5, u6, u7, u8, u9, u10, u11, u12, u13, u14, u15, u16, u17, u18, .int (nI ((PB ++ pN 112 j ++ pN 61 R.1.1 ++ pN 62 R.1.2.2 ++ pN 58 R.2.1.1 ++ pN 102 R.2.1.2.2).length)), .ref oa]), (oa, eI (gI G) 5000 g_38), (pa, eI (gI G) 1769 P)]) := hV
            refine lv_iconst (v := 0) hx hb d_Mo_printPiece_134 (by decide) ?_
            refine lv_istore (lv' := [(4, .int 0), (3, .int (nI R.2.1.2.1)), (2, .int (nI (29 * j))), (0, .ref m), (1, .int (nI j))]) hx hb d_Mo_printPiece_135 hl (by decide) rfl (fun ls hl => ?_)
            rw [show PB ++ pN 112 j ++ pN 61 R.1.1 ++ pN 62 R.1.2.2 ++ pN 58 R.2.1.1 ++ pN 102 R.2.1.2.2 = PB ++ pN 112 j ++ pN 61 R.1.1 ++ pN 62 R.1.2.2 ++ pN 58 R.2.1.1 ++ pN 102 R.2.1.2.2 ++ prH R.2.2.1 0 from (List.append_nil _).symm] at hV hO_g_38
            exact loop (R.2.2.1.length + 1) 0 (PB ++ pN 112 j ++ pN 61 R.1.1 ++ pN 62 R.1.2.2 ++ pN 58 R.2.1.1 ++ pN 102 R.2.1.2.2) g_38 (by omega) hO_g_38 (by rw [← he]; simp only [List.append_assoc]) (by omega) H locs ls hz hV (lv_sub hl [3, 4, 2, 1, 0] rfl)
        · replace c_35 : R.2.1.2.1 = 2 := (nI_eq (a := R.2.1.2.1) (b := 2) (by omega) (by omega)).mp c_35
          refine lv_bipush (v := 116) hx hb d_Mo_printPiece_105 (by decide) ?_
          refine lv_goto (tgt := 122) hx hb d_Mo_printPiece_107 (by decide) ?_
          rw [show kindN R.2.1.2.1 = 116 by rw [show R.2.1.2.1 = 2 by omega]; rfl] at he
          refine lv_aload_n hx hb d_Mo_printPiece_122 rfl (lv_at hl 2 rfl) ?_
          refine u_get hx hb hts inMo hown hK hV hn 0 rfl rfl 4 (by decide) w_fl_Mo_17 rfl rfl d_Mo_printPiece_123 ?_
          refine lv_iload_n hx hb d_Mo_printPiece_126 rfl (lv_at hl 1 rfl) ?_
          refine lv_bipush (v := 6) hx hb d_Mo_printPiece_127 (by decide) ?_
          refine e_iadd (v := nI (29 * j + 6)) hx hb d_Mo_printPiece_129 (nI_add (29 * j) 6) ?_
          refine u_ialdN hx hb hK hV hn 2 rfl (by omega) (by decide) d_Mo_printPiece_130 ?_
          rw [r6]
          refine v_call (va_runV (As := [.int 116, .int (nI R.2.1.2.2)]) (rest := []) ⟨hx, hb, hml, hown, hts⟩ (c_Mo_putNumber l G lo _ _ m oa u0 u1 u2 u3 (.ref pa) u5 u6 u7 u8 u9 u10 u11 u12 u13 u14 u15 u16 u17 u18 g_32 (PB ++ pN 112 j ++ pN 61 R.1.1 ++ pN 62 R.1.2.2 ++ pN 58 R.2.1.1) (nd_sub hn [0, 1] (by decide) rfl) hO_g_32 116 R.2.1.2.2 (by omega) (by have hl9 := congrArg List.length he; simp only [List.length_append, List.length_singleton, List.length_cons, List.length_nil] at hl9 ⊢; omega)) (kwV 2 hts w_co_Mo_putNumber rfl rfl w_it_Mo w_ml_Mo_183 w_im_Mo_putNumber w_se_Mo__Mo_putNumber (by decide +kernel) ⟨(Nat.le_of_ble_eq_true rfl), (Nat.le_of_ble_eq_true rfl)⟩) (u_preV hK hV hn [0, 1] rfl hz 0 rfl rfl) rfl rfl hl.1 rfl (lv_room (Nat.le_of_ble_eq_true rfl)) d_Mo_printPiece_131 ⟨(Nat.le_of_ble_eq_true rfl), (Nat.le_of_ble_eq_true rfl)⟩) hV (fun r9 V9 H locs hp hV hle => ?_)
          obtain ⟨rfl, ⟨g_39, rfl, hO_g_39⟩, hz⟩ := hp
          replace hV := u_back hV hn [0, 1] rfl
          have hV : vS G.1 cls lo s H locs (vU V [(m, eO 8 [u0, u1, u2, u3, .ref pa, u5, u6, u7, u8, u9, u10, u11, u12, u13, u14, u15, u16, u17, u18, .int (nI ((PB ++ pN 112 j ++ pN 61 R.1.1 ++ pN 62 R.1.2.2 ++ pN 58 R.2.1.1 ++ pN 116 R.2.1.2.2).length)), .ref oa]), (oa, eI (gI G) 5000 g_39), (pa, eI (gI G) 1769 P)]) := hV
          refine lv_iconst (v := 0) hx hb d_Mo_printPiece_134 (by decide) ?_
          refine lv_istore (lv' := [(4, .int 0), (3, .int (nI R.2.1.2.1)), (2, .int (nI (29 * j))), (0, .ref m), (1, .int (nI j))]) hx hb d_Mo_printPiece_135 hl (by decide) rfl (fun ls hl => ?_)
          rw [show PB ++ pN 112 j ++ pN 61 R.1.1 ++ pN 62 R.1.2.2 ++ pN 58 R.2.1.1 ++ pN 116 R.2.1.2.2 = PB ++ pN 112 j ++ pN 61 R.1.1 ++ pN 62 R.1.2.2 ++ pN 58 R.2.1.1 ++ pN 116 R.2.1.2.2 ++ prH R.2.2.1 0 from (List.append_nil _).symm] at hV hO_g_39
          exact loop (R.2.2.1.length + 1) 0 (PB ++ pN 112 j ++ pN 61 R.1.1 ++ pN 62 R.1.2.2 ++ pN 58 R.2.1.1 ++ pN 116 R.2.1.2.2) g_39 (by omega) hO_g_39 (by rw [← he]; simp only [List.append_assoc]) (by omega) H locs ls hz hV (lv_sub hl [3, 4, 2, 1, 0] rfl)
      · replace c_34 : R.2.1.2.1 = 1 := (nI_eq (a := R.2.1.2.1) (b := 1) (by omega) (by omega)).mp c_34
        refine lv_bipush (v := 98) hx hb d_Mo_printPiece_95 (by decide) ?_
        refine lv_goto (tgt := 122) hx hb d_Mo_printPiece_97 (by decide) ?_
        rw [show kindN R.2.1.2.1 = 98 by rw [show R.2.1.2.1 = 1 by omega]; rfl] at he
        refine lv_aload_n hx hb d_Mo_printPiece_122 rfl (lv_at hl 2 rfl) ?_
        refine u_get hx hb hts inMo hown hK hV hn 0 rfl rfl 4 (by decide) w_fl_Mo_17 rfl rfl d_Mo_printPiece_123 ?_
        refine lv_iload_n hx hb d_Mo_printPiece_126 rfl (lv_at hl 1 rfl) ?_
        refine lv_bipush (v := 6) hx hb d_Mo_printPiece_127 (by decide) ?_
        refine e_iadd (v := nI (29 * j + 6)) hx hb d_Mo_printPiece_129 (nI_add (29 * j) 6) ?_
        refine u_ialdN hx hb hK hV hn 2 rfl (by omega) (by decide) d_Mo_printPiece_130 ?_
        rw [r6]
        refine v_call (va_runV (As := [.int 98, .int (nI R.2.1.2.2)]) (rest := []) ⟨hx, hb, hml, hown, hts⟩ (c_Mo_putNumber l G lo _ _ m oa u0 u1 u2 u3 (.ref pa) u5 u6 u7 u8 u9 u10 u11 u12 u13 u14 u15 u16 u17 u18 g_32 (PB ++ pN 112 j ++ pN 61 R.1.1 ++ pN 62 R.1.2.2 ++ pN 58 R.2.1.1) (nd_sub hn [0, 1] (by decide) rfl) hO_g_32 98 R.2.1.2.2 (by omega) (by have hl9 := congrArg List.length he; simp only [List.length_append, List.length_singleton, List.length_cons, List.length_nil] at hl9 ⊢; omega)) (kwV 2 hts w_co_Mo_putNumber rfl rfl w_it_Mo w_ml_Mo_183 w_im_Mo_putNumber w_se_Mo__Mo_putNumber (by decide +kernel) ⟨(Nat.le_of_ble_eq_true rfl), (Nat.le_of_ble_eq_true rfl)⟩) (u_preV hK hV hn [0, 1] rfl hz 0 rfl rfl) rfl rfl hl.1 rfl (lv_room (Nat.le_of_ble_eq_true rfl)) d_Mo_printPiece_131 ⟨(Nat.le_of_ble_eq_true rfl), (Nat.le_of_ble_eq_true rfl)⟩) hV (fun r9 V9 H locs hp hV hle => ?_)
        obtain ⟨rfl, ⟨g_40, rfl, hO_g_40⟩, hz⟩ := hp
        replace hV := u_back hV hn [0, 1] rfl
        have hV : vS G.1 cls lo s H locs (vU V [(m, eO 8 [u0, u1, u2, u3, .ref pa, u5, u6, u7, u8, u9, u10, u11, u12, u13, u14, u15, u16, u17, u18, .int (nI ((PB ++ pN 112 j ++ pN 61 R.1.1 ++ pN 62 R.1.2.2 ++ pN 58 R.2.1.1 ++ pN 98 R.2.1.2.2).length)), .ref oa]), (oa, eI (gI G) 5000 g_40), (pa, eI (gI G) 1769 P)]) := hV
        refine lv_iconst (v := 0) hx hb d_Mo_printPiece_134 (by decide) ?_
        refine lv_istore (lv' := [(4, .int 0), (3, .int (nI R.2.1.2.1)), (2, .int (nI (29 * j))), (0, .ref m), (1, .int (nI j))]) hx hb d_Mo_printPiece_135 hl (by decide) rfl (fun ls hl => ?_)
        rw [show PB ++ pN 112 j ++ pN 61 R.1.1 ++ pN 62 R.1.2.2 ++ pN 58 R.2.1.1 ++ pN 98 R.2.1.2.2 = PB ++ pN 112 j ++ pN 61 R.1.1 ++ pN 62 R.1.2.2 ++ pN 58 R.2.1.1 ++ pN 98 R.2.1.2.2 ++ prH R.2.2.1 0 from (List.append_nil _).symm] at hV hO_g_40
        exact loop (R.2.2.1.length + 1) 0 (PB ++ pN 112 j ++ pN 61 R.1.1 ++ pN 62 R.1.2.2 ++ pN 58 R.2.1.1 ++ pN 98 R.2.1.2.2) g_40 (by omega) hO_g_40 (by rw [← he]; simp only [List.append_assoc]) (by omega) H locs ls hz hV (lv_sub hl [3, 4, 2, 1, 0] rfl)
    · replace c_33 : R.2.1.2.1 = 0 := (nI_eq (a := R.2.1.2.1) (b := 0) (by omega) (by omega)).mp c_33
      refine lv_bipush (v := 114) hx hb d_Mo_printPiece_85 (by decide) ?_
      refine lv_goto (tgt := 122) hx hb d_Mo_printPiece_87 (by decide) ?_
      rw [show kindN R.2.1.2.1 = 114 by rw [show R.2.1.2.1 = 0 by omega]; rfl] at he
      refine lv_aload_n hx hb d_Mo_printPiece_122 rfl (lv_at hl 2 rfl) ?_
      refine u_get hx hb hts inMo hown hK hV hn 0 rfl rfl 4 (by decide) w_fl_Mo_17 rfl rfl d_Mo_printPiece_123 ?_
      refine lv_iload_n hx hb d_Mo_printPiece_126 rfl (lv_at hl 1 rfl) ?_
      refine lv_bipush (v := 6) hx hb d_Mo_printPiece_127 (by decide) ?_
      refine e_iadd (v := nI (29 * j + 6)) hx hb d_Mo_printPiece_129 (nI_add (29 * j) 6) ?_
      refine u_ialdN hx hb hK hV hn 2 rfl (by omega) (by decide) d_Mo_printPiece_130 ?_
      rw [r6]
      refine v_call (va_runV (As := [.int 114, .int (nI R.2.1.2.2)]) (rest := []) ⟨hx, hb, hml, hown, hts⟩ (c_Mo_putNumber l G lo _ _ m oa u0 u1 u2 u3 (.ref pa) u5 u6 u7 u8 u9 u10 u11 u12 u13 u14 u15 u16 u17 u18 g_32 (PB ++ pN 112 j ++ pN 61 R.1.1 ++ pN 62 R.1.2.2 ++ pN 58 R.2.1.1) (nd_sub hn [0, 1] (by decide) rfl) hO_g_32 114 R.2.1.2.2 (by omega) (by have hl9 := congrArg List.length he; simp only [List.length_append, List.length_singleton, List.length_cons, List.length_nil] at hl9 ⊢; omega)) (kwV 2 hts w_co_Mo_putNumber rfl rfl w_it_Mo w_ml_Mo_183 w_im_Mo_putNumber w_se_Mo__Mo_putNumber (by decide +kernel) ⟨(Nat.le_of_ble_eq_true rfl), (Nat.le_of_ble_eq_true rfl)⟩) (u_preV hK hV hn [0, 1] rfl hz 0 rfl rfl) rfl rfl hl.1 rfl (lv_room (Nat.le_of_ble_eq_true rfl)) d_Mo_printPiece_131 ⟨(Nat.le_of_ble_eq_true rfl), (Nat.le_of_ble_eq_true rfl)⟩) hV (fun r9 V9 H locs hp hV hle => ?_)
      obtain ⟨rfl, ⟨g_41, rfl, hO_g_41⟩, hz⟩ := hp
      replace hV := u_back hV hn [0, 1] rfl
      have hV : vS G.1 cls lo s H locs (vU V [(m, eO 8 [u0, u1, u2, u3, .ref pa, u5, u6, u7, u8, u9, u10, u11, u12, u13, u14, u15, u16, u17, u18, .int (nI ((PB ++ pN 112 j ++ pN 61 R.1.1 ++ pN 62 R.1.2.2 ++ pN 58 R.2.1.1 ++ pN 114 R.2.1.2.2).length)), .ref oa]), (oa, eI (gI G) 5000 g_41), (pa, eI (gI G) 1769 P)]) := hV
      refine lv_iconst (v := 0) hx hb d_Mo_printPiece_134 (by decide) ?_
      refine lv_istore (lv' := [(4, .int 0), (3, .int (nI R.2.1.2.1)), (2, .int (nI (29 * j))), (0, .ref m), (1, .int (nI j))]) hx hb d_Mo_printPiece_135 hl (by decide) rfl (fun ls hl => ?_)
      rw [show PB ++ pN 112 j ++ pN 61 R.1.1 ++ pN 62 R.1.2.2 ++ pN 58 R.2.1.1 ++ pN 114 R.2.1.2.2 = PB ++ pN 112 j ++ pN 61 R.1.1 ++ pN 62 R.1.2.2 ++ pN 58 R.2.1.1 ++ pN 114 R.2.1.2.2 ++ prH R.2.2.1 0 from (List.append_nil _).symm] at hV hO_g_41
      exact loop (R.2.2.1.length + 1) 0 (PB ++ pN 112 j ++ pN 61 R.1.1 ++ pN 62 R.1.2.2 ++ pN 58 R.2.1.1 ++ pN 114 R.2.1.2.2) g_41 (by omega) hO_g_41 (by rw [← he]; simp only [List.append_assoc]) (by omega) H locs ls hz hV (lv_sub hl [3, 4, 2, 1, 0] rfl)
