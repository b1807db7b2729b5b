/-! THE REFERENCE READS A ROW -/
def semi {α : Type} (t : Nat → Nat) (n : Nat) (X : Sum Nat (α × Nat)) : Sum Nat (α × Nat) := sbd X fun z => sbd (tk t n 59 z.2) fun r => .inr (z.1, r)
theorem wI_l {α : Type} {X : Sum Nat α} {e : Nat} (h : X = .inl e) : wI X = nI e := by rw [h]; rfl
theorem wI_r {α : Type} {X : Sum Nat α} {z : α} (h : X = .inr z) : wI X = -1 := by rw [h]; rfl
theorem upd_same (f : Nat → Int32) (i : Nat) (v : Int32) : upd f i v i = v := by simp [upd]
theorem upd_ne (f : Nat → Int32) {i j : Nat} (v : Int32) (h : ¬ j = i) : upd f i v j = f j := by simp [upd, h]

theorem d_Mo_spotRow_0 : decode b_Mo_spotRow 0 = .ok (.aload_n 0, 1) := by decide +kernel
theorem d_Mo_spotRow_1 : decode b_Mo_spotRow 1 = .ok (.iconst 1, 1) := by decide +kernel
theorem d_Mo_spotRow_2 : decode b_Mo_spotRow 2 = .ok (.bipush 30, 2) := by decide +kernel
theorem d_Mo_spotRow_4 : decode b_Mo_spotRow 4 = .ok (.invokevirtual 82, 3) := by decide +kernel
theorem d_Mo_spotRow_7 : decode b_Mo_spotRow 7 = .ok (.istore_n 2, 1) := by decide +kernel
theorem d_Mo_spotRow_8 : decode b_Mo_spotRow 8 = .ok (.aload_n 0, 1) := by decide +kernel
theorem d_Mo_spotRow_9 : decode b_Mo_spotRow 9 = .ok (.bipush 64, 2) := by decide +kernel
theorem d_Mo_spotRow_11 : decode b_Mo_spotRow 11 = .ok (.invokevirtual 86, 3) := by decide +kernel
theorem d_Mo_spotRow_14 : decode b_Mo_spotRow 14 = .ok (.aload_n 0, 1) := by decide +kernel
theorem d_Mo_spotRow_15 : decode b_Mo_spotRow 15 = .ok (.iconst 1, 1) := by decide +kernel
theorem d_Mo_spotRow_16 : decode b_Mo_spotRow 16 = .ok (.bipush 60, 2) := by decide +kernel
theorem d_Mo_spotRow_18 : decode b_Mo_spotRow 18 = .ok (.invokevirtual 82, 3) := by decide +kernel
theorem d_Mo_spotRow_21 : decode b_Mo_spotRow 21 = .ok (.istore_n 3, 1) := by decide +kernel
theorem d_Mo_spotRow_22 : decode b_Mo_spotRow 22 = .ok (.aload_n 0, 1) := by decide +kernel
theorem d_Mo_spotRow_23 : decode b_Mo_spotRow 23 = .ok (.bipush 43, 2) := by decide +kernel
theorem d_Mo_spotRow_25 : decode b_Mo_spotRow 25 = .ok (.invokevirtual 86, 3) := by decide +kernel
theorem d_Mo_spotRow_28 : decode b_Mo_spotRow 28 = .ok (.aload_n 0, 1) := by decide +kernel
theorem d_Mo_spotRow_29 : decode b_Mo_spotRow 29 = .ok (.iconst 0, 1) := by decide +kernel
theorem d_Mo_spotRow_30 : decode b_Mo_spotRow 30 = .ok (.sipush 9999, 3) := by decide +kernel
theorem d_Mo_spotRow_33 : decode b_Mo_spotRow 33 = .ok (.invokevirtual 82, 3) := by decide +kernel
theorem d_Mo_spotRow_36 : decode b_Mo_spotRow 36 = .ok (.istore 4, 2) := by decide +kernel
theorem d_Mo_spotRow_38 : decode b_Mo_spotRow 38 = .ok (.aload_n 0, 1) := by decide +kernel
theorem d_Mo_spotRow_39 : decode b_Mo_spotRow 39 = .ok (.bipush 59, 2) := by decide +kernel
theorem d_Mo_spotRow_41 : decode b_Mo_spotRow 41 = .ok (.invokevirtual 86, 3) := by decide +kernel
theorem d_Mo_spotRow_44 : decode b_Mo_spotRow 44 = .ok (.aload_n 0, 1) := by decide +kernel
theorem d_Mo_spotRow_45 : decode b_Mo_spotRow 45 = .ok (.getfield 68, 3) := by decide +kernel
theorem d_Mo_spotRow_48 : decode b_Mo_spotRow 48 = .ok (.ifCond .lt 4, 3) := by decide +kernel
theorem d_Mo_spotRow_51 : decode b_Mo_spotRow 51 = .ok (.return_, 1) := by decide +kernel
theorem d_Mo_spotRow_52 : decode b_Mo_spotRow 52 = .ok (.aload_n 0, 1) := by decide +kernel
theorem d_Mo_spotRow_53 : decode b_Mo_spotRow 53 = .ok (.getfield 32, 3) := by decide +kernel
theorem d_Mo_spotRow_56 : decode b_Mo_spotRow 56 = .ok (.iload_n 1, 1) := by decide +kernel
theorem d_Mo_spotRow_57 : decode b_Mo_spotRow 57 = .ok (.iload_n 2, 1) := by decide +kernel
theorem d_Mo_spotRow_58 : decode b_Mo_spotRow 58 = .ok (.iadd, 1) := by decide +kernel
theorem d_Mo_spotRow_59 : decode b_Mo_spotRow 59 = .ok (.iload_n 3, 1) := by decide +kernel
theorem d_Mo_spotRow_60 : decode b_Mo_spotRow 60 = .ok (.iastore, 1) := by decide +kernel
theorem d_Mo_spotRow_61 : decode b_Mo_spotRow 61 = .ok (.aload_n 0, 1) := by decide +kernel
theorem d_Mo_spotRow_62 : decode b_Mo_spotRow 62 = .ok (.getfield 35, 3) := by decide +kernel
theorem d_Mo_spotRow_65 : decode b_Mo_spotRow 65 = .ok (.iload_n 1, 1) := by decide +kernel
theorem d_Mo_spotRow_66 : decode b_Mo_spotRow 66 = .ok (.iload_n 2, 1) := by decide +kernel
theorem d_Mo_spotRow_67 : decode b_Mo_spotRow 67 = .ok (.iadd, 1) := by decide +kernel
theorem d_Mo_spotRow_68 : decode b_Mo_spotRow 68 = .ok (.iload 4, 2) := by decide +kernel
theorem d_Mo_spotRow_70 : decode b_Mo_spotRow 70 = .ok (.iastore, 1) := by decide +kernel
theorem d_Mo_spotRow_71 : decode b_Mo_spotRow 71 = .ok (.return_, 1) := by decide +kernel
theorem d_Mo_barRow_0 : decode b_Mo_barRow 0 = .ok (.aload_n 0, 1) := by decide +kernel
theorem d_Mo_barRow_1 : decode b_Mo_barRow 1 = .ok (.iconst 1, 1) := by decide +kernel
theorem d_Mo_barRow_2 : decode b_Mo_barRow 2 = .ok (.bipush 40, 2) := by decide +kernel
theorem d_Mo_barRow_4 : decode b_Mo_barRow 4 = .ok (.invokevirtual 82, 3) := by decide +kernel
theorem d_Mo_barRow_7 : decode b_Mo_barRow 7 = .ok (.istore_n 1, 1) := by decide +kernel
theorem d_Mo_barRow_8 : decode b_Mo_barRow 8 = .ok (.aload_n 0, 1) := by decide +kernel
theorem d_Mo_barRow_9 : decode b_Mo_barRow 9 = .ok (.bipush 45, 2) := by decide +kernel
theorem d_Mo_barRow_11 : decode b_Mo_barRow 11 = .ok (.invokevirtual 86, 3) := by decide +kernel
theorem d_Mo_barRow_14 : decode b_Mo_barRow 14 = .ok (.aload_n 0, 1) := by decide +kernel
theorem d_Mo_barRow_15 : decode b_Mo_barRow 15 = .ok (.iconst 1, 1) := by decide +kernel
theorem d_Mo_barRow_16 : decode b_Mo_barRow 16 = .ok (.bipush 40, 2) := by decide +kernel
theorem d_Mo_barRow_18 : decode b_Mo_barRow 18 = .ok (.invokevirtual 82, 3) := by decide +kernel
theorem d_Mo_barRow_21 : decode b_Mo_barRow 21 = .ok (.istore_n 2, 1) := by decide +kernel
theorem d_Mo_barRow_22 : decode b_Mo_barRow 22 = .ok (.aload_n 0, 1) := by decide +kernel
theorem d_Mo_barRow_23 : decode b_Mo_barRow 23 = .ok (.bipush 45, 2) := by decide +kernel
theorem d_Mo_barRow_25 : decode b_Mo_barRow 25 = .ok (.invokevirtual 86, 3) := by decide +kernel
theorem d_Mo_barRow_28 : decode b_Mo_barRow 28 = .ok (.aload_n 0, 1) := by decide +kernel
theorem d_Mo_barRow_29 : decode b_Mo_barRow 29 = .ok (.iconst 1, 1) := by decide +kernel
theorem d_Mo_barRow_30 : decode b_Mo_barRow 30 = .ok (.bipush 40, 2) := by decide +kernel
theorem d_Mo_barRow_32 : decode b_Mo_barRow 32 = .ok (.invokevirtual 82, 3) := by decide +kernel
theorem d_Mo_barRow_35 : decode b_Mo_barRow 35 = .ok (.istore_n 3, 1) := by decide +kernel
theorem d_Mo_barRow_36 : decode b_Mo_barRow 36 = .ok (.aload_n 0, 1) := by decide +kernel
theorem d_Mo_barRow_37 : decode b_Mo_barRow 37 = .ok (.bipush 59, 2) := by decide +kernel
theorem d_Mo_barRow_39 : decode b_Mo_barRow 39 = .ok (.invokevirtual 86, 3) := by decide +kernel
theorem d_Mo_barRow_42 : decode b_Mo_barRow 42 = .ok (.aload_n 0, 1) := by decide +kernel
theorem d_Mo_barRow_43 : decode b_Mo_barRow 43 = .ok (.getfield 68, 3) := by decide +kernel
theorem d_Mo_barRow_46 : decode b_Mo_barRow 46 = .ok (.ifCond .ge 17, 3) := by decide +kernel
theorem d_Mo_barRow_49 : decode b_Mo_barRow 49 = .ok (.aload_n 0, 1) := by decide +kernel
theorem d_Mo_barRow_50 : decode b_Mo_barRow 50 = .ok (.aload_n 0, 1) := by decide +kernel
theorem d_Mo_barRow_51 : decode b_Mo_barRow 51 = .ok (.getfield 104, 3) := by decide +kernel
theorem d_Mo_barRow_54 : decode b_Mo_barRow 54 = .ok (.iload_n 1, 1) := by decide +kernel
theorem d_Mo_barRow_55 : decode b_Mo_barRow 55 = .ok (.iload_n 2, 1) := by decide +kernel
theorem d_Mo_barRow_56 : decode b_Mo_barRow 56 = .ok (.iload_n 3, 1) := by decide +kernel
theorem d_Mo_barRow_57 : decode b_Mo_barRow 57 = .ok (.invokevirtual 107, 3) := by decide +kernel
theorem d_Mo_barRow_60 : decode b_Mo_barRow 60 = .ok (.ifCond .eq 4, 3) := by decide +kernel
theorem d_Mo_barRow_63 : decode b_Mo_barRow 63 = .ok (.return_, 1) := by decide +kernel
theorem d_Mo_barRow_64 : decode b_Mo_barRow 64 = .ok (.aload_n 0, 1) := by decide +kernel
theorem d_Mo_barRow_65 : decode b_Mo_barRow 65 = .ok (.getfield 26, 3) := by decide +kernel
theorem d_Mo_barRow_68 : decode b_Mo_barRow 68 = .ok (.iconst 3, 1) := by decide +kernel
theorem d_Mo_barRow_69 : decode b_Mo_barRow 69 = .ok (.aload_n 0, 1) := by decide +kernel
theorem d_Mo_barRow_70 : decode b_Mo_barRow 70 = .ok (.getfield 104, 3) := by decide +kernel
theorem d_Mo_barRow_73 : decode b_Mo_barRow 73 = .ok (.imul, 1) := by decide +kernel
theorem d_Mo_barRow_74 : decode b_Mo_barRow 74 = .ok (.iload_n 1, 1) := by decide +kernel
theorem d_Mo_barRow_75 : decode b_Mo_barRow 75 = .ok (.iastore, 1) := by decide +kernel
theorem d_Mo_barRow_76 : decode b_Mo_barRow 76 = .ok (.aload_n 0, 1) := by decide +kernel
theorem d_Mo_barRow_77 : decode b_Mo_barRow 77 = .ok (.getfield 26, 3) := by decide +kernel
theorem d_Mo_barRow_80 : decode b_Mo_barRow 80 = .ok (.iconst 3, 1) := by decide +kernel
theorem d_Mo_barRow_81 : decode b_Mo_barRow 81 = .ok (.aload_n 0, 1) := by decide +kernel
theorem d_Mo_barRow_82 : decode b_Mo_barRow 82 = .ok (.getfield 104, 3) := by decide +kernel
theorem d_Mo_barRow_85 : decode b_Mo_barRow 85 = .ok (.imul, 1) := by decide +kernel
theorem d_Mo_barRow_86 : decode b_Mo_barRow 86 = .ok (.iconst 1, 1) := by decide +kernel
theorem d_Mo_barRow_87 : decode b_Mo_barRow 87 = .ok (.iadd, 1) := by decide +kernel
theorem d_Mo_barRow_88 : decode b_Mo_barRow 88 = .ok (.iload_n 2, 1) := by decide +kernel
theorem d_Mo_barRow_89 : decode b_Mo_barRow 89 = .ok (.iastore, 1) := by decide +kernel
theorem d_Mo_barRow_90 : decode b_Mo_barRow 90 = .ok (.aload_n 0, 1) := by decide +kernel
theorem d_Mo_barRow_91 : decode b_Mo_barRow 91 = .ok (.getfield 26, 3) := by decide +kernel
theorem d_Mo_barRow_94 : decode b_Mo_barRow 94 = .ok (.iconst 3, 1) := by decide +kernel
theorem d_Mo_barRow_95 : decode b_Mo_barRow 95 = .ok (.aload_n 0, 1) := by decide +kernel
theorem d_Mo_barRow_96 : decode b_Mo_barRow 96 = .ok (.getfield 104, 3) := by decide +kernel
theorem d_Mo_barRow_99 : decode b_Mo_barRow 99 = .ok (.imul, 1) := by decide +kernel
theorem d_Mo_barRow_100 : decode b_Mo_barRow 100 = .ok (.iconst 2, 1) := by decide +kernel
theorem d_Mo_barRow_101 : decode b_Mo_barRow 101 = .ok (.iadd, 1) := by decide +kernel
theorem d_Mo_barRow_102 : decode b_Mo_barRow 102 = .ok (.iload_n 3, 1) := by decide +kernel
theorem d_Mo_barRow_103 : decode b_Mo_barRow 103 = .ok (.iastore, 1) := by decide +kernel
theorem d_Mo_barRow_104 : decode b_Mo_barRow 104 = .ok (.aload_n 0, 1) := by decide +kernel
theorem d_Mo_barRow_105 : decode b_Mo_barRow 105 = .ok (.dup, 1) := by decide +kernel
theorem d_Mo_barRow_106 : decode b_Mo_barRow 106 = .ok (.getfield 104, 3) := by decide +kernel
theorem d_Mo_barRow_109 : decode b_Mo_barRow 109 = .ok (.iconst 1, 1) := by decide +kernel
theorem d_Mo_barRow_110 : decode b_Mo_barRow 110 = .ok (.iadd, 1) := by decide +kernel
theorem d_Mo_barRow_111 : decode b_Mo_barRow 111 = .ok (.putfield 104, 3) := by decide +kernel
theorem d_Mo_barRow_114 : decode b_Mo_barRow 114 = .ok (.return_, 1) := by decide +kernel
theorem d_Mo_goneRow_0 : decode b_Mo_goneRow 0 = .ok (.aload_n 0, 1) := by decide +kernel
theorem d_Mo_goneRow_1 : decode b_Mo_goneRow 1 = .ok (.invokevirtual 71, 3) := by decide +kernel
theorem d_Mo_goneRow_4 : decode b_Mo_goneRow 4 = .ok (.istore_n 1, 1) := by decide +kernel
theorem d_Mo_goneRow_5 : decode b_Mo_goneRow 5 = .ok (.iload_n 1, 1) := by decide +kernel
theorem d_Mo_goneRow_6 : decode b_Mo_goneRow 6 = .ok (.bipush 112, 2) := by decide +kernel
theorem d_Mo_goneRow_8 : decode b_Mo_goneRow 8 = .ok (.if_icmp .eq 23, 3) := by decide +kernel
theorem d_Mo_goneRow_11 : decode b_Mo_goneRow 11 = .ok (.iload_n 1, 1) := by decide +kernel
theorem d_Mo_goneRow_12 : decode b_Mo_goneRow 12 = .ok (.bipush 104, 2) := by decide +kernel
theorem d_Mo_goneRow_14 : decode b_Mo_goneRow 14 = .ok (.if_icmp .eq 17, 3) := by decide +kernel
theorem d_Mo_goneRow_17 : decode b_Mo_goneRow 17 = .ok (.iload_n 1, 1) := by decide +kernel
theorem d_Mo_goneRow_18 : decode b_Mo_goneRow 18 = .ok (.bipush 115, 2) := by decide +kernel
theorem d_Mo_goneRow_20 : decode b_Mo_goneRow 20 = .ok (.if_icmp .eq 11, 3) := by decide +kernel
theorem d_Mo_goneRow_23 : decode b_Mo_goneRow 23 = .ok (.aload_n 0, 1) := by decide +kernel
theorem d_Mo_goneRow_24 : decode b_Mo_goneRow 24 = .ok (.aload_n 0, 1) := by decide +kernel
theorem d_Mo_goneRow_25 : decode b_Mo_goneRow 25 = .ok (.getfield 61, 3) := by decide +kernel
theorem d_Mo_goneRow_28 : decode b_Mo_goneRow 28 = .ok (.invokevirtual 74, 3) := by decide +kernel
theorem d_Mo_goneRow_31 : decode b_Mo_goneRow 31 = .ok (.aload_n 0, 1) := by decide +kernel
theorem d_Mo_goneRow_32 : decode b_Mo_goneRow 32 = .ok (.dup, 1) := by decide +kernel
theorem d_Mo_goneRow_33 : decode b_Mo_goneRow 33 = .ok (.getfield 61, 3) := by decide +kernel
theorem d_Mo_goneRow_36 : decode b_Mo_goneRow 36 = .ok (.iconst 1, 1) := by decide +kernel
theorem d_Mo_goneRow_37 : decode b_Mo_goneRow 37 = .ok (.iadd, 1) := by decide +kernel
theorem d_Mo_goneRow_38 : decode b_Mo_goneRow 38 = .ok (.putfield 61, 3) := by decide +kernel
theorem d_Mo_goneRow_41 : decode b_Mo_goneRow 41 = .ok (.aload_n 0, 1) := by decide +kernel
theorem d_Mo_goneRow_42 : decode b_Mo_goneRow 42 = .ok (.iconst 1, 1) := by decide +kernel
theorem d_Mo_goneRow_43 : decode b_Mo_goneRow 43 = .ok (.iload_n 1, 1) := by decide +kernel
theorem d_Mo_goneRow_44 : decode b_Mo_goneRow 44 = .ok (.bipush 112, 2) := by decide +kernel
theorem d_Mo_goneRow_46 : decode b_Mo_goneRow 46 = .ok (.if_icmp .ne 8, 3) := by decide +kernel
theorem d_Mo_goneRow_49 : decode b_Mo_goneRow 49 = .ok (.bipush 60, 2) := by decide +kernel
theorem d_Mo_goneRow_51 : decode b_Mo_goneRow 51 = .ok (.goto 5, 3) := by decide +kernel
theorem d_Mo_goneRow_54 : decode b_Mo_goneRow 54 = .ok (.bipush 30, 2) := by decide +kernel
theorem d_Mo_goneRow_56 : decode b_Mo_goneRow 56 = .ok (.invokevirtual 82, 3) := by decide +kernel
theorem d_Mo_goneRow_59 : decode b_Mo_goneRow 59 = .ok (.istore_n 2, 1) := by decide +kernel
theorem d_Mo_goneRow_60 : decode b_Mo_goneRow 60 = .ok (.aload_n 0, 1) := by decide +kernel
theorem d_Mo_goneRow_61 : decode b_Mo_goneRow 61 = .ok (.bipush 59, 2) := by decide +kernel
theorem d_Mo_goneRow_63 : decode b_Mo_goneRow 63 = .ok (.invokevirtual 86, 3) := by decide +kernel
theorem d_Mo_goneRow_66 : decode b_Mo_goneRow 66 = .ok (.aload_n 0, 1) := by decide +kernel
theorem d_Mo_goneRow_67 : decode b_Mo_goneRow 67 = .ok (.getfield 68, 3) := by decide +kernel
theorem d_Mo_goneRow_70 : decode b_Mo_goneRow 70 = .ok (.ifCond .lt 4, 3) := by decide +kernel
theorem d_Mo_goneRow_73 : decode b_Mo_goneRow 73 = .ok (.return_, 1) := by decide +kernel
theorem d_Mo_goneRow_74 : decode b_Mo_goneRow 74 = .ok (.iload_n 1, 1) := by decide +kernel
theorem d_Mo_goneRow_75 : decode b_Mo_goneRow 75 = .ok (.bipush 112, 2) := by decide +kernel
theorem d_Mo_goneRow_77 : decode b_Mo_goneRow 77 = .ok (.if_icmp .ne 18, 3) := by decide +kernel
theorem d_Mo_goneRow_80 : decode b_Mo_goneRow 80 = .ok (.aload_n 0, 1) := by decide +kernel
theorem d_Mo_goneRow_81 : decode b_Mo_goneRow 81 = .ok (.getfield 29, 3) := by decide +kernel
theorem d_Mo_goneRow_84 : decode b_Mo_goneRow 84 = .ok (.iload_n 2, 1) := by decide +kernel
theorem d_Mo_goneRow_85 : decode b_Mo_goneRow 85 = .ok (.bipush 29, 2) := by decide +kernel
theorem d_Mo_goneRow_87 : decode b_Mo_goneRow 87 = .ok (.imul, 1) := by decide +kernel
theorem d_Mo_goneRow_88 : decode b_Mo_goneRow 88 = .ok (.iconst 0, 1) := by decide +kernel
theorem d_Mo_goneRow_89 : decode b_Mo_goneRow 89 = .ok (.iadd, 1) := by decide +kernel
theorem d_Mo_goneRow_90 : decode b_Mo_goneRow 90 = .ok (.iconst 0, 1) := by decide +kernel
theorem d_Mo_goneRow_91 : decode b_Mo_goneRow 91 = .ok (.iastore, 1) := by decide +kernel
theorem d_Mo_goneRow_92 : decode b_Mo_goneRow 92 = .ok (.goto 23, 3) := by decide +kernel
theorem d_Mo_goneRow_95 : decode b_Mo_goneRow 95 = .ok (.aload_n 0, 1) := by decide +kernel
theorem d_Mo_goneRow_96 : decode b_Mo_goneRow 96 = .ok (.getfield 32, 3) := by decide +kernel
theorem d_Mo_goneRow_99 : decode b_Mo_goneRow 99 = .ok (.iload_n 1, 1) := by decide +kernel
theorem d_Mo_goneRow_100 : decode b_Mo_goneRow 100 = .ok (.bipush 104, 2) := by decide +kernel
theorem d_Mo_goneRow_102 : decode b_Mo_goneRow 102 = .ok (.if_icmp .ne 7, 3) := by decide +kernel
theorem d_Mo_goneRow_105 : decode b_Mo_goneRow 105 = .ok (.iload_n 2, 1) := by decide +kernel
theorem d_Mo_goneRow_106 : decode b_Mo_goneRow 106 = .ok (.goto 7, 3) := by decide +kernel
theorem d_Mo_goneRow_109 : decode b_Mo_goneRow 109 = .ok (.bipush 31, 2) := by decide +kernel
theorem d_Mo_goneRow_111 : decode b_Mo_goneRow 111 = .ok (.iload_n 2, 1) := by decide +kernel
theorem d_Mo_goneRow_112 : decode b_Mo_goneRow 112 = .ok (.iadd, 1) := by decide +kernel
theorem d_Mo_goneRow_113 : decode b_Mo_goneRow 113 = .ok (.iconst 0, 1) := by decide +kernel
theorem d_Mo_goneRow_114 : decode b_Mo_goneRow 114 = .ok (.iastore, 1) := by decide +kernel
theorem d_Mo_goneRow_115 : decode b_Mo_goneRow 115 = .ok (.return_, 1) := by decide +kernel
theorem d_Mo_hours_0 : decode b_Mo_hours 0 = .ok (.aload_n 0, 1) := by decide +kernel
theorem d_Mo_hours_1 : decode b_Mo_hours 1 = .ok (.getfield 29, 3) := by decide +kernel
theorem d_Mo_hours_4 : decode b_Mo_hours 4 = .ok (.iload_n 1, 1) := by decide +kernel
theorem d_Mo_hours_5 : decode b_Mo_hours 5 = .ok (.aload_n 0, 1) := by decide +kernel
theorem d_Mo_hours_6 : decode b_Mo_hours 6 = .ok (.iconst 0, 1) := by decide +kernel
theorem d_Mo_hours_7 : decode b_Mo_hours 7 = .ok (.bipush 23, 2) := by decide +kernel
theorem d_Mo_hours_9 : decode b_Mo_hours 9 = .ok (.invokevirtual 82, 3) := by decide +kernel
theorem d_Mo_hours_12 : decode b_Mo_hours 12 = .ok (.iastore, 1) := by decide +kernel
theorem d_Mo_hours_13 : decode b_Mo_hours 13 = .ok (.aload_n 0, 1) := by decide +kernel
theorem d_Mo_hours_14 : decode b_Mo_hours 14 = .ok (.bipush 45, 2) := by decide +kernel
theorem d_Mo_hours_16 : decode b_Mo_hours 16 = .ok (.invokevirtual 86, 3) := by decide +kernel
theorem d_Mo_hours_19 : decode b_Mo_hours 19 = .ok (.aload_n 0, 1) := by decide +kernel
theorem d_Mo_hours_20 : decode b_Mo_hours 20 = .ok (.getfield 29, 3) := by decide +kernel
theorem d_Mo_hours_23 : decode b_Mo_hours 23 = .ok (.iload_n 1, 1) := by decide +kernel
theorem d_Mo_hours_24 : decode b_Mo_hours 24 = .ok (.iconst 1, 1) := by decide +kernel
theorem d_Mo_hours_25 : decode b_Mo_hours 25 = .ok (.iadd, 1) := by decide +kernel
theorem d_Mo_hours_26 : decode b_Mo_hours 26 = .ok (.aload_n 0, 1) := by decide +kernel
theorem d_Mo_hours_27 : decode b_Mo_hours 27 = .ok (.aload_n 0, 1) := by decide +kernel
theorem d_Mo_hours_28 : decode b_Mo_hours 28 = .ok (.getfield 29, 3) := by decide +kernel
theorem d_Mo_hours_31 : decode b_Mo_hours 31 = .ok (.iload_n 1, 1) := by decide +kernel
theorem d_Mo_hours_32 : decode b_Mo_hours 32 = .ok (.iaload, 1) := by decide +kernel
theorem d_Mo_hours_33 : decode b_Mo_hours 33 = .ok (.bipush 23, 2) := by decide +kernel
theorem d_Mo_hours_35 : decode b_Mo_hours 35 = .ok (.invokevirtual 82, 3) := by decide +kernel
theorem d_Mo_hours_38 : decode b_Mo_hours 38 = .ok (.iastore, 1) := by decide +kernel
theorem d_Mo_hours_39 : decode b_Mo_hours 39 = .ok (.aload_n 0, 1) := by decide +kernel
theorem d_Mo_hours_40 : decode b_Mo_hours 40 = .ok (.bipush 58, 2) := by decide +kernel
theorem d_Mo_hours_42 : decode b_Mo_hours 42 = .ok (.invokevirtual 86, 3) := by decide +kernel
theorem d_Mo_hours_45 : decode b_Mo_hours 45 = .ok (.aload_n 0, 1) := by decide +kernel
theorem d_Mo_hours_46 : decode b_Mo_hours 46 = .ok (.getfield 29, 3) := by decide +kernel
theorem d_Mo_hours_49 : decode b_Mo_hours 49 = .ok (.iload_n 1, 1) := by decide +kernel
theorem d_Mo_hours_50 : decode b_Mo_hours 50 = .ok (.iconst 2, 1) := by decide +kernel
theorem d_Mo_hours_51 : decode b_Mo_hours 51 = .ok (.iadd, 1) := by decide +kernel
theorem d_Mo_hours_52 : decode b_Mo_hours 52 = .ok (.aload_n 0, 1) := by decide +kernel
theorem d_Mo_hours_53 : decode b_Mo_hours 53 = .ok (.iconst 1, 1) := by decide +kernel
theorem d_Mo_hours_54 : decode b_Mo_hours 54 = .ok (.bipush 99, 2) := by decide +kernel
theorem d_Mo_hours_56 : decode b_Mo_hours 56 = .ok (.invokevirtual 82, 3) := by decide +kernel
theorem d_Mo_hours_59 : decode b_Mo_hours 59 = .ok (.iastore, 1) := by decide +kernel
theorem d_Mo_hours_60 : decode b_Mo_hours 60 = .ok (.aload_n 0, 1) := by decide +kernel
theorem d_Mo_hours_61 : decode b_Mo_hours 61 = .ok (.bipush 93, 2) := by decide +kernel
theorem d_Mo_hours_63 : decode b_Mo_hours 63 = .ok (.invokevirtual 86, 3) := by decide +kernel
theorem d_Mo_hours_66 : decode b_Mo_hours 66 = .ok (.aload_n 0, 1) := by decide +kernel
theorem d_Mo_hours_67 : decode b_Mo_hours 67 = .ok (.getfield 29, 3) := by decide +kernel
theorem d_Mo_hours_70 : decode b_Mo_hours 70 = .ok (.iload_n 2, 1) := by decide +kernel
theorem d_Mo_hours_71 : decode b_Mo_hours 71 = .ok (.bipush 7, 2) := by decide +kernel
theorem d_Mo_hours_73 : decode b_Mo_hours 73 = .ok (.iadd, 1) := by decide +kernel
theorem d_Mo_hours_74 : decode b_Mo_hours 74 = .ok (.dup2, 1) := by decide +kernel
theorem d_Mo_hours_75 : decode b_Mo_hours 75 = .ok (.iaload, 1) := by decide +kernel
theorem d_Mo_hours_76 : decode b_Mo_hours 76 = .ok (.iconst 1, 1) := by decide +kernel
theorem d_Mo_hours_77 : decode b_Mo_hours 77 = .ok (.iadd, 1) := by decide +kernel
theorem d_Mo_hours_78 : decode b_Mo_hours 78 = .ok (.iastore, 1) := by decide +kernel
theorem d_Mo_hours_79 : decode b_Mo_hours 79 = .ok (.return_, 1) := by decide +kernel
theorem d_Mo_nameRow_0 : decode b_Mo_nameRow 0 = .ok (.iconst 0, 1) := by decide +kernel
theorem d_Mo_nameRow_1 : decode b_Mo_nameRow 1 = .ok (.istore_n 2, 1) := by decide +kernel
theorem d_Mo_nameRow_2 : decode b_Mo_nameRow 2 = .ok (.aload_n 0, 1) := by decide +kernel
theorem d_Mo_nameRow_3 : decode b_Mo_nameRow 3 = .ok (.getfield 68, 3) := by decide +kernel
theorem d_Mo_nameRow_6 : decode b_Mo_nameRow 6 = .ok (.ifCond .ge 79, 3) := by decide +kernel
theorem d_Mo_nameRow_9 : decode b_Mo_nameRow 9 = .ok (.aload_n 0, 1) := by decide +kernel
theorem d_Mo_nameRow_10 : decode b_Mo_nameRow 10 = .ok (.invokevirtual 64, 3) := by decide +kernel
theorem d_Mo_nameRow_13 : decode b_Mo_nameRow 13 = .ok (.bipush 34, 2) := by decide +kernel
theorem d_Mo_nameRow_15 : decode b_Mo_nameRow 15 = .ok (.if_icmp .eq 70, 3) := by decide +kernel
theorem d_Mo_nameRow_18 : decode b_Mo_nameRow 18 = .ok (.aload_n 0, 1) := by decide +kernel
theorem d_Mo_nameRow_19 : decode b_Mo_nameRow 19 = .ok (.invokevirtual 64, 3) := by decide +kernel
theorem d_Mo_nameRow_22 : decode b_Mo_nameRow 22 = .ok (.bipush 97, 2) := by decide +kernel
theorem d_Mo_nameRow_24 : decode b_Mo_nameRow 24 = .ok (.bipush 122, 2) := by decide +kernel
theorem d_Mo_nameRow_26 : decode b_Mo_nameRow 26 = .ok (.invokestatic 54, 3) := by decide +kernel
theorem d_Mo_nameRow_29 : decode b_Mo_nameRow 29 = .ok (.ifCond .eq 9, 3) := by decide +kernel
theorem d_Mo_nameRow_32 : decode b_Mo_nameRow 32 = .ok (.iload_n 2, 1) := by decide +kernel
theorem d_Mo_nameRow_33 : decode b_Mo_nameRow 33 = .ok (.bipush 8, 2) := by decide +kernel
theorem d_Mo_nameRow_35 : decode b_Mo_nameRow 35 = .ok (.if_icmp .ne 11, 3) := by decide +kernel
theorem d_Mo_nameRow_38 : decode b_Mo_nameRow 38 = .ok (.aload_n 0, 1) := by decide +kernel
theorem d_Mo_nameRow_39 : decode b_Mo_nameRow 39 = .ok (.aload_n 0, 1) := by decide +kernel
theorem d_Mo_nameRow_40 : decode b_Mo_nameRow 40 = .ok (.getfield 61, 3) := by decide +kernel
theorem d_Mo_nameRow_43 : decode b_Mo_nameRow 43 = .ok (.invokevirtual 74, 3) := by decide +kernel
theorem d_Mo_nameRow_46 : decode b_Mo_nameRow 46 = .ok (.aload_n 0, 1) := by decide +kernel
theorem d_Mo_nameRow_47 : decode b_Mo_nameRow 47 = .ok (.getfield 68, 3) := by decide +kernel
theorem d_Mo_nameRow_50 : decode b_Mo_nameRow 50 = .ok (.ifCond .lt 4, 3) := by decide +kernel
theorem d_Mo_nameRow_53 : decode b_Mo_nameRow 53 = .ok (.return_, 1) := by decide +kernel
theorem d_Mo_nameRow_54 : decode b_Mo_nameRow 54 = .ok (.aload_n 0, 1) := by decide +kernel
theorem d_Mo_nameRow_55 : decode b_Mo_nameRow 55 = .ok (.getfield 29, 3) := by decide +kernel
theorem d_Mo_nameRow_58 : decode b_Mo_nameRow 58 = .ok (.iload_n 1, 1) := by decide +kernel
theorem d_Mo_nameRow_59 : decode b_Mo_nameRow 59 = .ok (.bipush 21, 2) := by decide +kernel
theorem d_Mo_nameRow_61 : decode b_Mo_nameRow 61 = .ok (.iadd, 1) := by decide +kernel
theorem d_Mo_nameRow_62 : decode b_Mo_nameRow 62 = .ok (.iload_n 2, 1) := by decide +kernel
theorem d_Mo_nameRow_63 : decode b_Mo_nameRow 63 = .ok (.iadd, 1) := by decide +kernel
theorem d_Mo_nameRow_64 : decode b_Mo_nameRow 64 = .ok (.aload_n 0, 1) := by decide +kernel
theorem d_Mo_nameRow_65 : decode b_Mo_nameRow 65 = .ok (.invokevirtual 64, 3) := by decide +kernel
theorem d_Mo_nameRow_68 : decode b_Mo_nameRow 68 = .ok (.iastore, 1) := by decide +kernel
theorem d_Mo_nameRow_69 : decode b_Mo_nameRow 69 = .ok (.iinc 2 1, 3) := by decide +kernel
theorem d_Mo_nameRow_72 : decode b_Mo_nameRow 72 = .ok (.aload_n 0, 1) := by decide +kernel
theorem d_Mo_nameRow_73 : decode b_Mo_nameRow 73 = .ok (.dup, 1) := by decide +kernel
theorem d_Mo_nameRow_74 : decode b_Mo_nameRow 74 = .ok (.getfield 61, 3) := by decide +kernel
theorem d_Mo_nameRow_77 : decode b_Mo_nameRow 77 = .ok (.iconst 1, 1) := by decide +kernel
theorem d_Mo_nameRow_78 : decode b_Mo_nameRow 78 = .ok (.iadd, 1) := by decide +kernel
theorem d_Mo_nameRow_79 : decode b_Mo_nameRow 79 = .ok (.putfield 61, 3) := by decide +kernel
theorem d_Mo_nameRow_82 : decode b_Mo_nameRow 82 = .ok (.goto (-80), 3) := by decide +kernel
theorem d_Mo_nameRow_85 : decode b_Mo_nameRow 85 = .ok (.iload_n 2, 1) := by decide +kernel
theorem d_Mo_nameRow_86 : decode b_Mo_nameRow 86 = .ok (.ifCond .ne 11, 3) := by decide +kernel
theorem d_Mo_nameRow_89 : decode b_Mo_nameRow 89 = .ok (.aload_n 0, 1) := by decide +kernel
theorem d_Mo_nameRow_90 : decode b_Mo_nameRow 90 = .ok (.aload_n 0, 1) := by decide +kernel
theorem d_Mo_nameRow_91 : decode b_Mo_nameRow 91 = .ok (.getfield 61, 3) := by decide +kernel
theorem d_Mo_nameRow_94 : decode b_Mo_nameRow 94 = .ok (.invokevirtual 74, 3) := by decide +kernel
theorem d_Mo_nameRow_97 : decode b_Mo_nameRow 97 = .ok (.aload_n 0, 1) := by decide +kernel
theorem d_Mo_nameRow_98 : decode b_Mo_nameRow 98 = .ok (.dup, 1) := by decide +kernel
theorem d_Mo_nameRow_99 : decode b_Mo_nameRow 99 = .ok (.getfield 61, 3) := by decide +kernel
theorem d_Mo_nameRow_102 : decode b_Mo_nameRow 102 = .ok (.iconst 1, 1) := by decide +kernel
theorem d_Mo_nameRow_103 : decode b_Mo_nameRow 103 = .ok (.iadd, 1) := by decide +kernel
theorem d_Mo_nameRow_104 : decode b_Mo_nameRow 104 = .ok (.putfield 61, 3) := by decide +kernel
theorem d_Mo_nameRow_107 : decode b_Mo_nameRow 107 = .ok (.aload_n 0, 1) := by decide +kernel
theorem d_Mo_nameRow_108 : decode b_Mo_nameRow 108 = .ok (.getfield 29, 3) := by decide +kernel
theorem d_Mo_nameRow_111 : decode b_Mo_nameRow 111 = .ok (.iload_n 1, 1) := by decide +kernel
theorem d_Mo_nameRow_112 : decode b_Mo_nameRow 112 = .ok (.bipush 20, 2) := by decide +kernel
theorem d_Mo_nameRow_114 : decode b_Mo_nameRow 114 = .ok (.iadd, 1) := by decide +kernel
theorem d_Mo_nameRow_115 : decode b_Mo_nameRow 115 = .ok (.iload_n 2, 1) := by decide +kernel
theorem d_Mo_nameRow_116 : decode b_Mo_nameRow 116 = .ok (.iastore, 1) := by decide +kernel
theorem d_Mo_nameRow_117 : decode b_Mo_nameRow 117 = .ok (.aload_n 0, 1) := by decide +kernel
theorem d_Mo_nameRow_118 : decode b_Mo_nameRow 118 = .ok (.bipush 35, 2) := by decide +kernel
theorem d_Mo_nameRow_120 : decode b_Mo_nameRow 120 = .ok (.invokevirtual 86, 3) := by decide +kernel
theorem d_Mo_nameRow_123 : decode b_Mo_nameRow 123 = .ok (.aload_n 0, 1) := by decide +kernel
theorem d_Mo_nameRow_124 : decode b_Mo_nameRow 124 = .ok (.getfield 29, 3) := by decide +kernel
theorem d_Mo_nameRow_127 : decode b_Mo_nameRow 127 = .ok (.iload_n 1, 1) := by decide +kernel
theorem d_Mo_nameRow_128 : decode b_Mo_nameRow 128 = .ok (.bipush 19, 2) := by decide +kernel
theorem d_Mo_nameRow_130 : decode b_Mo_nameRow 130 = .ok (.iadd, 1) := by decide +kernel
theorem d_Mo_nameRow_131 : decode b_Mo_nameRow 131 = .ok (.aload_n 0, 1) := by decide +kernel
theorem d_Mo_nameRow_132 : decode b_Mo_nameRow 132 = .ok (.iconst 0, 1) := by decide +kernel
theorem d_Mo_nameRow_133 : decode b_Mo_nameRow 133 = .ok (.bipush 9, 2) := by decide +kernel
theorem d_Mo_nameRow_135 : decode b_Mo_nameRow 135 = .ok (.invokevirtual 82, 3) := by decide +kernel
theorem d_Mo_nameRow_138 : decode b_Mo_nameRow 138 = .ok (.iastore, 1) := by decide +kernel
theorem d_Mo_nameRow_139 : decode b_Mo_nameRow 139 = .ok (.return_, 1) := by decide +kernel
theorem d_Mo_pieceRow_0 : decode b_Mo_pieceRow 0 = .ok (.aload_n 0, 1) := by decide +kernel
theorem d_Mo_pieceRow_1 : decode b_Mo_pieceRow 1 = .ok (.iconst 1, 1) := by decide +kernel
theorem d_Mo_pieceRow_2 : decode b_Mo_pieceRow 2 = .ok (.bipush 60, 2) := by decide +kernel
theorem d_Mo_pieceRow_4 : decode b_Mo_pieceRow 4 = .ok (.invokevirtual 82, 3) := by decide +kernel
theorem d_Mo_pieceRow_7 : decode b_Mo_pieceRow 7 = .ok (.istore_n 1, 1) := by decide +kernel
theorem d_Mo_pieceRow_8 : decode b_Mo_pieceRow 8 = .ok (.iload_n 1, 1) := by decide +kernel
theorem d_Mo_pieceRow_9 : decode b_Mo_pieceRow 9 = .ok (.bipush 29, 2) := by decide +kernel
theorem d_Mo_pieceRow_11 : decode b_Mo_pieceRow 11 = .ok (.imul, 1) := by decide +kernel
theorem d_Mo_pieceRow_12 : decode b_Mo_pieceRow 12 = .ok (.istore_n 2, 1) := by decide +kernel
theorem d_Mo_pieceRow_13 : decode b_Mo_pieceRow 13 = .ok (.iconst 0, 1) := by decide +kernel
theorem d_Mo_pieceRow_14 : decode b_Mo_pieceRow 14 = .ok (.istore_n 3, 1) := by decide +kernel
theorem d_Mo_pieceRow_15 : decode b_Mo_pieceRow 15 = .ok (.iload_n 3, 1) := by decide +kernel
theorem d_Mo_pieceRow_16 : decode b_Mo_pieceRow 16 = .ok (.bipush 29, 2) := by decide +kernel
theorem d_Mo_pieceRow_18 : decode b_Mo_pieceRow 18 = .ok (.if_icmp .ge 25, 3) := by decide +kernel
theorem d_Mo_pieceRow_21 : decode b_Mo_pieceRow 21 = .ok (.aload_n 0, 1) := by decide +kernel
theorem d_Mo_pieceRow_22 : decode b_Mo_pieceRow 22 = .ok (.getfield 68, 3) := by decide +kernel
theorem d_Mo_pieceRow_25 : decode b_Mo_pieceRow 25 = .ok (.ifCond .ge 18, 3) := by decide +kernel
theorem d_Mo_pieceRow_28 : decode b_Mo_pieceRow 28 = .ok (.aload_n 0, 1) := by decide +kernel
theorem d_Mo_pieceRow_29 : decode b_Mo_pieceRow 29 = .ok (.getfield 29, 3) := by decide +kernel
theorem d_Mo_pieceRow_32 : decode b_Mo_pieceRow 32 = .ok (.iload_n 2, 1) := by decide +kernel
theorem d_Mo_pieceRow_33 : decode b_Mo_pieceRow 33 = .ok (.iload_n 3, 1) := by decide +kernel
theorem d_Mo_pieceRow_34 : decode b_Mo_pieceRow 34 = .ok (.iadd, 1) := by decide +kernel
theorem d_Mo_pieceRow_35 : decode b_Mo_pieceRow 35 = .ok (.iconst 0, 1) := by decide +kernel
theorem d_Mo_pieceRow_36 : decode b_Mo_pieceRow 36 = .ok (.iastore, 1) := by decide +kernel
theorem d_Mo_pieceRow_37 : decode b_Mo_pieceRow 37 = .ok (.iinc 3 1, 3) := by decide +kernel
theorem d_Mo_pieceRow_40 : decode b_Mo_pieceRow 40 = .ok (.goto (-25), 3) := by decide +kernel
theorem d_Mo_pieceRow_43 : decode b_Mo_pieceRow 43 = .ok (.aload_n 0, 1) := by decide +kernel
theorem d_Mo_pieceRow_44 : decode b_Mo_pieceRow 44 = .ok (.getfield 29, 3) := by decide +kernel
theorem d_Mo_pieceRow_47 : decode b_Mo_pieceRow 47 = .ok (.iload_n 2, 1) := by decide +kernel
theorem d_Mo_pieceRow_48 : decode b_Mo_pieceRow 48 = .ok (.iconst 0, 1) := by decide +kernel
theorem d_Mo_pieceRow_49 : decode b_Mo_pieceRow 49 = .ok (.iadd, 1) := by decide +kernel
theorem d_Mo_pieceRow_50 : decode b_Mo_pieceRow 50 = .ok (.iconst 1, 1) := by decide +kernel
theorem d_Mo_pieceRow_51 : decode b_Mo_pieceRow 51 = .ok (.iastore, 1) := by decide +kernel
theorem d_Mo_pieceRow_52 : decode b_Mo_pieceRow 52 = .ok (.aload_n 0, 1) := by decide +kernel
theorem d_Mo_pieceRow_53 : decode b_Mo_pieceRow 53 = .ok (.getfield 29, 3) := by decide +kernel
theorem d_Mo_pieceRow_56 : decode b_Mo_pieceRow 56 = .ok (.iload_n 2, 1) := by decide +kernel
theorem d_Mo_pieceRow_57 : decode b_Mo_pieceRow 57 = .ok (.bipush 19, 2) := by decide +kernel
theorem d_Mo_pieceRow_59 : decode b_Mo_pieceRow 59 = .ok (.iadd, 1) := by decide +kernel
theorem d_Mo_pieceRow_60 : decode b_Mo_pieceRow 60 = .ok (.iconst (-1), 1) := by decide +kernel
theorem d_Mo_pieceRow_61 : decode b_Mo_pieceRow 61 = .ok (.iastore, 1) := by decide +kernel
theorem d_Mo_pieceRow_62 : decode b_Mo_pieceRow 62 = .ok (.aload_n 0, 1) := by decide +kernel
theorem d_Mo_pieceRow_63 : decode b_Mo_pieceRow 63 = .ok (.bipush 61, 2) := by decide +kernel
theorem d_Mo_pieceRow_65 : decode b_Mo_pieceRow 65 = .ok (.invokevirtual 86, 3) := by decide +kernel
theorem d_Mo_pieceRow_68 : decode b_Mo_pieceRow 68 = .ok (.aload_n 0, 1) := by decide +kernel
theorem d_Mo_pieceRow_69 : decode b_Mo_pieceRow 69 = .ok (.getfield 29, 3) := by decide +kernel
theorem d_Mo_pieceRow_72 : decode b_Mo_pieceRow 72 = .ok (.iload_n 2, 1) := by decide +kernel
theorem d_Mo_pieceRow_73 : decode b_Mo_pieceRow 73 = .ok (.iconst 1, 1) := by decide +kernel
theorem d_Mo_pieceRow_74 : decode b_Mo_pieceRow 74 = .ok (.iadd, 1) := by decide +kernel
theorem d_Mo_pieceRow_75 : decode b_Mo_pieceRow 75 = .ok (.aload_n 0, 1) := by decide +kernel
theorem d_Mo_pieceRow_76 : decode b_Mo_pieceRow 76 = .ok (.iconst 1, 1) := by decide +kernel
theorem d_Mo_pieceRow_77 : decode b_Mo_pieceRow 77 = .ok (.bipush 40, 2) := by decide +kernel
theorem d_Mo_pieceRow_79 : decode b_Mo_pieceRow 79 = .ok (.invokevirtual 82, 3) := by decide +kernel
theorem d_Mo_pieceRow_82 : decode b_Mo_pieceRow 82 = .ok (.iastore, 1) := by decide +kernel
theorem d_Mo_pieceRow_83 : decode b_Mo_pieceRow 83 = .ok (.aload_n 0, 1) := by decide +kernel
theorem d_Mo_pieceRow_84 : decode b_Mo_pieceRow 84 = .ok (.getfield 68, 3) := by decide +kernel
theorem d_Mo_pieceRow_87 : decode b_Mo_pieceRow 87 = .ok (.ifCond .ge 29, 3) := by decide +kernel
theorem d_Mo_pieceRow_90 : decode b_Mo_pieceRow 90 = .ok (.aload_n 0, 1) := by decide +kernel
theorem d_Mo_pieceRow_91 : decode b_Mo_pieceRow 91 = .ok (.invokevirtual 71, 3) := by decide +kernel
theorem d_Mo_pieceRow_94 : decode b_Mo_pieceRow 94 = .ok (.bipush 45, 2) := by decide +kernel
theorem d_Mo_pieceRow_96 : decode b_Mo_pieceRow 96 = .ok (.if_icmp .eq 20, 3) := by decide +kernel
theorem d_Mo_pieceRow_99 : decode b_Mo_pieceRow 99 = .ok (.aload_n 0, 1) := by decide +kernel
theorem d_Mo_pieceRow_100 : decode b_Mo_pieceRow 100 = .ok (.invokevirtual 64, 3) := by decide +kernel
theorem d_Mo_pieceRow_103 : decode b_Mo_pieceRow 103 = .ok (.bipush 62, 2) := by decide +kernel
theorem d_Mo_pieceRow_105 : decode b_Mo_pieceRow 105 = .ok (.if_icmp .eq 11, 3) := by decide +kernel
theorem d_Mo_pieceRow_108 : decode b_Mo_pieceRow 108 = .ok (.aload_n 0, 1) := by decide +kernel
theorem d_Mo_pieceRow_109 : decode b_Mo_pieceRow 109 = .ok (.aload_n 0, 1) := by decide +kernel
theorem d_Mo_pieceRow_110 : decode b_Mo_pieceRow 110 = .ok (.getfield 61, 3) := by decide +kernel
theorem d_Mo_pieceRow_113 : decode b_Mo_pieceRow 113 = .ok (.invokevirtual 74, 3) := by decide +kernel
theorem d_Mo_pieceRow_116 : decode b_Mo_pieceRow 116 = .ok (.aload_n 0, 1) := by decide +kernel
theorem d_Mo_pieceRow_117 : decode b_Mo_pieceRow 117 = .ok (.getfield 29, 3) := by decide +kernel
theorem d_Mo_pieceRow_120 : decode b_Mo_pieceRow 120 = .ok (.iload_n 2, 1) := by decide +kernel
theorem d_Mo_pieceRow_121 : decode b_Mo_pieceRow 121 = .ok (.iconst 3, 1) := by decide +kernel
theorem d_Mo_pieceRow_122 : decode b_Mo_pieceRow 122 = .ok (.iadd, 1) := by decide +kernel
theorem d_Mo_pieceRow_123 : decode b_Mo_pieceRow 123 = .ok (.aload_n 0, 1) := by decide +kernel
theorem d_Mo_pieceRow_124 : decode b_Mo_pieceRow 124 = .ok (.invokevirtual 64, 3) := by decide +kernel
theorem d_Mo_pieceRow_127 : decode b_Mo_pieceRow 127 = .ok (.bipush 62, 2) := by decide +kernel
theorem d_Mo_pieceRow_129 : decode b_Mo_pieceRow 129 = .ok (.if_icmp .ne 7, 3) := by decide +kernel
theorem d_Mo_pieceRow_132 : decode b_Mo_pieceRow 132 = .ok (.iconst 1, 1) := by decide +kernel
theorem d_Mo_pieceRow_133 : decode b_Mo_pieceRow 133 = .ok (.goto 4, 3) := by decide +kernel
theorem d_Mo_pieceRow_136 : decode b_Mo_pieceRow 136 = .ok (.iconst 0, 1) := by decide +kernel
theorem d_Mo_pieceRow_137 : decode b_Mo_pieceRow 137 = .ok (.iastore, 1) := by decide +kernel
theorem d_Mo_pieceRow_138 : decode b_Mo_pieceRow 138 = .ok (.aload_n 0, 1) := by decide +kernel
theorem d_Mo_pieceRow_139 : decode b_Mo_pieceRow 139 = .ok (.dup, 1) := by decide +kernel
theorem d_Mo_pieceRow_140 : decode b_Mo_pieceRow 140 = .ok (.getfield 61, 3) := by decide +kernel
theorem d_Mo_pieceRow_143 : decode b_Mo_pieceRow 143 = .ok (.iconst 1, 1) := by decide +kernel
theorem d_Mo_pieceRow_144 : decode b_Mo_pieceRow 144 = .ok (.iadd, 1) := by decide +kernel
theorem d_Mo_pieceRow_145 : decode b_Mo_pieceRow 145 = .ok (.putfield 61, 3) := by decide +kernel
theorem d_Mo_pieceRow_148 : decode b_Mo_pieceRow 148 = .ok (.aload_n 0, 1) := by decide +kernel
theorem d_Mo_pieceRow_149 : decode b_Mo_pieceRow 149 = .ok (.getfield 29, 3) := by decide +kernel
theorem d_Mo_pieceRow_152 : decode b_Mo_pieceRow 152 = .ok (.iload_n 2, 1) := by decide +kernel
theorem d_Mo_pieceRow_153 : decode b_Mo_pieceRow 153 = .ok (.iconst 2, 1) := by decide +kernel
theorem d_Mo_pieceRow_154 : decode b_Mo_pieceRow 154 = .ok (.iadd, 1) := by decide +kernel
theorem d_Mo_pieceRow_155 : decode b_Mo_pieceRow 155 = .ok (.aload_n 0, 1) := by decide +kernel
theorem d_Mo_pieceRow_156 : decode b_Mo_pieceRow 156 = .ok (.iconst 1, 1) := by decide +kernel
theorem d_Mo_pieceRow_157 : decode b_Mo_pieceRow 157 = .ok (.bipush 40, 2) := by decide +kernel
theorem d_Mo_pieceRow_159 : decode b_Mo_pieceRow 159 = .ok (.invokevirtual 82, 3) := by decide +kernel
theorem d_Mo_pieceRow_162 : decode b_Mo_pieceRow 162 = .ok (.iastore, 1) := by decide +kernel
theorem d_Mo_pieceRow_163 : decode b_Mo_pieceRow 163 = .ok (.aload_n 0, 1) := by decide +kernel
theorem d_Mo_pieceRow_164 : decode b_Mo_pieceRow 164 = .ok (.getfield 68, 3) := by decide +kernel
theorem d_Mo_pieceRow_167 : decode b_Mo_pieceRow 167 = .ok (.ifCond .ge 32, 3) := by decide +kernel
theorem d_Mo_pieceRow_170 : decode b_Mo_pieceRow 170 = .ok (.aload_n 0, 1) := by decide +kernel
theorem d_Mo_pieceRow_171 : decode b_Mo_pieceRow 171 = .ok (.getfield 29, 3) := by decide +kernel
theorem d_Mo_pieceRow_174 : decode b_Mo_pieceRow 174 = .ok (.iload_n 2, 1) := by decide +kernel
theorem d_Mo_pieceRow_175 : decode b_Mo_pieceRow 175 = .ok (.iconst 2, 1) := by decide +kernel
theorem d_Mo_pieceRow_176 : decode b_Mo_pieceRow 176 = .ok (.iadd, 1) := by decide +kernel
theorem d_Mo_pieceRow_177 : decode b_Mo_pieceRow 177 = .ok (.iaload, 1) := by decide +kernel
theorem d_Mo_pieceRow_178 : decode b_Mo_pieceRow 178 = .ok (.aload_n 0, 1) := by decide +kernel
theorem d_Mo_pieceRow_179 : decode b_Mo_pieceRow 179 = .ok (.getfield 29, 3) := by decide +kernel
theorem d_Mo_pieceRow_182 : decode b_Mo_pieceRow 182 = .ok (.iload_n 2, 1) := by decide +kernel
theorem d_Mo_pieceRow_183 : decode b_Mo_pieceRow 183 = .ok (.iconst 1, 1) := by decide +kernel
theorem d_Mo_pieceRow_184 : decode b_Mo_pieceRow 184 = .ok (.iadd, 1) := by decide +kernel
theorem d_Mo_pieceRow_185 : decode b_Mo_pieceRow 185 = .ok (.iaload, 1) := by decide +kernel
theorem d_Mo_pieceRow_186 : decode b_Mo_pieceRow 186 = .ok (.if_icmp .ne 13, 3) := by decide +kernel
theorem d_Mo_pieceRow_189 : decode b_Mo_pieceRow 189 = .ok (.aload_n 0, 1) := by decide +kernel
theorem d_Mo_pieceRow_190 : decode b_Mo_pieceRow 190 = .ok (.aload_n 0, 1) := by decide +kernel
theorem d_Mo_pieceRow_191 : decode b_Mo_pieceRow 191 = .ok (.getfield 61, 3) := by decide +kernel
theorem d_Mo_pieceRow_194 : decode b_Mo_pieceRow 194 = .ok (.iconst 1, 1) := by decide +kernel
theorem d_Mo_pieceRow_195 : decode b_Mo_pieceRow 195 = .ok (.isub, 1) := by decide +kernel
theorem d_Mo_pieceRow_196 : decode b_Mo_pieceRow 196 = .ok (.invokevirtual 74, 3) := by decide +kernel
theorem d_Mo_pieceRow_199 : decode b_Mo_pieceRow 199 = .ok (.aload_n 0, 1) := by decide +kernel
theorem d_Mo_pieceRow_200 : decode b_Mo_pieceRow 200 = .ok (.bipush 58, 2) := by decide +kernel
theorem d_Mo_pieceRow_202 : decode b_Mo_pieceRow 202 = .ok (.invokevirtual 86, 3) := by decide +kernel
theorem d_Mo_pieceRow_205 : decode b_Mo_pieceRow 205 = .ok (.aload_n 0, 1) := by decide +kernel
theorem d_Mo_pieceRow_206 : decode b_Mo_pieceRow 206 = .ok (.getfield 29, 3) := by decide +kernel
theorem d_Mo_pieceRow_209 : decode b_Mo_pieceRow 209 = .ok (.iload_n 2, 1) := by decide +kernel
theorem d_Mo_pieceRow_210 : decode b_Mo_pieceRow 210 = .ok (.iconst 4, 1) := by decide +kernel
theorem d_Mo_pieceRow_211 : decode b_Mo_pieceRow 211 = .ok (.iadd, 1) := by decide +kernel
theorem d_Mo_pieceRow_212 : decode b_Mo_pieceRow 212 = .ok (.aload_n 0, 1) := by decide +kernel
theorem d_Mo_pieceRow_213 : decode b_Mo_pieceRow 213 = .ok (.iconst 1, 1) := by decide +kernel
theorem d_Mo_pieceRow_214 : decode b_Mo_pieceRow 214 = .ok (.sipush 9999, 3) := by decide +kernel
theorem d_Mo_pieceRow_217 : decode b_Mo_pieceRow 217 = .ok (.invokevirtual 82, 3) := by decide +kernel
theorem d_Mo_pieceRow_220 : decode b_Mo_pieceRow 220 = .ok (.iastore, 1) := by decide +kernel
theorem d_Mo_pieceRow_221 : decode b_Mo_pieceRow 221 = .ok (.aload_n 0, 1) := by decide +kernel
theorem d_Mo_pieceRow_222 : decode b_Mo_pieceRow 222 = .ok (.getfield 68, 3) := by decide +kernel
theorem d_Mo_pieceRow_225 : decode b_Mo_pieceRow 225 = .ok (.ifCond .ge 13, 3) := by decide +kernel
theorem d_Mo_pieceRow_228 : decode b_Mo_pieceRow 228 = .ok (.aload_n 0, 1) := by decide +kernel
theorem d_Mo_pieceRow_229 : decode b_Mo_pieceRow 229 = .ok (.invokevirtual 71, 3) := by decide +kernel
theorem d_Mo_pieceRow_232 : decode b_Mo_pieceRow 232 = .ok (.invokestatic 89, 3) := by decide +kernel
theorem d_Mo_pieceRow_235 : decode b_Mo_pieceRow 235 = .ok (.goto 4, 3) := by decide +kernel
theorem d_Mo_pieceRow_238 : decode b_Mo_pieceRow 238 = .ok (.iconst 0, 1) := by decide +kernel
theorem d_Mo_pieceRow_239 : decode b_Mo_pieceRow 239 = .ok (.istore_n 3, 1) := by decide +kernel
theorem d_Mo_pieceRow_240 : decode b_Mo_pieceRow 240 = .ok (.iload_n 3, 1) := by decide +kernel
theorem d_Mo_pieceRow_241 : decode b_Mo_pieceRow 241 = .ok (.ifCond .ge 11, 3) := by decide +kernel
theorem d_Mo_pieceRow_244 : decode b_Mo_pieceRow 244 = .ok (.aload_n 0, 1) := by decide +kernel
theorem d_Mo_pieceRow_245 : decode b_Mo_pieceRow 245 = .ok (.aload_n 0, 1) := by decide +kernel
theorem d_Mo_pieceRow_246 : decode b_Mo_pieceRow 246 = .ok (.getfield 61, 3) := by decide +kernel
theorem d_Mo_pieceRow_249 : decode b_Mo_pieceRow 249 = .ok (.invokevirtual 74, 3) := by decide +kernel
theorem d_Mo_pieceRow_252 : decode b_Mo_pieceRow 252 = .ok (.aload_n 0, 1) := by decide +kernel
theorem d_Mo_pieceRow_253 : decode b_Mo_pieceRow 253 = .ok (.getfield 29, 3) := by decide +kernel
theorem d_Mo_pieceRow_256 : decode b_Mo_pieceRow 256 = .ok (.iload_n 2, 1) := by decide +kernel
theorem d_Mo_pieceRow_257 : decode b_Mo_pieceRow 257 = .ok (.iconst 5, 1) := by decide +kernel
theorem d_Mo_pieceRow_258 : decode b_Mo_pieceRow 258 = .ok (.iadd, 1) := by decide +kernel
theorem d_Mo_pieceRow_259 : decode b_Mo_pieceRow 259 = .ok (.iload_n 3, 1) := by decide +kernel
theorem d_Mo_pieceRow_260 : decode b_Mo_pieceRow 260 = .ok (.iastore, 1) := by decide +kernel
theorem d_Mo_pieceRow_261 : decode b_Mo_pieceRow 261 = .ok (.aload_n 0, 1) := by decide +kernel
theorem d_Mo_pieceRow_262 : decode b_Mo_pieceRow 262 = .ok (.dup, 1) := by decide +kernel
theorem d_Mo_pieceRow_263 : decode b_Mo_pieceRow 263 = .ok (.getfield 61, 3) := by decide +kernel
theorem d_Mo_pieceRow_266 : decode b_Mo_pieceRow 266 = .ok (.iconst 1, 1) := by decide +kernel
theorem d_Mo_pieceRow_267 : decode b_Mo_pieceRow 267 = .ok (.iadd, 1) := by decide +kernel
theorem d_Mo_pieceRow_268 : decode b_Mo_pieceRow 268 = .ok (.putfield 61, 3) := by decide +kernel
theorem d_Mo_pieceRow_271 : decode b_Mo_pieceRow 271 = .ok (.aload_n 0, 1) := by decide +kernel
theorem d_Mo_pieceRow_272 : decode b_Mo_pieceRow 272 = .ok (.getfield 29, 3) := by decide +kernel
theorem d_Mo_pieceRow_275 : decode b_Mo_pieceRow 275 = .ok (.iload_n 2, 1) := by decide +kernel
theorem d_Mo_pieceRow_276 : decode b_Mo_pieceRow 276 = .ok (.bipush 6, 2) := by decide +kernel
theorem d_Mo_pieceRow_278 : decode b_Mo_pieceRow 278 = .ok (.iadd, 1) := by decide +kernel
theorem d_Mo_pieceRow_279 : decode b_Mo_pieceRow 279 = .ok (.aload_n 0, 1) := by decide +kernel
theorem d_Mo_pieceRow_280 : decode b_Mo_pieceRow 280 = .ok (.iconst 1, 1) := by decide +kernel
theorem d_Mo_pieceRow_281 : decode b_Mo_pieceRow 281 = .ok (.bipush 99, 2) := by decide +kernel
theorem d_Mo_pieceRow_283 : decode b_Mo_pieceRow 283 = .ok (.invokevirtual 82, 3) := by decide +kernel
theorem d_Mo_pieceRow_286 : decode b_Mo_pieceRow 286 = .ok (.iastore, 1) := by decide +kernel
theorem d_Mo_pieceRow_287 : decode b_Mo_pieceRow 287 = .ok (.aload_n 0, 1) := by decide +kernel
theorem d_Mo_pieceRow_288 : decode b_Mo_pieceRow 288 = .ok (.getfield 68, 3) := by decide +kernel
theorem d_Mo_pieceRow_291 : decode b_Mo_pieceRow 291 = .ok (.ifCond .ge 49, 3) := by decide +kernel
theorem d_Mo_pieceRow_294 : decode b_Mo_pieceRow 294 = .ok (.aload_n 0, 1) := by decide +kernel
theorem d_Mo_pieceRow_295 : decode b_Mo_pieceRow 295 = .ok (.getfield 29, 3) := by decide +kernel
theorem d_Mo_pieceRow_298 : decode b_Mo_pieceRow 298 = .ok (.iload_n 2, 1) := by decide +kernel
theorem d_Mo_pieceRow_299 : decode b_Mo_pieceRow 299 = .ok (.bipush 7, 2) := by decide +kernel
theorem d_Mo_pieceRow_301 : decode b_Mo_pieceRow 301 = .ok (.iadd, 1) := by decide +kernel
theorem d_Mo_pieceRow_302 : decode b_Mo_pieceRow 302 = .ok (.iaload, 1) := by decide +kernel
theorem d_Mo_pieceRow_303 : decode b_Mo_pieceRow 303 = .ok (.iconst 3, 1) := by decide +kernel
theorem d_Mo_pieceRow_304 : decode b_Mo_pieceRow 304 = .ok (.if_icmp .ge 36, 3) := by decide +kernel
theorem d_Mo_pieceRow_307 : decode b_Mo_pieceRow 307 = .ok (.aload_n 0, 1) := by decide +kernel
theorem d_Mo_pieceRow_308 : decode b_Mo_pieceRow 308 = .ok (.bipush 91, 2) := by decide +kernel
theorem d_Mo_pieceRow_310 : decode b_Mo_pieceRow 310 = .ok (.invokevirtual 93, 3) := by decide +kernel
theorem d_Mo_pieceRow_313 : decode b_Mo_pieceRow 313 = .ok (.ifCond .eq 27, 3) := by decide +kernel
theorem d_Mo_pieceRow_316 : decode b_Mo_pieceRow 316 = .ok (.aload_n 0, 1) := by decide +kernel
theorem d_Mo_pieceRow_317 : decode b_Mo_pieceRow 317 = .ok (.iload_n 2, 1) := by decide +kernel
theorem d_Mo_pieceRow_318 : decode b_Mo_pieceRow 318 = .ok (.bipush 8, 2) := by decide +kernel
theorem d_Mo_pieceRow_320 : decode b_Mo_pieceRow 320 = .ok (.iadd, 1) := by decide +kernel
theorem d_Mo_pieceRow_321 : decode b_Mo_pieceRow 321 = .ok (.iconst 3, 1) := by decide +kernel
theorem d_Mo_pieceRow_322 : decode b_Mo_pieceRow 322 = .ok (.aload_n 0, 1) := by decide +kernel
theorem d_Mo_pieceRow_323 : decode b_Mo_pieceRow 323 = .ok (.getfield 29, 3) := by decide +kernel
theorem d_Mo_pieceRow_326 : decode b_Mo_pieceRow 326 = .ok (.iload_n 2, 1) := by decide +kernel
theorem d_Mo_pieceRow_327 : decode b_Mo_pieceRow 327 = .ok (.bipush 7, 2) := by decide +kernel
theorem d_Mo_pieceRow_329 : decode b_Mo_pieceRow 329 = .ok (.iadd, 1) := by decide +kernel
theorem d_Mo_pieceRow_330 : decode b_Mo_pieceRow 330 = .ok (.iaload, 1) := by decide +kernel
theorem d_Mo_pieceRow_331 : decode b_Mo_pieceRow 331 = .ok (.imul, 1) := by decide +kernel
theorem d_Mo_pieceRow_332 : decode b_Mo_pieceRow 332 = .ok (.iadd, 1) := by decide +kernel
theorem d_Mo_pieceRow_333 : decode b_Mo_pieceRow 333 = .ok (.iload_n 2, 1) := by decide +kernel
theorem d_Mo_pieceRow_334 : decode b_Mo_pieceRow 334 = .ok (.invokevirtual 97, 3) := by decide +kernel
theorem d_Mo_pieceRow_337 : decode b_Mo_pieceRow 337 = .ok (.goto (-50), 3) := by decide +kernel
theorem d_Mo_pieceRow_340 : decode b_Mo_pieceRow 340 = .ok (.aload_n 0, 1) := by decide +kernel
theorem d_Mo_pieceRow_341 : decode b_Mo_pieceRow 341 = .ok (.bipush 94, 2) := by decide +kernel
theorem d_Mo_pieceRow_343 : decode b_Mo_pieceRow 343 = .ok (.invokevirtual 93, 3) := by decide +kernel
theorem d_Mo_pieceRow_346 : decode b_Mo_pieceRow 346 = .ok (.ifCond .eq 19, 3) := by decide +kernel
theorem d_Mo_pieceRow_349 : decode b_Mo_pieceRow 349 = .ok (.aload_n 0, 1) := by decide +kernel
theorem d_Mo_pieceRow_350 : decode b_Mo_pieceRow 350 = .ok (.getfield 29, 3) := by decide +kernel
theorem d_Mo_pieceRow_353 : decode b_Mo_pieceRow 353 = .ok (.iload_n 2, 1) := by decide +kernel
theorem d_Mo_pieceRow_354 : decode b_Mo_pieceRow 354 = .ok (.bipush 17, 2) := by decide +kernel
theorem d_Mo_pieceRow_356 : decode b_Mo_pieceRow 356 = .ok (.iadd, 1) := by decide +kernel
theorem d_Mo_pieceRow_357 : decode b_Mo_pieceRow 357 = .ok (.aload_n 0, 1) := by decide +kernel
theorem d_Mo_pieceRow_358 : decode b_Mo_pieceRow 358 = .ok (.iconst 1, 1) := by decide +kernel
theorem d_Mo_pieceRow_359 : decode b_Mo_pieceRow 359 = .ok (.bipush 99, 2) := by decide +kernel
theorem d_Mo_pieceRow_361 : decode b_Mo_pieceRow 361 = .ok (.invokevirtual 82, 3) := by decide +kernel
theorem d_Mo_pieceRow_364 : decode b_Mo_pieceRow 364 = .ok (.iastore, 1) := by decide +kernel
theorem d_Mo_pieceRow_365 : decode b_Mo_pieceRow 365 = .ok (.aload_n 0, 1) := by decide +kernel
theorem d_Mo_pieceRow_366 : decode b_Mo_pieceRow 366 = .ok (.bipush 33, 2) := by decide +kernel
theorem d_Mo_pieceRow_368 : decode b_Mo_pieceRow 368 = .ok (.invokevirtual 93, 3) := by decide +kernel
theorem d_Mo_pieceRow_371 : decode b_Mo_pieceRow 371 = .ok (.ifCond .eq 19, 3) := by decide +kernel
theorem d_Mo_pieceRow_374 : decode b_Mo_pieceRow 374 = .ok (.aload_n 0, 1) := by decide +kernel
theorem d_Mo_pieceRow_375 : decode b_Mo_pieceRow 375 = .ok (.getfield 29, 3) := by decide +kernel
theorem d_Mo_pieceRow_378 : decode b_Mo_pieceRow 378 = .ok (.iload_n 2, 1) := by decide +kernel
theorem d_Mo_pieceRow_379 : decode b_Mo_pieceRow 379 = .ok (.bipush 18, 2) := by decide +kernel
theorem d_Mo_pieceRow_381 : decode b_Mo_pieceRow 381 = .ok (.iadd, 1) := by decide +kernel
theorem d_Mo_pieceRow_382 : decode b_Mo_pieceRow 382 = .ok (.aload_n 0, 1) := by decide +kernel
theorem d_Mo_pieceRow_383 : decode b_Mo_pieceRow 383 = .ok (.iconst 1, 1) := by decide +kernel
theorem d_Mo_pieceRow_384 : decode b_Mo_pieceRow 384 = .ok (.bipush 99, 2) := by decide +kernel
theorem d_Mo_pieceRow_386 : decode b_Mo_pieceRow 386 = .ok (.invokevirtual 82, 3) := by decide +kernel
theorem d_Mo_pieceRow_389 : decode b_Mo_pieceRow 389 = .ok (.iastore, 1) := by decide +kernel
theorem d_Mo_pieceRow_390 : decode b_Mo_pieceRow 390 = .ok (.aload_n 0, 1) := by decide +kernel
theorem d_Mo_pieceRow_391 : decode b_Mo_pieceRow 391 = .ok (.bipush 34, 2) := by decide +kernel
theorem d_Mo_pieceRow_393 : decode b_Mo_pieceRow 393 = .ok (.invokevirtual 93, 3) := by decide +kernel
theorem d_Mo_pieceRow_396 : decode b_Mo_pieceRow 396 = .ok (.ifCond .eq 8, 3) := by decide +kernel
theorem d_Mo_pieceRow_399 : decode b_Mo_pieceRow 399 = .ok (.aload_n 0, 1) := by decide +kernel
theorem d_Mo_pieceRow_400 : decode b_Mo_pieceRow 400 = .ok (.iload_n 2, 1) := by decide +kernel
theorem d_Mo_pieceRow_401 : decode b_Mo_pieceRow 401 = .ok (.invokevirtual 101, 3) := by decide +kernel
theorem d_Mo_pieceRow_404 : decode b_Mo_pieceRow 404 = .ok (.aload_n 0, 1) := by decide +kernel
theorem d_Mo_pieceRow_405 : decode b_Mo_pieceRow 405 = .ok (.bipush 59, 2) := by decide +kernel
theorem d_Mo_pieceRow_407 : decode b_Mo_pieceRow 407 = .ok (.invokevirtual 86, 3) := by decide +kernel
theorem d_Mo_pieceRow_410 : decode b_Mo_pieceRow 410 = .ok (.return_, 1) := by decide +kernel
theorem d_Mo_read_0 : decode b_Mo_read 0 = .ok (.iconst 0, 1) := by decide +kernel
theorem d_Mo_read_1 : decode b_Mo_read 1 = .ok (.istore_n 1, 1) := by decide +kernel
theorem d_Mo_read_2 : decode b_Mo_read 2 = .ok (.iload_n 1, 1) := by decide +kernel
theorem d_Mo_read_3 : decode b_Mo_read 3 = .ok (.sipush 1769, 3) := by decide +kernel
theorem d_Mo_read_6 : decode b_Mo_read 6 = .ok (.if_icmp .ge 21, 3) := by decide +kernel
theorem d_Mo_read_9 : decode b_Mo_read 9 = .ok (.aload_n 0, 1) := by decide +kernel
theorem d_Mo_read_10 : decode b_Mo_read 10 = .ok (.getfield 29, 3) := by decide +kernel
theorem d_Mo_read_13 : decode b_Mo_read 13 = .ok (.iload_n 1, 1) := by decide +kernel
theorem d_Mo_read_14 : decode b_Mo_read 14 = .ok (.aload_n 0, 1) := by decide +kernel
theorem d_Mo_read_15 : decode b_Mo_read 15 = .ok (.getfield 17, 3) := by decide +kernel
theorem d_Mo_read_18 : decode b_Mo_read 18 = .ok (.iload_n 1, 1) := by decide +kernel
theorem d_Mo_read_19 : decode b_Mo_read 19 = .ok (.iaload, 1) := by decide +kernel
theorem d_Mo_read_20 : decode b_Mo_read 20 = .ok (.iastore, 1) := by decide +kernel
theorem d_Mo_read_21 : decode b_Mo_read 21 = .ok (.iinc 1 1, 3) := by decide +kernel
theorem d_Mo_read_24 : decode b_Mo_read 24 = .ok (.goto (-22), 3) := by decide +kernel
theorem d_Mo_read_27 : decode b_Mo_read 27 = .ok (.iconst 0, 1) := by decide +kernel
theorem d_Mo_read_28 : decode b_Mo_read 28 = .ok (.istore_n 1, 1) := by decide +kernel
theorem d_Mo_read_29 : decode b_Mo_read 29 = .ok (.iload_n 1, 1) := by decide +kernel
theorem d_Mo_read_30 : decode b_Mo_read 30 = .ok (.bipush 62, 2) := by decide +kernel
theorem d_Mo_read_32 : decode b_Mo_read 32 = .ok (.if_icmp .ge 33, 3) := by decide +kernel
theorem d_Mo_read_35 : decode b_Mo_read 35 = .ok (.aload_n 0, 1) := by decide +kernel
theorem d_Mo_read_36 : decode b_Mo_read 36 = .ok (.getfield 32, 3) := by decide +kernel
theorem d_Mo_read_39 : decode b_Mo_read 39 = .ok (.iload_n 1, 1) := by decide +kernel
theorem d_Mo_read_40 : decode b_Mo_read 40 = .ok (.aload_n 0, 1) := by decide +kernel
theorem d_Mo_read_41 : decode b_Mo_read 41 = .ok (.getfield 20, 3) := by decide +kernel
theorem d_Mo_read_44 : decode b_Mo_read 44 = .ok (.iload_n 1, 1) := by decide +kernel
theorem d_Mo_read_45 : decode b_Mo_read 45 = .ok (.iaload, 1) := by decide +kernel
theorem d_Mo_read_46 : decode b_Mo_read 46 = .ok (.iastore, 1) := by decide +kernel
theorem d_Mo_read_47 : decode b_Mo_read 47 = .ok (.aload_n 0, 1) := by decide +kernel
theorem d_Mo_read_48 : decode b_Mo_read 48 = .ok (.getfield 35, 3) := by decide +kernel
theorem d_Mo_read_51 : decode b_Mo_read 51 = .ok (.iload_n 1, 1) := by decide +kernel
theorem d_Mo_read_52 : decode b_Mo_read 52 = .ok (.aload_n 0, 1) := by decide +kernel
theorem d_Mo_read_53 : decode b_Mo_read 53 = .ok (.getfield 23, 3) := by decide +kernel
theorem d_Mo_read_56 : decode b_Mo_read 56 = .ok (.iload_n 1, 1) := by decide +kernel
theorem d_Mo_read_57 : decode b_Mo_read 57 = .ok (.iaload, 1) := by decide +kernel
theorem d_Mo_read_58 : decode b_Mo_read 58 = .ok (.iastore, 1) := by decide +kernel
theorem d_Mo_read_59 : decode b_Mo_read 59 = .ok (.iinc 1 1, 3) := by decide +kernel
theorem d_Mo_read_62 : decode b_Mo_read 62 = .ok (.goto (-33), 3) := by decide +kernel
theorem d_Mo_read_65 : decode b_Mo_read 65 = .ok (.aload_n 0, 1) := by decide +kernel
theorem d_Mo_read_66 : decode b_Mo_read 66 = .ok (.aload_n 0, 1) := by decide +kernel
theorem d_Mo_read_67 : decode b_Mo_read 67 = .ok (.getfield 111, 3) := by decide +kernel
theorem d_Mo_read_70 : decode b_Mo_read 70 = .ok (.putfield 104, 3) := by decide +kernel
theorem d_Mo_read_73 : decode b_Mo_read 73 = .ok (.aload_n 0, 1) := by decide +kernel
theorem d_Mo_read_74 : decode b_Mo_read 74 = .ok (.iconst 0, 1) := by decide +kernel
theorem d_Mo_read_75 : decode b_Mo_read 75 = .ok (.putfield 61, 3) := by decide +kernel
theorem d_Mo_read_78 : decode b_Mo_read 78 = .ok (.aload_n 0, 1) := by decide +kernel
theorem d_Mo_read_79 : decode b_Mo_read 79 = .ok (.iconst (-1), 1) := by decide +kernel
theorem d_Mo_read_80 : decode b_Mo_read 80 = .ok (.putfield 68, 3) := by decide +kernel
theorem d_Mo_read_83 : decode b_Mo_read 83 = .ok (.aload_n 0, 1) := by decide +kernel
theorem d_Mo_read_84 : decode b_Mo_read 84 = .ok (.getfield 68, 3) := by decide +kernel
theorem d_Mo_read_87 : decode b_Mo_read 87 = .ok (.ifCond .ge 106, 3) := by decide +kernel
theorem d_Mo_read_90 : decode b_Mo_read 90 = .ok (.aload_n 0, 1) := by decide +kernel
theorem d_Mo_read_91 : decode b_Mo_read 91 = .ok (.invokevirtual 71, 3) := by decide +kernel
theorem d_Mo_read_94 : decode b_Mo_read 94 = .ok (.ifCond .lt 99, 3) := by decide +kernel
theorem d_Mo_read_97 : decode b_Mo_read 97 = .ok (.aload_n 0, 1) := by decide +kernel
theorem d_Mo_read_98 : decode b_Mo_read 98 = .ok (.invokevirtual 64, 3) := by decide +kernel
theorem d_Mo_read_101 : decode b_Mo_read 101 = .ok (.istore_n 1, 1) := by decide +kernel
theorem d_Mo_read_102 : decode b_Mo_read 102 = .ok (.aload_n 0, 1) := by decide +kernel
theorem d_Mo_read_103 : decode b_Mo_read 103 = .ok (.dup, 1) := by decide +kernel
theorem d_Mo_read_104 : decode b_Mo_read 104 = .ok (.getfield 61, 3) := by decide +kernel
theorem d_Mo_read_107 : decode b_Mo_read 107 = .ok (.iconst 1, 1) := by decide +kernel
theorem d_Mo_read_108 : decode b_Mo_read 108 = .ok (.iadd, 1) := by decide +kernel
theorem d_Mo_read_109 : decode b_Mo_read 109 = .ok (.putfield 61, 3) := by decide +kernel
theorem d_Mo_read_112 : decode b_Mo_read 112 = .ok (.iload_n 1, 1) := by decide +kernel
theorem d_Mo_read_113 : decode b_Mo_read 113 = .ok (.bipush 112, 2) := by decide +kernel
theorem d_Mo_read_115 : decode b_Mo_read 115 = .ok (.if_icmp .ne 10, 3) := by decide +kernel
theorem d_Mo_read_118 : decode b_Mo_read 118 = .ok (.aload_n 0, 1) := by decide +kernel
theorem d_Mo_read_119 : decode b_Mo_read 119 = .ok (.invokevirtual 114, 3) := by decide +kernel
theorem d_Mo_read_122 : decode b_Mo_read 122 = .ok (.goto 68, 3) := by decide +kernel
theorem d_Mo_read_125 : decode b_Mo_read 125 = .ok (.iload_n 1, 1) := by decide +kernel
theorem d_Mo_read_126 : decode b_Mo_read 126 = .ok (.bipush 120, 2) := by decide +kernel
theorem d_Mo_read_128 : decode b_Mo_read 128 = .ok (.if_icmp .ne 10, 3) := by decide +kernel
theorem d_Mo_read_131 : decode b_Mo_read 131 = .ok (.aload_n 0, 1) := by decide +kernel
theorem d_Mo_read_132 : decode b_Mo_read 132 = .ok (.invokevirtual 117, 3) := by decide +kernel
theorem d_Mo_read_135 : decode b_Mo_read 135 = .ok (.goto 55, 3) := by decide +kernel
theorem d_Mo_read_138 : decode b_Mo_read 138 = .ok (.iload_n 1, 1) := by decide +kernel
theorem d_Mo_read_139 : decode b_Mo_read 139 = .ok (.bipush 104, 2) := by decide +kernel
theorem d_Mo_read_141 : decode b_Mo_read 141 = .ok (.if_icmp .ne 11, 3) := by decide +kernel
theorem d_Mo_read_144 : decode b_Mo_read 144 = .ok (.aload_n 0, 1) := by decide +kernel
theorem d_Mo_read_145 : decode b_Mo_read 145 = .ok (.iconst 0, 1) := by decide +kernel
theorem d_Mo_read_146 : decode b_Mo_read 146 = .ok (.invokevirtual 120, 3) := by decide +kernel
theorem d_Mo_read_149 : decode b_Mo_read 149 = .ok (.goto 41, 3) := by decide +kernel
theorem d_Mo_read_152 : decode b_Mo_read 152 = .ok (.iload_n 1, 1) := by decide +kernel
theorem d_Mo_read_153 : decode b_Mo_read 153 = .ok (.bipush 115, 2) := by decide +kernel
theorem d_Mo_read_155 : decode b_Mo_read 155 = .ok (.if_icmp .ne 12, 3) := by decide +kernel
theorem d_Mo_read_158 : decode b_Mo_read 158 = .ok (.aload_n 0, 1) := by decide +kernel
theorem d_Mo_read_159 : decode b_Mo_read 159 = .ok (.bipush 31, 2) := by decide +kernel
theorem d_Mo_read_161 : decode b_Mo_read 161 = .ok (.invokevirtual 120, 3) := by decide +kernel
theorem d_Mo_read_164 : decode b_Mo_read 164 = .ok (.goto 26, 3) := by decide +kernel
theorem d_Mo_read_167 : decode b_Mo_read 167 = .ok (.iload_n 1, 1) := by decide +kernel
theorem d_Mo_read_168 : decode b_Mo_read 168 = .ok (.bipush 103, 2) := by decide +kernel
theorem d_Mo_read_170 : decode b_Mo_read 170 = .ok (.if_icmp .ne 10, 3) := by decide +kernel
theorem d_Mo_read_173 : decode b_Mo_read 173 = .ok (.aload_n 0, 1) := by decide +kernel
theorem d_Mo_read_174 : decode b_Mo_read 174 = .ok (.invokevirtual 123, 3) := by decide +kernel
theorem d_Mo_read_177 : decode b_Mo_read 177 = .ok (.goto 13, 3) := by decide +kernel
theorem d_Mo_read_180 : decode b_Mo_read 180 = .ok (.aload_n 0, 1) := by decide +kernel
theorem d_Mo_read_181 : decode b_Mo_read 181 = .ok (.aload_n 0, 1) := by decide +kernel
theorem d_Mo_read_182 : decode b_Mo_read 182 = .ok (.getfield 61, 3) := by decide +kernel
theorem d_Mo_read_185 : decode b_Mo_read 185 = .ok (.iconst 1, 1) := by decide +kernel
theorem d_Mo_read_186 : decode b_Mo_read 186 = .ok (.isub, 1) := by decide +kernel
theorem d_Mo_read_187 : decode b_Mo_read 187 = .ok (.invokevirtual 74, 3) := by decide +kernel
theorem d_Mo_read_190 : decode b_Mo_read 190 = .ok (.goto (-107), 3) := by decide +kernel
theorem d_Mo_read_193 : decode b_Mo_read 193 = .ok (.aload_n 0, 1) := by decide +kernel
theorem d_Mo_read_194 : decode b_Mo_read 194 = .ok (.iconst 0, 1) := by decide +kernel
theorem d_Mo_read_195 : decode b_Mo_read 195 = .ok (.putfield 58, 3) := by decide +kernel
theorem d_Mo_read_198 : decode b_Mo_read 198 = .ok (.aload_n 0, 1) := by decide +kernel
theorem d_Mo_read_199 : decode b_Mo_read 199 = .ok (.aload_n 0, 1) := by decide +kernel
theorem d_Mo_read_200 : decode b_Mo_read 200 = .ok (.getfield 68, 3) := by decide +kernel
theorem d_Mo_read_203 : decode b_Mo_read 203 = .ok (.putfield 13, 3) := by decide +kernel
theorem d_Mo_read_206 : decode b_Mo_read 206 = .ok (.aload_n 0, 1) := by decide +kernel
theorem d_Mo_read_207 : decode b_Mo_read 207 = .ok (.aload_n 0, 1) := by decide +kernel
theorem d_Mo_read_208 : decode b_Mo_read 208 = .ok (.getfield 68, 3) := by decide +kernel
theorem d_Mo_read_211 : decode b_Mo_read 211 = .ok (.ifCond .lt 7, 3) := by decide +kernel
theorem d_Mo_read_214 : decode b_Mo_read 214 = .ok (.iconst 1, 1) := by decide +kernel
theorem d_Mo_read_215 : decode b_Mo_read 215 = .ok (.goto 17, 3) := by decide +kernel
theorem d_Mo_read_218 : decode b_Mo_read 218 = .ok (.aload_n 0, 1) := by decide +kernel
theorem d_Mo_read_219 : decode b_Mo_read 219 = .ok (.getfield 104, 3) := by decide +kernel
theorem d_Mo_read_222 : decode b_Mo_read 222 = .ok (.bipush 20, 2) := by decide +kernel
theorem d_Mo_read_224 : decode b_Mo_read 224 = .ok (.if_icmp .le 7, 3) := by decide +kernel
theorem d_Mo_read_227 : decode b_Mo_read 227 = .ok (.iconst 2, 1) := by decide +kernel
theorem d_Mo_read_228 : decode b_Mo_read 228 = .ok (.goto 4, 3) := by decide +kernel
theorem d_Mo_read_231 : decode b_Mo_read 231 = .ok (.iconst 0, 1) := by decide +kernel
theorem d_Mo_read_232 : decode b_Mo_read 232 = .ok (.putfield 51, 3) := by decide +kernel
theorem d_Mo_read_235 : decode b_Mo_read 235 = .ok (.aload_n 0, 1) := by decide +kernel
theorem d_Mo_read_236 : decode b_Mo_read 236 = .ok (.getfield 51, 3) := by decide +kernel
theorem d_Mo_read_239 : decode b_Mo_read 239 = .ok (.ifCond .le 5, 3) := by decide +kernel
theorem d_Mo_read_242 : decode b_Mo_read 242 = .ok (.iconst 0, 1) := by decide +kernel
theorem d_Mo_read_243 : decode b_Mo_read 243 = .ok (.ireturn, 1) := by decide +kernel
theorem d_Mo_read_244 : decode b_Mo_read 244 = .ok (.iconst 0, 1) := by decide +kernel
theorem d_Mo_read_245 : decode b_Mo_read 245 = .ok (.istore_n 1, 1) := by decide +kernel
theorem d_Mo_read_246 : decode b_Mo_read 246 = .ok (.iload_n 1, 1) := by decide +kernel
theorem d_Mo_read_247 : decode b_Mo_read 247 = .ok (.sipush 1769, 3) := by decide +kernel
theorem d_Mo_read_250 : decode b_Mo_read 250 = .ok (.if_icmp .ge 21, 3) := by decide +kernel
theorem d_Mo_read_253 : decode b_Mo_read 253 = .ok (.aload_n 0, 1) := by decide +kernel
theorem d_Mo_read_254 : decode b_Mo_read 254 = .ok (.getfield 17, 3) := by decide +kernel
theorem d_Mo_read_257 : decode b_Mo_read 257 = .ok (.iload_n 1, 1) := by decide +kernel
theorem d_Mo_read_258 : decode b_Mo_read 258 = .ok (.aload_n 0, 1) := by decide +kernel
theorem d_Mo_read_259 : decode b_Mo_read 259 = .ok (.getfield 29, 3) := by decide +kernel
theorem d_Mo_read_262 : decode b_Mo_read 262 = .ok (.iload_n 1, 1) := by decide +kernel
theorem d_Mo_read_263 : decode b_Mo_read 263 = .ok (.iaload, 1) := by decide +kernel
theorem d_Mo_read_264 : decode b_Mo_read 264 = .ok (.iastore, 1) := by decide +kernel
theorem d_Mo_read_265 : decode b_Mo_read 265 = .ok (.iinc 1 1, 3) := by decide +kernel
theorem d_Mo_read_268 : decode b_Mo_read 268 = .ok (.goto (-22), 3) := by decide +kernel
theorem d_Mo_read_271 : decode b_Mo_read 271 = .ok (.iconst 0, 1) := by decide +kernel
theorem d_Mo_read_272 : decode b_Mo_read 272 = .ok (.istore_n 1, 1) := by decide +kernel
theorem d_Mo_read_273 : decode b_Mo_read 273 = .ok (.iload_n 1, 1) := by decide +kernel
theorem d_Mo_read_274 : decode b_Mo_read 274 = .ok (.bipush 62, 2) := by decide +kernel
theorem d_Mo_read_276 : decode b_Mo_read 276 = .ok (.if_icmp .ge 33, 3) := by decide +kernel
theorem d_Mo_read_279 : decode b_Mo_read 279 = .ok (.aload_n 0, 1) := by decide +kernel
theorem d_Mo_read_280 : decode b_Mo_read 280 = .ok (.getfield 20, 3) := by decide +kernel
theorem d_Mo_read_283 : decode b_Mo_read 283 = .ok (.iload_n 1, 1) := by decide +kernel
theorem d_Mo_read_284 : decode b_Mo_read 284 = .ok (.aload_n 0, 1) := by decide +kernel
theorem d_Mo_read_285 : decode b_Mo_read 285 = .ok (.getfield 32, 3) := by decide +kernel
theorem d_Mo_read_288 : decode b_Mo_read 288 = .ok (.iload_n 1, 1) := by decide +kernel
theorem d_Mo_read_289 : decode b_Mo_read 289 = .ok (.iaload, 1) := by decide +kernel
theorem d_Mo_read_290 : decode b_Mo_read 290 = .ok (.iastore, 1) := by decide +kernel
theorem d_Mo_read_291 : decode b_Mo_read 291 = .ok (.aload_n 0, 1) := by decide +kernel
theorem d_Mo_read_292 : decode b_Mo_read 292 = .ok (.getfield 23, 3) := by decide +kernel
theorem d_Mo_read_295 : decode b_Mo_read 295 = .ok (.iload_n 1, 1) := by decide +kernel
theorem d_Mo_read_296 : decode b_Mo_read 296 = .ok (.aload_n 0, 1) := by decide +kernel
theorem d_Mo_read_297 : decode b_Mo_read 297 = .ok (.getfield 35, 3) := by decide +kernel
theorem d_Mo_read_300 : decode b_Mo_read 300 = .ok (.iload_n 1, 1) := by decide +kernel
theorem d_Mo_read_301 : decode b_Mo_read 301 = .ok (.iaload, 1) := by decide +kernel
theorem d_Mo_read_302 : decode b_Mo_read 302 = .ok (.iastore, 1) := by decide +kernel
theorem d_Mo_read_303 : decode b_Mo_read 303 = .ok (.iinc 1 1, 3) := by decide +kernel
theorem d_Mo_read_306 : decode b_Mo_read 306 = .ok (.goto (-33), 3) := by decide +kernel
theorem d_Mo_read_309 : decode b_Mo_read 309 = .ok (.aload_n 0, 1) := by decide +kernel
theorem d_Mo_read_310 : decode b_Mo_read 310 = .ok (.aload_n 0, 1) := by decide +kernel
theorem d_Mo_read_311 : decode b_Mo_read 311 = .ok (.getfield 104, 3) := by decide +kernel
theorem d_Mo_read_314 : decode b_Mo_read 314 = .ok (.putfield 111, 3) := by decide +kernel
theorem d_Mo_read_317 : decode b_Mo_read 317 = .ok (.aload_n 0, 1) := by decide +kernel
theorem d_Mo_read_318 : decode b_Mo_read 318 = .ok (.invokevirtual 126, 3) := by decide +kernel
theorem d_Mo_read_321 : decode b_Mo_read 321 = .ok (.ireturn, 1) := by decide +kernel

set_option maxHeartbeats 4000000 in
set_option maxRecDepth 100000 in
/-- spotRow -/
theorem c_Mo_spotRow (l : Launch) (G : Gx) (lo : Nat) (V : Vw) (sz : Nat) (m mt ns nl : Nat) (u0 u3 u4 u5 u6 u7 u8 u9 u12 u15 u16 u17 u18 u19 u20 : Value) (g sp al : Nat → Int32) (t : Nat → Nat) (n q fr : Nat) (hn : [m, mt, ns, nl].Nodup) (hT : mtOk g t n) (h4 : n ≤ 400) (hq4 : q ≤ 500) (hfr : fr ≤ 31) : Met l y_Mo_spotRow ws_Mo_spotRow ({ frames := 3, cells := 0, slots := 0, locals := 80 } : Room) (vPre G lo [.ref m, .int (nI fr)] (vU V [(m, eO 8 [u0, .int (nI n), .ref mt, u3, u4, u5, u6, u7, u8, u9, .ref ns, .ref nl, u12, .int (nI q), .int ((-1)), u15, u16, u17, u18, u19, u20]), (mt, eI (gI G) 400 g), (ns, eI (gI G) 62 sp), (nl, eI (gI G) 62 al)]) sz) (vPost G lo (fun r V' k => r = none ∧ (∃ (a9 : Nat) (sp2 al2 : Nat → Int32), V' = vU V [(m, eO 8 [u0, .int (nI n), .ref mt, u3, u4, u5, u6, u7, u8, u9, .ref ns, .ref nl, u12, .int (nI a9), .int (wI (semi t n (spotR t n q))), u15, u16, u17, u18, u19, u20]), (mt, eI (gI G) 400 g), (ns, eI (gI G) 62 sp2), (nl, eI (gI G) 62 al2)] ∧ ∀ z, semi t n (spotR t n q) = .inr z → a9 = z.2 ∧ sp2 = upd sp (fr + z.1.1) (nI z.1.2.1) ∧ al2 = upd al (fr + z.1.1) (nI z.1.2.2)) ∧ k = sz)) 0 0 (vL lo) := by
  refine vMet (R := RMo) (by decide) rfl (Nat.le_of_ble_eq_true rfl) ?_
  intro pg ev s mi args below meth cd hx hb hr hml hlk hnm hts hown hK hz hV ls hl
  have hl : lv_has ls 5 [(0, .ref m), (1, .int (nI fr))] := hl
  have hV0 := hV
  obtain ⟨H, hH⟩ : ∃ H, H = s.heap := ⟨_, rfl⟩
  obtain ⟨locs, hlocs⟩ : ∃ locs : List Loc, locs = [] := ⟨_, rfl⟩
  rw [← hH, ← hlocs]
  rw [← hH] at hz
  replace hV : vS G.1 cls lo s H locs (vU V [(m, eO 8 [u0, .int (nI n), .ref mt, u3, u4, u5, u6, u7, u8, u9, .ref ns, .ref nl, u12, .int (nI q), .int ((-1)), u15, u16, u17, u18, u19, u20]), (mt, eI (gI G) 400 g), (ns, eI (gI G) 62 sp), (nl, eI (gI G) 62 al)]) := by rw [hH, hlocs]; exact hV
  clear hH hlocs hV0
  refine lv_aload_n hx hb d_Mo_spotRow_0 rfl (lv_at hl 0 rfl) ?_
  refine lv_iconst (v := 1) hx hb d_Mo_spotRow_1 (by decide) ?_
  refine lv_bipush (v := 30) hx hb d_Mo_spotRow_2 (by decide) ?_
  refine v_call (va_runV (As := [.int 1, .int 30]) (rest := []) ⟨hx, hb, hml, hown, hts⟩ (c_Mo_number l G lo _ _ m mt u0 u3 u4 u5 u6 u7 u8 u9 (.ref ns) (.ref nl) u12 u15 u16 u17 u18 u19 u20 g t n q (nd_sub hn [0, 1] (by decide) rfl) hT h4 (by omega) 1 30 (by omega) (by omega)) (kwV 2 hts w_co_Mo_number rfl rfl w_it_Mo w_ml_Mo_82 w_im_Mo_number w_se_Mo__Mo_number (by decide +kernel) ⟨(Nat.le_of_ble_eq_true rfl), (Nat.le_of_ble_eq_true rfl)⟩) (u_preV hK hV hn [0, 1] rfl hz 0 rfl rfl) rfl rfl hl.1 rfl (lv_room (Nat.le_of_ble_eq_true rfl)) d_Mo_spotRow_4 ⟨(Nat.le_of_ble_eq_true rfl), (Nat.le_of_ble_eq_true rfl)⟩) hV (fun r9 V9 H locs hp hV hle => ?_)
  obtain ⟨rfl, rfl, hz⟩ := hp
  replace hV := u_back hV hn [0, 1] rfl
  have hV : vS G.1 cls lo s H locs (vU V [(m, eO 8 [u0, .int (nI n), .ref mt, u3, u4, u5, u6, u7, u8, u9, .ref ns, .ref nl, u12, .int (nI ((dgs t n 4 0 0 (sk t n q)).2.2)), .int (wI (num t n 1 30 q)), u15, u16, u17, u18, u19, u20]), (mt, eI (gI G) 400 g), (ns, eI (gI G) 62 sp), (nl, eI (gI G) 62 al)]) := hV
  obtain ⟨x_1, hx_1⟩ : ∃ z, num t n 1 30 q = z := ⟨_, rfl⟩
  rw [hx_1] at hV
  rcases x_1 with e_1 | ⟨v_1, q_1⟩
  · obtain ⟨ax_1, hax_1⟩ : ∃ z, (dgs t n 4 0 0 (sk t n q)).2.2 = z := ⟨_, rfl⟩
    rw [hax_1] at hV
    have be_1 := num_er2 hx_1
    have bax_1 := dgs_le2 hax_1
    have hV : vS G.1 cls lo s H locs (vU V [(m, eO 8 [u0, .int (nI n), .ref mt, u3, u4, u5, u6, u7, u8, u9, .ref ns, .ref nl, u12, .int (nI ax_1), .int (nI e_1), u15, u16, u17, u18, u19, u20]), (mt, eI (gI G) 400 g), (ns, eI (gI G) 62 sp), (nl, eI (gI G) 62 al)]) := hV
    refine W.eq (g2 := F0 mi 7 ls [.int 1]) (by rw [hx_1]; rfl) ?_
    refine lv_istore_n (lv' := [(2, .int 1), (0, .ref m), (1, .int (nI fr))]) hx hb d_Mo_spotRow_7 rfl hl (by decide) rfl (fun ls hl => ?_)
    refine lv_aload_n hx hb d_Mo_spotRow_8 rfl (lv_at hl 1 rfl) ?_
    refine lv_bipush (v := 64) hx hb d_Mo_spotRow_9 (by decide) ?_
    refine v_call (va_runV (As := [.int 64]) (rest := []) ⟨hx, hb, hml, hown, hts⟩ (c_Mo_takeB l G lo _ _ m u0 (.int (nI n)) (.ref mt) u3 u4 u5 u6 u7 u8 u9 (.ref ns) (.ref nl) u12 (.int (nI ax_1)) u15 u16 u17 u18 u19 u20 (by simp) e_1 (by omega) 64) (kwV 1 hts w_co_Mo_take rfl rfl w_it_Mo w_ml_Mo_86 w_im_Mo_take w_se_Mo__Mo_take (by decide +kernel) ⟨(Nat.le_of_ble_eq_true rfl), (Nat.le_of_ble_eq_true rfl)⟩) (u_preV hK hV hn [0] rfl hz 0 rfl rfl) rfl rfl hl.1 rfl (lv_room (Nat.le_of_ble_eq_true rfl)) d_Mo_spotRow_11 ⟨(Nat.le_of_ble_eq_true rfl), (Nat.le_of_ble_eq_true rfl)⟩) hV (fun r9 V9 H locs hp hV hle => ?_)
    obtain ⟨rfl, rfl, hz⟩ := hp
    replace hV := uu_same hV hn [0] rfl
    have hV : vS G.1 cls lo s H locs (vU V [(m, eO 8 [u0, .int (nI n), .ref mt, u3, u4, u5, u6, u7, u8, u9, .ref ns, .ref nl, u12, .int (nI ax_1), .int (nI e_1), u15, u16, u17, u18, u19, u20]), (mt, eI (gI G) 400 g), (ns, eI (gI G) 62 sp), (nl, eI (gI G) 62 al)]) := hV
    refine lv_aload_n hx hb d_Mo_spotRow_14 rfl (lv_at hl 1 rfl) ?_
    refine lv_iconst (v := 1) hx hb d_Mo_spotRow_15 (by decide) ?_
    refine lv_bipush (v := 60) hx hb d_Mo_spotRow_16 (by decide) ?_
    refine v_call (va_runV (As := [.int 1, .int 60]) (rest := []) ⟨hx, hb, hml, hown, hts⟩ (c_Mo_numberB l G lo _ _ m u0 (.int (nI n)) (.ref mt) u3 u4 u5 u6 u7 u8 u9 (.ref ns) (.ref nl) u12 (.int (nI ax_1)) u15 u16 u17 u18 u19 u20 (by simp) e_1 (by omega) 1 60) (kwV 2 hts w_co_Mo_number rfl rfl w_it_Mo w_ml_Mo_82 w_im_Mo_number w_se_Mo__Mo_number (by decide +kernel) ⟨(Nat.le_of_ble_eq_true rfl), (Nat.le_of_ble_eq_true rfl)⟩) (u_preV hK hV hn [0] rfl hz 0 rfl rfl) rfl rfl hl.1 rfl (lv_room (Nat.le_of_ble_eq_true rfl)) d_Mo_spotRow_18 ⟨(Nat.le_of_ble_eq_true rfl), (Nat.le_of_ble_eq_true rfl)⟩) hV (fun r9 V9 H locs hp hV hle => ?_)
    obtain ⟨rfl, rfl, hz⟩ := hp
    replace hV := uu_same hV hn [0] rfl
    have hV : vS G.1 cls lo s H locs (vU V [(m, eO 8 [u0, .int (nI n), .ref mt, u3, u4, u5, u6, u7, u8, u9, .ref ns, .ref nl, u12, .int (nI ax_1), .int (nI e_1), u15, u16, u17, u18, u19, u20]), (mt, eI (gI G) 400 g), (ns, eI (gI G) 62 sp), (nl, eI (gI G) 62 al)]) := hV
    refine W.eq (g2 := F0 mi 21 ls [.int 1]) rfl ?_
    refine lv_istore_n (lv' := [(3, .int 1), (2, .int 1), (0, .ref m), (1, .int (nI fr))]) hx hb d_Mo_spotRow_21 rfl hl (by decide) rfl (fun ls hl => ?_)
    refine lv_aload_n hx hb d_Mo_spotRow_22 rfl (lv_at hl 2 rfl) ?_
    refine lv_bipush (v := 43) hx hb d_Mo_spotRow_23 (by decide) ?_
    refine v_call (va_runV (As := [.int 43]) (rest := []) ⟨hx, hb, hml, hown, hts⟩ (c_Mo_takeB l G lo _ _ m u0 (.int (nI n)) (.ref mt) u3 u4 u5 u6 u7 u8 u9 (.ref ns) (.ref nl) u12 (.int (nI ax_1)) u15 u16 u17 u18 u19 u20 (by simp) e_1 (by omega) 43) (kwV 1 hts w_co_Mo_take rfl rfl w_it_Mo w_ml_Mo_86 w_im_Mo_take w_se_Mo__Mo_take (by decide +kernel) ⟨(Nat.le_of_ble_eq_true rfl), (Nat.le_of_ble_eq_true rfl)⟩) (u_preV hK hV hn [0] rfl hz 0 rfl rfl) rfl rfl hl.1 rfl (lv_room (Nat.le_of_ble_eq_true rfl)) d_Mo_spotRow_25 ⟨(Nat.le_of_ble_eq_true rfl), (Nat.le_of_ble_eq_true rfl)⟩) hV (fun r9 V9 H locs hp hV hle => ?_)
    obtain ⟨rfl, rfl, hz⟩ := hp
    replace hV := uu_same hV hn [0] rfl
    have hV : vS G.1 cls lo s H locs (vU V [(m, eO 8 [u0, .int (nI n), .ref mt, u3, u4, u5, u6, u7, u8, u9, .ref ns, .ref nl, u12, .int (nI ax_1), .int (nI e_1), u15, u16, u17, u18, u19, u20]), (mt, eI (gI G) 400 g), (ns, eI (gI G) 62 sp), (nl, eI (gI G) 62 al)]) := hV
    refine lv_aload_n hx hb d_Mo_spotRow_28 rfl (lv_at hl 2 rfl) ?_
    refine lv_iconst (v := 0) hx hb d_Mo_spotRow_29 (by decide) ?_
    refine lv_sipush (v := 9999) hx hb d_Mo_spotRow_30 (by decide) ?_
    refine v_call (va_runV (As := [.int 0, .int 9999]) (rest := []) ⟨hx, hb, hml, hown, hts⟩ (c_Mo_numberB l G lo _ _ m u0 (.int (nI n)) (.ref mt) u3 u4 u5 u6 u7 u8 u9 (.ref ns) (.ref nl) u12 (.int (nI ax_1)) u15 u16 u17 u18 u19 u20 (by simp) e_1 (by omega) 0 9999) (kwV 2 hts w_co_Mo_number rfl rfl w_it_Mo w_ml_Mo_82 w_im_Mo_number w_se_Mo__Mo_number (by decide +kernel) ⟨(Nat.le_of_ble_eq_true rfl), (Nat.le_of_ble_eq_true rfl)⟩) (u_preV hK hV hn [0] rfl hz 0 rfl rfl) rfl rfl hl.1 rfl (lv_room (Nat.le_of_ble_eq_true rfl)) d_Mo_spotRow_33 ⟨(Nat.le_of_ble_eq_true rfl), (Nat.le_of_ble_eq_true rfl)⟩) hV (fun r9 V9 H locs hp hV hle => ?_)
    obtain ⟨rfl, rfl, hz⟩ := hp
    replace hV := uu_same hV hn [0] rfl
    have hV : vS G.1 cls lo s H locs (vU V [(m, eO 8 [u0, .int (nI n), .ref mt, u3, u4, u5, u6, u7, u8, u9, .ref ns, .ref nl, u12, .int (nI ax_1), .int (nI e_1), u15, u16, u17, u18, u19, u20]), (mt, eI (gI G) 400 g), (ns, eI (gI G) 62 sp), (nl, eI (gI G) 62 al)]) := hV
    refine W.eq (g2 := F0 mi 36 ls [.int 0]) rfl ?_
    refine lv_istore (lv' := [(4, .int 0), (3, .int 1), (2, .int 1), (0, .ref m), (1, .int (nI fr))]) hx hb d_Mo_spotRow_36 hl (by decide) rfl (fun ls hl => ?_)
    refine lv_aload_n hx hb d_Mo_spotRow_38 rfl (lv_at hl 3 rfl) ?_
    refine lv_bipush (v := 59) hx hb d_Mo_spotRow_39 (by decide) ?_
    refine v_call (va_runV (As := [.int 59]) (rest := []) ⟨hx, hb, hml, hown, hts⟩ (c_Mo_takeB l G lo _ _ m u0 (.int (nI n)) (.ref mt) u3 u4 u5 u6 u7 u8 u9 (.ref ns) (.ref nl) u12 (.int (nI ax_1)) u15 u16 u17 u18 u19 u20 (by simp) e_1 (by omega) 59) (kwV 1 hts w_co_Mo_take rfl rfl w_it_Mo w_ml_Mo_86 w_im_Mo_take w_se_Mo__Mo_take (by decide +kernel) ⟨(Nat.le_of_ble_eq_true rfl), (Nat.le_of_ble_eq_true rfl)⟩) (u_preV hK hV hn [0] rfl hz 0 rfl rfl) rfl rfl hl.1 rfl (lv_room (Nat.le_of_ble_eq_true rfl)) d_Mo_spotRow_41 ⟨(Nat.le_of_ble_eq_true rfl), (Nat.le_of_ble_eq_true rfl)⟩) hV (fun r9 V9 H locs hp hV hle => ?_)
    obtain ⟨rfl, rfl, hz⟩ := hp
    replace hV := uu_same hV hn [0] rfl
    have hV : vS G.1 cls lo s H locs (vU V [(m, eO 8 [u0, .int (nI n), .ref mt, u3, u4, u5, u6, u7, u8, u9, .ref ns, .ref nl, u12, .int (nI ax_1), .int (nI e_1), u15, u16, u17, u18, u19, u20]), (mt, eI (gI G) 400 g), (ns, eI (gI G) 62 sp), (nl, eI (gI G) 62 al)]) := hV
    refine lv_aload_n hx hb d_Mo_spotRow_44 rfl (lv_at hl 3 rfl) ?_
    refine u_get hx hb hts inMo hown hK hV hn 0 rfl rfl 14 (by decide) w_fl_Mo_68 rfl rfl d_Mo_spotRow_45 ?_
    refine lv_if_lt (tgt := 52) hx hb d_Mo_spotRow_48 (by decide) (fun c_2 => absurd c_2 (nI_nlt0 (by omega))) (fun c_2 => ?_)
    replace c_2 : ¬ e_1 < 0 := fun z9 => c_2 ((nI_ltI (a := e_1) (b := 0) (by omega) (by omega)).mpr z9)
    have hX : semi t n (spotR t n q) = .inl e_1 := by simp only [semi, spotR, hx_1, sbd_l, sbd_r]
    exact W.vret hx hb hr (v_end hV ⟨rfl, ⟨_, _, _, by rw [hX]; rfl, fun z hz9 => by rw [hX] at hz9; cases hz9⟩, hz⟩) hV.2.1.2.2 d_Mo_spotRow_51
  · rw [num_at hx_1] at hV
    obtain ⟨lv_1, uv_1, gq_1, bq_1⟩ := num_ok2 hx_1
    have hV : vS G.1 cls lo s H locs (vU V [(m, eO 8 [u0, .int (nI n), .ref mt, u3, u4, u5, u6, u7, u8, u9, .ref ns, .ref nl, u12, .int (nI q_1), .int ((-1)), u15, u16, u17, u18, u19, u20]), (mt, eI (gI G) 400 g), (ns, eI (gI G) 62 sp), (nl, eI (gI G) 62 al)]) := hV
    refine W.eq (g2 := F0 mi 7 ls [.int (nI v_1)]) (by rw [hx_1]; rfl) ?_
    refine lv_istore_n (lv' := [(2, .int (nI v_1)), (0, .ref m), (1, .int (nI fr))]) hx hb d_Mo_spotRow_7 rfl hl (by decide) rfl (fun ls hl => ?_)
    refine lv_aload_n hx hb d_Mo_spotRow_8 rfl (lv_at hl 1 rfl) ?_
    refine lv_bipush (v := 64) hx hb d_Mo_spotRow_9 (by decide) ?_
    refine v_call (va_runV (As := [.int 64]) (rest := []) ⟨hx, hb, hml, hown, hts⟩ (c_Mo_take l G lo _ _ m mt u0 u3 u4 u5 u6 u7 u8 u9 (.ref ns) (.ref nl) u12 u15 u16 u17 u18 u19 u20 g t n q_1 (nd_sub hn [0, 1] (by decide) rfl) hT h4 (by omega) 64 (by decide)) (kwV 1 hts w_co_Mo_take rfl rfl w_it_Mo w_ml_Mo_86 w_im_Mo_take w_se_Mo__Mo_take (by decide +kernel) ⟨(Nat.le_of_ble_eq_true rfl), (Nat.le_of_ble_eq_true rfl)⟩) (u_preV hK hV hn [0, 1] rfl hz 0 rfl rfl) rfl rfl hl.1 rfl (lv_room (Nat.le_of_ble_eq_true rfl)) d_Mo_spotRow_11 ⟨(Nat.le_of_ble_eq_true rfl), (Nat.le_of_ble_eq_true rfl)⟩) hV (fun r9 V9 H locs hp hV hle => ?_)
    obtain ⟨rfl, rfl, hz⟩ := hp
    replace hV := u_back hV hn [0, 1] rfl
    have hV : vS G.1 cls lo s H locs (vU V [(m, eO 8 [u0, .int (nI n), .ref mt, u3, u4, u5, u6, u7, u8, u9, .ref ns, .ref nl, u12, .int (nI (rQ (tk t n 64 q_1))), .int (wI (tk t n 64 q_1)), u15, u16, u17, u18, u19, u20]), (mt, eI (gI G) 400 g), (ns, eI (gI G) 62 sp), (nl, eI (gI G) 62 al)]) := hV
    obtain ⟨x_3, hx_3⟩ : ∃ z, tk t n 64 q_1 = z := ⟨_, rfl⟩
    rw [hx_3] at hV
    rcases x_3 with e_3 | q_3
    · have be_3 := tk_er2 hx_3
      have hV : vS G.1 cls lo s H locs (vU V [(m, eO 8 [u0, .int (nI n), .ref mt, u3, u4, u5, u6, u7, u8, u9, .ref ns, .ref nl, u12, .int (nI e_3), .int (nI e_3), u15, u16, u17, u18, u19, u20]), (mt, eI (gI G) 400 g), (ns, eI (gI G) 62 sp), (nl, eI (gI G) 62 al)]) := hV
      refine W.eq (g2 := F0 mi 14 ls []) rfl ?_
      refine lv_aload_n hx hb d_Mo_spotRow_14 rfl (lv_at hl 1 rfl) ?_
      refine lv_iconst (v := 1) hx hb d_Mo_spotRow_15 (by decide) ?_
      refine lv_bipush (v := 60) hx hb d_Mo_spotRow_16 (by decide) ?_
      refine v_call (va_runV (As := [.int 1, .int 60]) (rest := []) ⟨hx, hb, hml, hown, hts⟩ (c_Mo_numberB l G lo _ _ m u0 (.int (nI n)) (.ref mt) u3 u4 u5 u6 u7 u8 u9 (.ref ns) (.ref nl) u12 (.int (nI e_3)) u15 u16 u17 u18 u19 u20 (by simp) e_3 (by omega) 1 60) (kwV 2 hts w_co_Mo_number rfl rfl w_it_Mo w_ml_Mo_82 w_im_Mo_number w_se_Mo__Mo_number (by decide +kernel) ⟨(Nat.le_of_ble_eq_true rfl), (Nat.le_of_ble_eq_true rfl)⟩) (u_preV hK hV hn [0] rfl hz 0 rfl rfl) rfl rfl hl.1 rfl (lv_room (Nat.le_of_ble_eq_true rfl)) d_Mo_spotRow_18 ⟨(Nat.le_of_ble_eq_true rfl), (Nat.le_of_ble_eq_true rfl)⟩) hV (fun r9 V9 H locs hp hV hle => ?_)
      obtain ⟨rfl, rfl, hz⟩ := hp
      replace hV := uu_same hV hn [0] rfl
      have hV : vS G.1 cls lo s H locs (vU V [(m, eO 8 [u0, .int (nI n), .ref mt, u3, u4, u5, u6, u7, u8, u9, .ref ns, .ref nl, u12, .int (nI e_3), .int (nI e_3), u15, u16, u17, u18, u19, u20]), (mt, eI (gI G) 400 g), (ns, eI (gI G) 62 sp), (nl, eI (gI G) 62 al)]) := hV
      refine W.eq (g2 := F0 mi 21 ls [.int 1]) rfl ?_
      refine lv_istore_n (lv' := [(3, .int 1), (2, .int (nI v_1)), (0, .ref m), (1, .int (nI fr))]) hx hb d_Mo_spotRow_21 rfl hl (by decide) rfl (fun ls hl => ?_)
      refine lv_aload_n hx hb d_Mo_spotRow_22 rfl (lv_at hl 2 rfl) ?_
      refine lv_bipush (v := 43) hx hb d_Mo_spotRow_23 (by decide) ?_
      refine v_call (va_runV (As := [.int 43]) (rest := []) ⟨hx, hb, hml, hown, hts⟩ (c_Mo_takeB l G lo _ _ m u0 (.int (nI n)) (.ref mt) u3 u4 u5 u6 u7 u8 u9 (.ref ns) (.ref nl) u12 (.int (nI e_3)) u15 u16 u17 u18 u19 u20 (by simp) e_3 (by omega) 43) (kwV 1 hts w_co_Mo_take rfl rfl w_it_Mo w_ml_Mo_86 w_im_Mo_take w_se_Mo__Mo_take (by decide +kernel) ⟨(Nat.le_of_ble_eq_true rfl), (Nat.le_of_ble_eq_true rfl)⟩) (u_preV hK hV hn [0] rfl hz 0 rfl rfl) rfl rfl hl.1 rfl (lv_room (Nat.le_of_ble_eq_true rfl)) d_Mo_spotRow_25 ⟨(Nat.le_of_ble_eq_true rfl), (Nat.le_of_ble_eq_true rfl)⟩) hV (fun r9 V9 H locs hp hV hle => ?_)
      obtain ⟨rfl, rfl, hz⟩ := hp
      replace hV := uu_same hV hn [0] rfl
      have hV : vS G.1 cls lo s H locs (vU V [(m, eO 8 [u0, .int (nI n), .ref mt, u3, u4, u5, u6, u7, u8, u9, .ref ns, .ref nl, u12, .int (nI e_3), .int (nI e_3), u15, u16, u17, u18, u19, u20]), (mt, eI (gI G) 400 g), (ns, eI (gI G) 62 sp), (nl, eI (gI G) 62 al)]) := hV
      refine lv_aload_n hx hb d_Mo_spotRow_28 rfl (lv_at hl 2 rfl) ?_
      refine lv_iconst (v := 0) hx hb d_Mo_spotRow_29 (by decide) ?_
      refine lv_sipush (v := 9999) hx hb d_Mo_spotRow_30 (by decide) ?_
      refine v_call (va_runV (As := [.int 0, .int 9999]) (rest := []) ⟨hx, hb, hml, hown, hts⟩ (c_Mo_numberB l G lo _ _ m u0 (.int (nI n)) (.ref mt) u3 u4 u5 u6 u7 u8 u9 (.ref ns) (.ref nl) u12 (.int (nI e_3)) u15 u16 u17 u18 u19 u20 (by simp) e_3 (by omega) 0 9999) (kwV 2 hts w_co_Mo_number rfl rfl w_it_Mo w_ml_Mo_82 w_im_Mo_number w_se_Mo__Mo_number (by decide +kernel) ⟨(Nat.le_of_ble_eq_true rfl), (Nat.le_of_ble_eq_true rfl)⟩) (u_preV hK hV hn [0] rfl hz 0 rfl rfl) rfl rfl hl.1 rfl (lv_room (Nat.le_of_ble_eq_true rfl)) d_Mo_spotRow_33 ⟨(Nat.le_of_ble_eq_true rfl), (Nat.le_of_ble_eq_true rfl)⟩) hV (fun r9 V9 H locs hp hV hle => ?_)
      obtain ⟨rfl, rfl, hz⟩ := hp
      replace hV := uu_same hV hn [0] rfl
      have hV : vS G.1 cls lo s H locs (vU V [(m, eO 8 [u0, .int (nI n), .ref mt, u3, u4, u5, u6, u7, u8, u9, .ref ns, .ref nl, u12, .int (nI e_3), .int (nI e_3), u15, u16, u17, u18, u19, u20]), (mt, eI (gI G) 400 g), (ns, eI (gI G) 62 sp), (nl, eI (gI G) 62 al)]) := hV
      refine W.eq (g2 := F0 mi 36 ls [.int 0]) rfl ?_
      refine lv_istore (lv' := [(4, .int 0), (3, .int 1), (2, .int (nI v_1)), (0, .ref m), (1, .int (nI fr))]) hx hb d_Mo_spotRow_36 hl (by decide) rfl (fun ls hl => ?_)
      refine lv_aload_n hx hb d_Mo_spotRow_38 rfl (lv_at hl 3 rfl) ?_
      refine lv_bipush (v := 59) hx hb d_Mo_spotRow_39 (by decide) ?_
      refine v_call (va_runV (As := [.int 59]) (rest := []) ⟨hx, hb, hml, hown, hts⟩ (c_Mo_takeB l G lo _ _ m u0 (.int (nI n)) (.ref mt) u3 u4 u5 u6 u7 u8 u9 (.ref ns) (.ref nl) u12 (.int (nI e_3)) u15 u16 u17 u18 u19 u20 (by simp) e_3 (by omega) 59) (kwV 1 hts w_co_Mo_take rfl rfl w_it_Mo w_ml_Mo_86 w_im_Mo_take w_se_Mo__Mo_take (by decide +kernel) ⟨(Nat.le_of_ble_eq_true rfl), (Nat.le_of_ble_eq_true rfl)⟩) (u_preV hK hV hn [0] rfl hz 0 rfl rfl) rfl rfl hl.1 rfl (lv_room (Nat.le_of_ble_eq_true rfl)) d_Mo_spotRow_41 ⟨(Nat.le_of_ble_eq_true rfl), (Nat.le_of_ble_eq_true rfl)⟩) hV (fun r9 V9 H locs hp hV hle => ?_)
      obtain ⟨rfl, rfl, hz⟩ := hp
      replace hV := uu_same hV hn [0] rfl
      have hV : vS G.1 cls lo s H locs (vU V [(m, eO 8 [u0, .int (nI n), .ref mt, u3, u4, u5, u6, u7, u8, u9, .ref ns, .ref nl, u12, .int (nI e_3), .int (nI e_3), u15, u16, u17, u18, u19, u20]), (mt, eI (gI G) 400 g), (ns, eI (gI G) 62 sp), (nl, eI (gI G) 62 al)]) := hV
      refine lv_aload_n hx hb d_Mo_spotRow_44 rfl (lv_at hl 3 rfl) ?_
      refine u_get hx hb hts inMo hown hK hV hn 0 rfl rfl 14 (by decide) w_fl_Mo_68 rfl rfl d_Mo_spotRow_45 ?_
      refine lv_if_lt (tgt := 52) hx hb d_Mo_spotRow_48 (by decide) (fun c_4 => absurd c_4 (nI_nlt0 (by omega))) (fun c_4 => ?_)
      replace c_4 : ¬ e_3 < 0 := fun z9 => c_4 ((nI_ltI (a := e_3) (b := 0) (by omega) (by omega)).mpr z9)
      have hX : semi t n (spotR t n q) = .inl e_3 := by simp only [semi, spotR, hx_1, hx_3, sbd_l, sbd_r]
      exact W.vret hx hb hr (v_end hV ⟨rfl, ⟨_, _, _, by rw [hX]; rfl, fun z hz9 => by rw [hX] at hz9; cases hz9⟩, hz⟩) hV.2.1.2.2 d_Mo_spotRow_51
    · obtain ⟨gq_3, bq_3⟩ := tk_ok hx_3
      have hV : vS G.1 cls lo s H locs (vU V [(m, eO 8 [u0, .int (nI n), .ref mt, u3, u4, u5, u6, u7, u8, u9, .ref ns, .ref nl, u12, .int (nI q_3), .int ((-1)), u15, u16, u17, u18, u19, u20]), (mt, eI (gI G) 400 g), (ns, eI (gI G) 62 sp), (nl, eI (gI G) 62 al)]) := hV
      refine W.eq (g2 := F0 mi 14 ls []) rfl ?_
      refine lv_aload_n hx hb d_Mo_spotRow_14 rfl (lv_at hl 1 rfl) ?_
      refine lv_iconst (v := 1) hx hb d_Mo_spotRow_15 (by decide) ?_
      refine lv_bipush (v := 60) hx hb d_Mo_spotRow_16 (by decide) ?_
      refine v_call (va_runV (As := [.int 1, .int 60]) (rest := []) ⟨hx, hb, hml, hown, hts⟩ (c_Mo_number l G lo _ _ m mt u0 u3 u4 u5 u6 u7 u8 u9 (.ref ns) (.ref nl) u12 u15 u16 u17 u18 u19 u20 g t n q_3 (nd_sub hn [0, 1] (by decide) rfl) hT h4 (by omega) 1 60 (by omega) (by omega)) (kwV 2 hts w_co_Mo_number rfl rfl w_it_Mo w_ml_Mo_82 w_im_Mo_number w_se_Mo__Mo_number (by decide +kernel) ⟨(Nat.le_of_ble_eq_true rfl), (Nat.le_of_ble_eq_true rfl)⟩) (u_preV hK hV hn [0, 1] rfl hz 0 rfl rfl) rfl rfl hl.1 rfl (lv_room (Nat.le_of_ble_eq_true rfl)) d_Mo_spotRow_18 ⟨(Nat.le_of_ble_eq_true rfl), (Nat.le_of_ble_eq_true rfl)⟩) hV (fun r9 V9 H locs hp hV hle => ?_)
      obtain ⟨rfl, rfl, hz⟩ := hp
      replace hV := u_back hV hn [0, 1] rfl
      have hV : vS G.1 cls lo s H locs (vU V [(m, eO 8 [u0, .int (nI n), .ref mt, u3, u4, u5, u6, u7, u8, u9, .ref ns, .ref nl, u12, .int (nI ((dgs t n 4 0 0 (sk t n q_3)).2.2)), .int (wI (num t n 1 60 q_3)), u15, u16, u17, u18, u19, u20]), (mt, eI (gI G) 400 g), (ns, eI (gI G) 62 sp), (nl, eI (gI G) 62 al)]) := hV
      obtain ⟨x_5, hx_5⟩ : ∃ z, num t n 1 60 q_3 = z := ⟨_, rfl⟩
      rw [hx_5] at hV
      rcases x_5 with e_5 | ⟨v_5, q_5⟩
      · obtain ⟨ax_5, hax_5⟩ : ∃ z, (dgs t n 4 0 0 (sk t n q_3)).2.2 = z := ⟨_, rfl⟩
        rw [hax_5] at hV
        have be_5 := num_er2 hx_5
        have bax_5 := dgs_le2 hax_5
        have hV : vS G.1 cls lo s H locs (vU V [(m, eO 8 [u0, .int (nI n), .ref mt, u3, u4, u5, u6, u7, u8, u9, .ref ns, .ref nl, u12, .int (nI ax_5), .int (nI e_5), u15, u16, u17, u18, u19, u20]), (mt, eI (gI G) 400 g), (ns, eI (gI G) 62 sp), (nl, eI (gI G) 62 al)]) := hV
        refine W.eq (g2 := F0 mi 21 ls [.int 1]) (by rw [hx_5]; rfl) ?_
        refine lv_istore_n (lv' := [(3, .int 1), (2, .int (nI v_1)), (0, .ref m), (1, .int (nI fr))]) hx hb d_Mo_spotRow_21 rfl hl (by decide) rfl (fun ls hl => ?_)
        refine lv_aload_n hx hb d_Mo_spotRow_22 rfl (lv_at hl 2 rfl) ?_
        refine lv_bipush (v := 43) hx hb d_Mo_spotRow_23 (by decide) ?_
        refine v_call (va_runV (As := [.int 43]) (rest := []) ⟨hx, hb, hml, hown, hts⟩ (c_Mo_takeB l G lo _ _ m u0 (.int (nI n)) (.ref mt) u3 u4 u5 u6 u7 u8 u9 (.ref ns) (.ref nl) u12 (.int (nI ax_5)) u15 u16 u17 u18 u19 u20 (by simp) e_5 (by omega) 43) (kwV 1 hts w_co_Mo_take rfl rfl w_it_Mo w_ml_Mo_86 w_im_Mo_take w_se_Mo__Mo_take (by decide +kernel) ⟨(Nat.le_of_ble_eq_true rfl), (Nat.le_of_ble_eq_true rfl)⟩) (u_preV hK hV hn [0] rfl hz 0 rfl rfl) rfl rfl hl.1 rfl (lv_room (Nat.le_of_ble_eq_true rfl)) d_Mo_spotRow_25 ⟨(Nat.le_of_ble_eq_true rfl), (Nat.le_of_ble_eq_true rfl)⟩) hV (fun r9 V9 H locs hp hV hle => ?_)
        obtain ⟨rfl, rfl, hz⟩ := hp
        replace hV := uu_same hV hn [0] rfl
        have hV : vS G.1 cls lo s H locs (vU V [(m, eO 8 [u0, .int (nI n), .ref mt, u3, u4, u5, u6, u7, u8, u9, .ref ns, .ref nl, u12, .int (nI ax_5), .int (nI e_5), u15, u16, u17, u18, u19, u20]), (mt, eI (gI G) 400 g), (ns, eI (gI G) 62 sp), (nl, eI (gI G) 62 al)]) := hV
        refine lv_aload_n hx hb d_Mo_spotRow_28 rfl (lv_at hl 2 rfl) ?_
        refine lv_iconst (v := 0) hx hb d_Mo_spotRow_29 (by decide) ?_
        refine lv_sipush (v := 9999) hx hb d_Mo_spotRow_30 (by decide) ?_
        refine v_call (va_runV (As := [.int 0, .int 9999]) (rest := []) ⟨hx, hb, hml, hown, hts⟩ (c_Mo_numberB l G lo _ _ m u0 (.int (nI n)) (.ref mt) u3 u4 u5 u6 u7 u8 u9 (.ref ns) (.ref nl) u12 (.int (nI ax_5)) u15 u16 u17 u18 u19 u20 (by simp) e_5 (by omega) 0 9999) (kwV 2 hts w_co_Mo_number rfl rfl w_it_Mo w_ml_Mo_82 w_im_Mo_number w_se_Mo__Mo_number (by decide +kernel) ⟨(Nat.le_of_ble_eq_true rfl), (Nat.le_of_ble_eq_true rfl)⟩) (u_preV hK hV hn [0] rfl hz 0 rfl rfl) rfl rfl hl.1 rfl (lv_room (Nat.le_of_ble_eq_true rfl)) d_Mo_spotRow_33 ⟨(Nat.le_of_ble_eq_true rfl), (Nat.le_of_ble_eq_true rfl)⟩) hV (fun r9 V9 H locs hp hV hle => ?_)
        obtain ⟨rfl, rfl, hz⟩ := hp
        replace hV := uu_same hV hn [0] rfl
        have hV : vS G.1 cls lo s H locs (vU V [(m, eO 8 [u0, .int (nI n), .ref mt, u3, u4, u5, u6, u7, u8, u9, .ref ns, .ref nl, u12, .int (nI ax_5), .int (nI e_5), u15, u16, u17, u18, u19, u20]), (mt, eI (gI G) 400 g), (ns, eI (gI G) 62 sp), (nl, eI (gI G) 62 al)]) := hV
        refine W.eq (g2 := F0 mi 36 ls [.int 0]) rfl ?_
        refine lv_istore (lv' := [(4, .int 0), (3, .int 1), (2, .int (nI v_1)), (0, .ref m), (1, .int (nI fr))]) hx hb d_Mo_spotRow_36 hl (by decide) rfl (fun ls hl => ?_)
        refine lv_aload_n hx hb d_Mo_spotRow_38 rfl (lv_at hl 3 rfl) ?_
        refine lv_bipush (v := 59) hx hb d_Mo_spotRow_39 (by decide) ?_
        refine v_call (va_runV (As := [.int 59]) (rest := []) ⟨hx, hb, hml, hown, hts⟩ (c_Mo_takeB l G lo _ _ m u0 (.int (nI n)) (.ref mt) u3 u4 u5 u6 u7 u8 u9 (.ref ns) (.ref nl) u12 (.int (nI ax_5)) u15 u16 u17 u18 u19 u20 (by simp) e_5 (by omega) 59) (kwV 1 hts w_co_Mo_take rfl rfl w_it_Mo w_ml_Mo_86 w_im_Mo_take w_se_Mo__Mo_take (by decide +kernel) ⟨(Nat.le_of_ble_eq_true rfl), (Nat.le_of_ble_eq_true rfl)⟩) (u_preV hK hV hn [0] rfl hz 0 rfl rfl) rfl rfl hl.1 rfl (lv_room (Nat.le_of_ble_eq_true rfl)) d_Mo_spotRow_41 ⟨(Nat.le_of_ble_eq_true rfl), (Nat.le_of_ble_eq_true rfl)⟩) hV (fun r9 V9 H locs hp hV hle => ?_)
        obtain ⟨rfl, rfl, hz⟩ := hp
        replace hV := uu_same hV hn [0] rfl
        have hV : vS G.1 cls lo s H locs (vU V [(m, eO 8 [u0, .int (nI n), .ref mt, u3, u4, u5, u6, u7, u8, u9, .ref ns, .ref nl, u12, .int (nI ax_5), .int (nI e_5), u15, u16, u17, u18, u19, u20]), (mt, eI (gI G) 400 g), (ns, eI (gI G) 62 sp), (nl, eI (gI G) 62 al)]) := hV
        refine lv_aload_n hx hb d_Mo_spotRow_44 rfl (lv_at hl 3 rfl) ?_
        refine u_get hx hb hts inMo hown hK hV hn 0 rfl rfl 14 (by decide) w_fl_Mo_68 rfl rfl d_Mo_spotRow_45 ?_
        refine lv_if_lt (tgt := 52) hx hb d_Mo_spotRow_48 (by decide) (fun c_6 => absurd c_6 (nI_nlt0 (by omega))) (fun c_6 => ?_)
        replace c_6 : ¬ e_5 < 0 := fun z9 => c_6 ((nI_ltI (a := e_5) (b := 0) (by omega) (by omega)).mpr z9)
        have hX : semi t n (spotR t n q) = .inl e_5 := by simp only [semi, spotR, hx_1, hx_3, hx_5, sbd_l, sbd_r]
        exact W.vret hx hb hr (v_end hV ⟨rfl, ⟨_, _, _, by rw [hX]; rfl, fun z hz9 => by rw [hX] at hz9; cases hz9⟩, hz⟩) hV.2.1.2.2 d_Mo_spotRow_51
      · rw [num_at hx_5] at hV
        obtain ⟨lv_5, uv_5, gq_5, bq_5⟩ := num_ok2 hx_5
        have hV : vS G.1 cls lo s H locs (vU V [(m, eO 8 [u0, .int (nI n), .ref mt, u3, u4, u5, u6, u7, u8, u9, .ref ns, .ref nl, u12, .int (nI q_5), .int ((-1)), u15, u16, u17, u18, u19, u20]), (mt, eI (gI G) 400 g), (ns, eI (gI G) 62 sp), (nl, eI (gI G) 62 al)]) := hV
        refine W.eq (g2 := F0 mi 21 ls [.int (nI v_5)]) (by rw [hx_5]; rfl) ?_
        refine lv_istore_n (lv' := [(3, .int (nI v_5)), (2, .int (nI v_1)), (0, .ref m), (1, .int (nI fr))]) hx hb d_Mo_spotRow_21 rfl hl (by decide) rfl (fun ls hl => ?_)
        refine lv_aload_n hx hb d_Mo_spotRow_22 rfl (lv_at hl 2 rfl) ?_
        refine lv_bipush (v := 43) hx hb d_Mo_spotRow_23 (by decide) ?_
        refine v_call (va_runV (As := [.int 43]) (rest := []) ⟨hx, hb, hml, hown, hts⟩ (c_Mo_take l G lo _ _ m mt u0 u3 u4 u5 u6 u7 u8 u9 (.ref ns) (.ref nl) u12 u15 u16 u17 u18 u19 u20 g t n q_5 (nd_sub hn [0, 1] (by decide) rfl) hT h4 (by omega) 43 (by decide)) (kwV 1 hts w_co_Mo_take rfl rfl w_it_Mo w_ml_Mo_86 w_im_Mo_take w_se_Mo__Mo_take (by decide +kernel) ⟨(Nat.le_of_ble_eq_true rfl), (Nat.le_of_ble_eq_true rfl)⟩) (u_preV hK hV hn [0, 1] rfl hz 0 rfl rfl) rfl rfl hl.1 rfl (lv_room (Nat.le_of_ble_eq_true rfl)) d_Mo_spotRow_25 ⟨(Nat.le_of_ble_eq_true rfl), (Nat.le_of_ble_eq_true rfl)⟩) hV (fun r9 V9 H locs hp hV hle => ?_)
        obtain ⟨rfl, rfl, hz⟩ := hp
        replace hV := u_back hV hn [0, 1] rfl
        have hV : vS G.1 cls lo s H locs (vU V [(m, eO 8 [u0, .int (nI n), .ref mt, u3, u4, u5, u6, u7, u8, u9, .ref ns, .ref nl, u12, .int (nI (rQ (tk t n 43 q_5))), .int (wI (tk t n 43 q_5)), u15, u16, u17, u18, u19, u20]), (mt, eI (gI G) 400 g), (ns, eI (gI G) 62 sp), (nl, eI (gI G) 62 al)]) := hV
        obtain ⟨x_7, hx_7⟩ : ∃ z, tk t n 43 q_5 = z := ⟨_, rfl⟩
        rw [hx_7] at hV
        rcases x_7 with e_7 | q_7
        · have be_7 := tk_er2 hx_7
          have hV : vS G.1 cls lo s H locs (vU V [(m, eO 8 [u0, .int (nI n), .ref mt, u3, u4, u5, u6, u7, u8, u9, .ref ns, .ref nl, u12, .int (nI e_7), .int (nI e_7), u15, u16, u17, u18, u19, u20]), (mt, eI (gI G) 400 g), (ns, eI (gI G) 62 sp), (nl, eI (gI G) 62 al)]) := hV
          refine W.eq (g2 := F0 mi 28 ls []) rfl ?_
          refine lv_aload_n hx hb d_Mo_spotRow_28 rfl (lv_at hl 2 rfl) ?_
          refine lv_iconst (v := 0) hx hb d_Mo_spotRow_29 (by decide) ?_
          refine lv_sipush (v := 9999) hx hb d_Mo_spotRow_30 (by decide) ?_
          refine v_call (va_runV (As := [.int 0, .int 9999]) (rest := []) ⟨hx, hb, hml, hown, hts⟩ (c_Mo_numberB l G lo _ _ m u0 (.int (nI n)) (.ref mt) u3 u4 u5 u6 u7 u8 u9 (.ref ns) (.ref nl) u12 (.int (nI e_7)) u15 u16 u17 u18 u19 u20 (by simp) e_7 (by omega) 0 9999) (kwV 2 hts w_co_Mo_number rfl rfl w_it_Mo w_ml_Mo_82 w_im_Mo_number w_se_Mo__Mo_number (by decide +kernel) ⟨(Nat.le_of_ble_eq_true rfl), (Nat.le_of_ble_eq_true rfl)⟩) (u_preV hK hV hn [0] rfl hz 0 rfl rfl) rfl rfl hl.1 rfl (lv_room (Nat.le_of_ble_eq_true rfl)) d_Mo_spotRow_33 ⟨(Nat.le_of_ble_eq_true rfl), (Nat.le_of_ble_eq_true rfl)⟩) hV (fun r9 V9 H locs hp hV hle => ?_)
          obtain ⟨rfl, rfl, hz⟩ := hp
          replace hV := uu_same hV hn [0] rfl
          have hV : vS G.1 cls lo s H locs (vU V [(m, eO 8 [u0, .int (nI n), .ref mt, u3, u4, u5, u6, u7, u8, u9, .ref ns, .ref nl, u12, .int (nI e_7), .int (nI e_7), u15, u16, u17, u18, u19, u20]), (mt, eI (gI G) 400 g), (ns, eI (gI G) 62 sp), (nl, eI (gI G) 62 al)]) := hV
          refine W.eq (g2 := F0 mi 36 ls [.int 0]) rfl ?_
          refine lv_istore (lv' := [(4, .int 0), (3, .int (nI v_5)), (2, .int (nI v_1)), (0, .ref m), (1, .int (nI fr))]) hx hb d_Mo_spotRow_36 hl (by decide) rfl (fun ls hl => ?_)
          refine lv_aload_n hx hb d_Mo_spotRow_38 rfl (lv_at hl 3 rfl) ?_
          refine lv_bipush (v := 59) hx hb d_Mo_spotRow_39 (by decide) ?_
          refine v_call (va_runV (As := [.int 59]) (rest := []) ⟨hx, hb, hml, hown, hts⟩ (c_Mo_takeB l G lo _ _ m u0 (.int (nI n)) (.ref mt) u3 u4 u5 u6 u7 u8 u9 (.ref ns) (.ref nl) u12 (.int (nI e_7)) u15 u16 u17 u18 u19 u20 (by simp) e_7 (by omega) 59) (kwV 1 hts w_co_Mo_take rfl rfl w_it_Mo w_ml_Mo_86 w_im_Mo_take w_se_Mo__Mo_take (by decide +kernel) ⟨(Nat.le_of_ble_eq_true rfl), (Nat.le_of_ble_eq_true rfl)⟩) (u_preV hK hV hn [0] rfl hz 0 rfl rfl) rfl rfl hl.1 rfl (lv_room (Nat.le_of_ble_eq_true rfl)) d_Mo_spotRow_41 ⟨(Nat.le_of_ble_eq_true rfl), (Nat.le_of_ble_eq_true rfl)⟩) hV (fun r9 V9 H locs hp hV hle => ?_)
          obtain ⟨rfl, rfl, hz⟩ := hp
          replace hV := uu_same hV hn [0] rfl
          have hV : vS G.1 cls lo s H locs (vU V [(m, eO 8 [u0, .int (nI n), .ref mt, u3, u4, u5, u6, u7, u8, u9, .ref ns, .ref nl, u12, .int (nI e_7), .int (nI e_7), u15, u16, u17, u18, u19, u20]), (mt, eI (gI G) 400 g), (ns, eI (gI G) 62 sp), (nl, eI (gI G) 62 al)]) := hV
          refine lv_aload_n hx hb d_Mo_spotRow_44 rfl (lv_at hl 3 rfl) ?_
          refine u_get hx hb hts inMo hown hK hV hn 0 rfl rfl 14 (by decide) w_fl_Mo_68 rfl rfl d_Mo_spotRow_45 ?_
          refine lv_if_lt (tgt := 52) hx hb d_Mo_spotRow_48 (by decide) (fun c_8 => absurd c_8 (nI_nlt0 (by omega))) (fun c_8 => ?_)
          replace c_8 : ¬ e_7 < 0 := fun z9 => c_8 ((nI_ltI (a := e_7) (b := 0) (by omega) (by omega)).mpr z9)
          have hX : semi t n (spotR t n q) = .inl e_7 := by simp only [semi, spotR, hx_1, hx_3, hx_5, hx_7, sbd_l, sbd_r]
          exact W.vret hx hb hr (v_end hV ⟨rfl, ⟨_, _, _, by rw [hX]; rfl, fun z hz9 => by rw [hX] at hz9; cases hz9⟩, hz⟩) hV.2.1.2.2 d_Mo_spotRow_51
        · obtain ⟨gq_7, bq_7⟩ := tk_ok hx_7
          have hV : vS G.1 cls lo s H locs (vU V [(m, eO 8 [u0, .int (nI n), .ref mt, u3, u4, u5, u6, u7, u8, u9, .ref ns, .ref nl, u12, .int (nI q_7), .int ((-1)), u15, u16, u17, u18, u19, u20]), (mt, eI (gI G) 400 g), (ns, eI (gI G) 62 sp), (nl, eI (gI G) 62 al)]) := hV
          refine W.eq (g2 := F0 mi 28 ls []) rfl ?_
          refine lv_aload_n hx hb d_Mo_spotRow_28 rfl (lv_at hl 2 rfl) ?_
          refine lv_iconst (v := 0) hx hb d_Mo_spotRow_29 (by decide) ?_
          refine lv_sipush (v := 9999) hx hb d_Mo_spotRow_30 (by decide) ?_
          refine v_call (va_runV (As := [.int 0, .int 9999]) (rest := []) ⟨hx, hb, hml, hown, hts⟩ (c_Mo_number l G lo _ _ m mt u0 u3 u4 u5 u6 u7 u8 u9 (.ref ns) (.ref nl) u12 u15 u16 u17 u18 u19 u20 g t n q_7 (nd_sub hn [0, 1] (by decide) rfl) hT h4 (by omega) 0 9999 (by omega) (by omega)) (kwV 2 hts w_co_Mo_number rfl rfl w_it_Mo w_ml_Mo_82 w_im_Mo_number w_se_Mo__Mo_number (by decide +kernel) ⟨(Nat.le_of_ble_eq_true rfl), (Nat.le_of_ble_eq_true rfl)⟩) (u_preV hK hV hn [0, 1] rfl hz 0 rfl rfl) rfl rfl hl.1 rfl (lv_room (Nat.le_of_ble_eq_true rfl)) d_Mo_spotRow_33 ⟨(Nat.le_of_ble_eq_true rfl), (Nat.le_of_ble_eq_true rfl)⟩) hV (fun r9 V9 H locs hp hV hle => ?_)
          obtain ⟨rfl, rfl, hz⟩ := hp
          replace hV := u_back hV hn [0, 1] rfl
          have hV : vS G.1 cls lo s H locs (vU V [(m, eO 8 [u0, .int (nI n), .ref mt, u3, u4, u5, u6, u7, u8, u9, .ref ns, .ref nl, u12, .int (nI ((dgs t n 4 0 0 (sk t n q_7)).2.2)), .int (wI (num t n 0 9999 q_7)), u15, u16, u17, u18, u19, u20]), (mt, eI (gI G) 400 g), (ns, eI (gI G) 62 sp), (nl, eI (gI G) 62 al)]) := hV
          obtain ⟨x_9, hx_9⟩ : ∃ z, num t n 0 9999 q_7 = z := ⟨_, rfl⟩
          rw [hx_9] at hV
          rcases x_9 with e_9 | ⟨v_9, q_9⟩
          · obtain ⟨ax_9, hax_9⟩ : ∃ z, (dgs t n 4 0 0 (sk t n q_7)).2.2 = z := ⟨_, rfl⟩
            rw [hax_9] at hV
            have be_9 := num_er2 hx_9
            have bax_9 := dgs_le2 hax_9
            have hV : vS G.1 cls lo s H locs (vU V [(m, eO 8 [u0, .int (nI n), .ref mt, u3, u4, u5, u6, u7, u8, u9, .ref ns, .ref nl, u12, .int (nI ax_9), .int (nI e_9), u15, u16, u17, u18, u19, u20]), (mt, eI (gI G) 400 g), (ns, eI (gI G) 62 sp), (nl, eI (gI G) 62 al)]) := hV
            refine W.eq (g2 := F0 mi 36 ls [.int 0]) (by rw [hx_9]; rfl) ?_
            refine lv_istore (lv' := [(4, .int 0), (3, .int (nI v_5)), (2, .int (nI v_1)), (0, .ref m), (1, .int (nI fr))]) hx hb d_Mo_spotRow_36 hl (by decide) rfl (fun ls hl => ?_)
            refine lv_aload_n hx hb d_Mo_spotRow_38 rfl (lv_at hl 3 rfl) ?_
            refine lv_bipush (v := 59) hx hb d_Mo_spotRow_39 (by decide) ?_
            refine v_call (va_runV (As := [.int 59]) (rest := []) ⟨hx, hb, hml, hown, hts⟩ (c_Mo_takeB l G lo _ _ m u0 (.int (nI n)) (.ref mt) u3 u4 u5 u6 u7 u8 u9 (.ref ns) (.ref nl) u12 (.int (nI ax_9)) u15 u16 u17 u18 u19 u20 (by simp) e_9 (by omega) 59) (kwV 1 hts w_co_Mo_take rfl rfl w_it_Mo w_ml_Mo_86 w_im_Mo_take w_se_Mo__Mo_take (by decide +kernel) ⟨(Nat.le_of_ble_eq_true rfl), (Nat.le_of_ble_eq_true rfl)⟩) (u_preV hK hV hn [0] rfl hz 0 rfl rfl) rfl rfl hl.1 rfl (lv_room (Nat.le_of_ble_eq_true rfl)) d_Mo_spotRow_41 ⟨(Nat.le_of_ble_eq_true rfl), (Nat.le_of_ble_eq_true rfl)⟩) hV (fun r9 V9 H locs hp hV hle => ?_)
            obtain ⟨rfl, rfl, hz⟩ := hp
            replace hV := uu_same hV hn [0] rfl
            have hV : vS G.1 cls lo s H locs (vU V [(m, eO 8 [u0, .int (nI n), .ref mt, u3, u4, u5, u6, u7, u8, u9, .ref ns, .ref nl, u12, .int (nI ax_9), .int (nI e_9), u15, u16, u17, u18, u19, u20]), (mt, eI (gI G) 400 g), (ns, eI (gI G) 62 sp), (nl, eI (gI G) 62 al)]) := hV
            refine lv_aload_n hx hb d_Mo_spotRow_44 rfl (lv_at hl 3 rfl) ?_
            refine u_get hx hb hts inMo hown hK hV hn 0 rfl rfl 14 (by decide) w_fl_Mo_68 rfl rfl d_Mo_spotRow_45 ?_
            refine lv_if_lt (tgt := 52) hx hb d_Mo_spotRow_48 (by decide) (fun c_10 => absurd c_10 (nI_nlt0 (by omega))) (fun c_10 => ?_)
            replace c_10 : ¬ e_9 < 0 := fun z9 => c_10 ((nI_ltI (a := e_9) (b := 0) (by omega) (by omega)).mpr z9)
            have hX : semi t n (spotR t n q) = .inl e_9 := by simp only [semi, spotR, hx_1, hx_3, hx_5, hx_7, hx_9, sbd_l, sbd_r]
            exact W.vret hx hb hr (v_end hV ⟨rfl, ⟨_, _, _, by rw [hX]; rfl, fun z hz9 => by rw [hX] at hz9; cases hz9⟩, hz⟩) hV.2.1.2.2 d_Mo_spotRow_51
          · rw [num_at hx_9] at hV
            obtain ⟨lv_9, uv_9, gq_9, bq_9⟩ := num_ok2 hx_9
            have hV : vS G.1 cls lo s H locs (vU V [(m, eO 8 [u0, .int (nI n), .ref mt, u3, u4, u5, u6, u7, u8, u9, .ref ns, .ref nl, u12, .int (nI q_9), .int ((-1)), u15, u16, u17, u18, u19, u20]), (mt, eI (gI G) 400 g), (ns, eI (gI G) 62 sp), (nl, eI (gI G) 62 al)]) := hV
            refine W.eq (g2 := F0 mi 36 ls [.int (nI v_9)]) (by rw [hx_9]; rfl) ?_
            refine lv_istore (lv' := [(4, .int (nI v_9)), (3, .int (nI v_5)), (2, .int (nI v_1)), (0, .ref m), (1, .int (nI fr))]) hx hb d_Mo_spotRow_36 hl (by decide) rfl (fun ls hl => ?_)
            refine lv_aload_n hx hb d_Mo_spotRow_38 rfl (lv_at hl 3 rfl) ?_
            refine lv_bipush (v := 59) hx hb d_Mo_spotRow_39 (by decide) ?_
            refine v_call (va_runV (As := [.int 59]) (rest := []) ⟨hx, hb, hml, hown, hts⟩ (c_Mo_take l G lo _ _ m mt u0 u3 u4 u5 u6 u7 u8 u9 (.ref ns) (.ref nl) u12 u15 u16 u17 u18 u19 u20 g t n q_9 (nd_sub hn [0, 1] (by decide) rfl) hT h4 (by omega) 59 (by decide)) (kwV 1 hts w_co_Mo_take rfl rfl w_it_Mo w_ml_Mo_86 w_im_Mo_take w_se_Mo__Mo_take (by decide +kernel) ⟨(Nat.le_of_ble_eq_true rfl), (Nat.le_of_ble_eq_true rfl)⟩) (u_preV hK hV hn [0, 1] rfl hz 0 rfl rfl) rfl rfl hl.1 rfl (lv_room (Nat.le_of_ble_eq_true rfl)) d_Mo_spotRow_41 ⟨(Nat.le_of_ble_eq_true rfl), (Nat.le_of_ble_eq_true rfl)⟩) hV (fun r9 V9 H locs hp hV hle => ?_)
            obtain ⟨rfl, rfl, hz⟩ := hp
            replace hV := u_back hV hn [0, 1] rfl
            have hV : vS G.1 cls lo s H locs (vU V [(m, eO 8 [u0, .int (nI n), .ref mt, u3, u4, u5, u6, u7, u8, u9, .ref ns, .ref nl, u12, .int (nI (rQ (tk t n 59 q_9))), .int (wI (tk t n 59 q_9)), u15, u16, u17, u18, u19, u20]), (mt, eI (gI G) 400 g), (ns, eI (gI G) 62 sp), (nl, eI (gI G) 62 al)]) := hV
            obtain ⟨x_11, hx_11⟩ : ∃ z, tk t n 59 q_9 = z := ⟨_, rfl⟩
            rw [hx_11] at hV
            rcases x_11 with e_11 | q_11
            · have be_11 := tk_er2 hx_11
              have hV : vS G.1 cls lo s H locs (vU V [(m, eO 8 [u0, .int (nI n), .ref mt, u3, u4, u5, u6, u7, u8, u9, .ref ns, .ref nl, u12, .int (nI e_11), .int (nI e_11), u15, u16, u17, u18, u19, u20]), (mt, eI (gI G) 400 g), (ns, eI (gI G) 62 sp), (nl, eI (gI G) 62 al)]) := hV
              refine W.eq (g2 := F0 mi 44 ls []) rfl ?_
              refine lv_aload_n hx hb d_Mo_spotRow_44 rfl (lv_at hl 3 rfl) ?_
              refine u_get hx hb hts inMo hown hK hV hn 0 rfl rfl 14 (by decide) w_fl_Mo_68 rfl rfl d_Mo_spotRow_45 ?_
              refine lv_if_lt (tgt := 52) hx hb d_Mo_spotRow_48 (by decide) (fun c_12 => absurd c_12 (nI_nlt0 (by omega))) (fun c_12 => ?_)
              replace c_12 : ¬ e_11 < 0 := fun z9 => c_12 ((nI_ltI (a := e_11) (b := 0) (by omega) (by omega)).mpr z9)
              have hX : semi t n (spotR t n q) = .inl e_11 := by simp only [semi, spotR, hx_1, hx_3, hx_5, hx_7, hx_9, hx_11, sbd_l, sbd_r]
              exact W.vret hx hb hr (v_end hV ⟨rfl, ⟨_, _, _, by rw [hX]; rfl, fun z hz9 => by rw [hX] at hz9; cases hz9⟩, hz⟩) hV.2.1.2.2 d_Mo_spotRow_51
            · obtain ⟨gq_11, bq_11⟩ := tk_ok hx_11
              have hV : vS G.1 cls lo s H locs (vU V [(m, eO 8 [u0, .int (nI n), .ref mt, u3, u4, u5, u6, u7, u8, u9, .ref ns, .ref nl, u12, .int (nI q_11), .int ((-1)), u15, u16, u17, u18, u19, u20]), (mt, eI (gI G) 400 g), (ns, eI (gI G) 62 sp), (nl, eI (gI G) 62 al)]) := hV
              refine W.eq (g2 := F0 mi 44 ls []) rfl ?_
              refine lv_aload_n hx hb d_Mo_spotRow_44 rfl (lv_at hl 3 rfl) ?_
              refine u_get hx hb hts inMo hown hK hV hn 0 rfl rfl 14 (by decide) w_fl_Mo_68 rfl rfl d_Mo_spotRow_45 ?_
              refine lv_if_lt (tgt := 52) hx hb d_Mo_spotRow_48 (by decide) (fun _ => ?_) (fun c_13 => absurd c_13 (by decide))
              have hX : semi t n (spotR t n q) = .inr ((v_1, v_5, v_9), q_11) := by simp only [semi, spotR, hx_1, hx_3, hx_5, hx_7, hx_9, hx_11, sbd_l, sbd_r]
              refine lv_aload_n hx hb d_Mo_spotRow_52 rfl (lv_at hl 3 rfl) ?_
              refine u_get hx hb hts inMo hown hK hV hn 0 rfl rfl 10 (by decide) w_fl_Mo_32 rfl rfl d_Mo_spotRow_53 ?_
              refine lv_iload_n hx hb d_Mo_spotRow_56 rfl (lv_at hl 4 rfl) ?_
              refine lv_iload_n hx hb d_Mo_spotRow_57 rfl (lv_at hl 2 rfl) ?_
              refine e_iadd (v := nI (fr + v_1)) hx hb d_Mo_spotRow_58 (nI_add fr v_1) ?_
              refine lv_iload_n hx hb d_Mo_spotRow_59 rfl (lv_at hl 1 rfl) ?_
              refine u_iastN hx hb hK hV hn 2 rfl (by omega) (by decide) d_Mo_spotRow_60 (fun H locs hV hz9 => ?_)
              have hV : vS G.1 cls lo s H locs (vU V [(m, eO 8 [u0, .int (nI n), .ref mt, u3, u4, u5, u6, u7, u8, u9, .ref ns, .ref nl, u12, .int (nI q_11), .int ((-1)), u15, u16, u17, u18, u19, u20]), (mt, eI (gI G) 400 g), (ns, eI (gI G) 62 (upd sp (fr + v_1) (nI v_5))), (nl, eI (gI G) 62 al)]) := hV
              replace hz := hz9.trans hz
              refine lv_aload_n hx hb d_Mo_spotRow_61 rfl (lv_at hl 3 rfl) ?_
              refine u_get hx hb hts inMo hown hK hV hn 0 rfl rfl 11 (by decide) w_fl_Mo_35 rfl rfl d_Mo_spotRow_62 ?_
              refine lv_iload_n hx hb d_Mo_spotRow_65 rfl (lv_at hl 4 rfl) ?_
              refine lv_iload_n hx hb d_Mo_spotRow_66 rfl (lv_at hl 2 rfl) ?_
              refine e_iadd (v := nI (fr + v_1)) hx hb d_Mo_spotRow_67 (nI_add fr v_1) ?_
              refine lv_iload hx hb d_Mo_spotRow_68 (lv_at hl 0 rfl) ?_
              refine u_iastN hx hb hK hV hn 3 rfl (by omega) (by decide) d_Mo_spotRow_70 (fun H locs hV hz9 => ?_)
              have hV : vS G.1 cls lo s H locs (vU V [(m, eO 8 [u0, .int (nI n), .ref mt, u3, u4, u5, u6, u7, u8, u9, .ref ns, .ref nl, u12, .int (nI q_11), .int ((-1)), u15, u16, u17, u18, u19, u20]), (mt, eI (gI G) 400 g), (ns, eI (gI G) 62 (upd sp (fr + v_1) (nI v_5))), (nl, eI (gI G) 62 (upd al (fr + v_1) (nI v_9)))]) := hV
              replace hz := hz9.trans hz
              exact W.vret hx hb hr (v_end hV ⟨rfl, ⟨_, _, _, by rw [hX]; rfl, fun z hz9 => by rw [hX] at hz9; cases hz9; exact ⟨rfl, rfl, rfl⟩⟩, hz⟩) hV.2.1.2.2 d_Mo_spotRow_71

theorem mbA_add {b : Nat → Int32} {L : List Tri} (h : mbA b L) {x y z : Nat} (hx : x < 41) (hy : y < 41) (hz : z < 41) : mbA (upd (upd (upd b (3 * L.length) (nI x)) (3 * L.length + 1) (nI y)) (3 * L.length + 2) (nI z)) (L ++ [(x, y, z)]) := by
  intro i hi
  rw [List.length_append, List.length_singleton] at hi
  by_cases he : i = L.length
  · subst he
    rw [getD_app_r]
    refine ⟨?_, ?_, ?_, hx, hy, hz⟩
    · rw [upd_ne _ _ (by omega), upd_ne _ _ (by omega), upd_same]
    · rw [upd_ne _ _ (by omega), upd_same]
    · rw [upd_same]
  · rw [getD_app_l (by omega)]
    rw [upd_ne _ _ (by omega), upd_ne _ _ (by omega), upd_ne _ _ (by omega), upd_ne _ _ (by omega), upd_ne _ _ (by omega), upd_ne _ _ (by omega), upd_ne _ _ (by omega), upd_ne _ _ (by omega), upd_ne _ _ (by omega)]
    exact h i (by omega)

set_option maxHeartbeats 4000000 in
set_option maxRecDepth 100000 in
/-- barRow -/
theorem c_Mo_barRow (l : Launch) (G : Gx) (lo : Nat) (V : Vw) (sz : Nat) (m mt ba : Nat) (u0 u3 u4 u5 u6 u7 u9 u10 u11 u15 u16 u17 u18 u19 u20 : Value) (g b : Nat → Int32) (L : List Tri) (t : Nat → Nat) (n q : Nat) (hn : [m, mt, ba].Nodup) (hT : mtOk g t n) (h4 : n ≤ 400) (hq4 : q ≤ 500) (hB : mbA b L) (hL : L.length < 199) : Met l y_Mo_barRow ws_Mo_barRow ({ frames := 3, cells := 0, slots := 0, locals := 80 } : Room) (vPre G lo [.ref m] (vU V [(m, eO 8 [u0, .int (nI n), .ref mt, u3, u4, u5, u6, u7, .ref ba, u9, u10, u11, .int (nI L.length), .int (nI q), .int ((-1)), u15, u16, u17, u18, u19, u20]), (mt, eI (gI G) 400 g), (ba, eI (gI G) 600 b)]) sz) (vPost G lo (fun r V' k => r = none ∧ (∃ (a9 : Nat) (b2 : Nat → Int32) (L2 : List Tri), V' = vU V [(m, eO 8 [u0, .int (nI n), .ref mt, u3, u4, u5, u6, u7, .ref ba, u9, u10, u11, .int (nI L2.length), .int (nI a9), .int (wI (semi t n (turnR t n q))), u15, u16, u17, u18, u19, u20]), (mt, eI (gI G) 400 g), (ba, eI (gI G) 600 b2)] ∧ mbA b2 L2 ∧ (∀ i, i < 3 * L.length → b2 i = b i) ∧ L.length ≤ L2.length ∧ L2.length ≤ L.length + 1 ∧ ∀ z, semi t n (turnR t n q) = .inr z → a9 = z.2 ∧ L2 = (if z.1 ∈ L then L else L ++ [z.1])) ∧ k = sz)) 0 0 (vL lo) := by
  refine vMet (R := RMo) (by decide) rfl (Nat.le_of_ble_eq_true rfl) ?_
  intro pg ev s mi args below meth cd hx hb hr hml hlk hnm hts hown hK hz hV ls hl
  have hl : lv_has ls 4 [(0, .ref m)] := hl
  have hV0 := hV
  obtain ⟨H, hH⟩ : ∃ H, H = s.heap := ⟨_, rfl⟩
  obtain ⟨locs, hlocs⟩ : ∃ locs : List Loc, locs = [] := ⟨_, rfl⟩
  rw [← hH, ← hlocs]
  rw [← hH] at hz
  replace hV : vS G.1 cls lo s H locs (vU V [(m, eO 8 [u0, .int (nI n), .ref mt, u3, u4, u5, u6, u7, .ref ba, u9, u10, u11, .int (nI L.length), .int (nI q), .int ((-1)), u15, u16, u17, u18, u19, u20]), (mt, eI (gI G) 400 g), (ba, eI (gI G) 600 b)]) := by rw [hH, hlocs]; exact hV
  clear hH hlocs hV0
  refine lv_aload_n hx hb d_Mo_barRow_0 rfl (lv_at hl 0 rfl) ?_
  refine lv_iconst (v := 1) hx hb d_Mo_barRow_1 (by decide) ?_
  refine lv_bipush (v := 40) hx hb d_Mo_barRow_2 (by decide) ?_
  refine v_call (va_runV (As := [.int 1, .int 40]) (rest := []) ⟨hx, hb, hml, hown, hts⟩ (c_Mo_number l G lo _ _ m mt u0 u3 u4 u5 u6 u7 (.ref ba) u9 u10 u11 (.int (nI L.length)) u15 u16 u17 u18 u19 u20 g t n q (nd_sub hn [0, 1] (by decide) rfl) hT h4 (by omega) 1 40 (by omega) (by omega)) (kwV 2 hts w_co_Mo_number rfl rfl w_it_Mo w_ml_Mo_82 w_im_Mo_number w_se_Mo__Mo_number (by decide +kernel) ⟨(Nat.le_of_ble_eq_true rfl), (Nat.le_of_ble_eq_true rfl)⟩) (u_preV hK hV hn [0, 1] rfl hz 0 rfl rfl) rfl rfl hl.1 rfl (lv_room (Nat.le_of_ble_eq_true rfl)) d_Mo_barRow_4 ⟨(Nat.le_of_ble_eq_true rfl), (Nat.le_of_ble_eq_true rfl)⟩) hV (fun r9 V9 H locs hp hV hle => ?_)
  obtain ⟨rfl, rfl, hz⟩ := hp
  replace hV := u_back hV hn [0, 1] rfl
  have hV : vS G.1 cls lo s H locs (vU V [(m, eO 8 [u0, .int (nI n), .ref mt, u3, u4, u5, u6, u7, .ref ba, u9, u10, u11, .int (nI L.length), .int (nI ((dgs t n 4 0 0 (sk t n q)).2.2)), .int (wI (num t n 1 40 q)), u15, u16, u17, u18, u19, u20]), (mt, eI (gI G) 400 g), (ba, eI (gI G) 600 b)]) := hV
  obtain ⟨x_1, hx_1⟩ : ∃ z, num t n 1 40 q = z := ⟨_, rfl⟩
  rw [hx_1] at hV
  rcases x_1 with e_1 | ⟨v_1, q_1⟩
  · obtain ⟨ax_1, hax_1⟩ : ∃ z, (dgs t n 4 0 0 (sk t n q)).2.2 = z := ⟨_, rfl⟩
    rw [hax_1] at hV
    have be_1 := num_er2 hx_1
    have bax_1 := dgs_le2 hax_1
    have hV : vS G.1 cls lo s H locs (vU V [(m, eO 8 [u0, .int (nI n), .ref mt, u3, u4, u5, u6, u7, .ref ba, u9, u10, u11, .int (nI L.length), .int (nI ax_1), .int (nI e_1), u15, u16, u17, u18, u19, u20]), (mt, eI (gI G) 400 g), (ba, eI (gI G) 600 b)]) := hV
    refine W.eq (g2 := F0 mi 7 ls [.int 1]) (by rw [hx_1]; rfl) ?_
    refine lv_istore_n (lv' := [(1, .int 1), (0, .ref m)]) hx hb d_Mo_barRow_7 rfl hl (by decide) rfl (fun ls hl => ?_)
    refine lv_aload_n hx hb d_Mo_barRow_8 rfl (lv_at hl 1 rfl) ?_
    refine lv_bipush (v := 45) hx hb d_Mo_barRow_9 (by decide) ?_
    refine v_call (va_runV (As := [.int 45]) (rest := []) ⟨hx, hb, hml, hown, hts⟩ (c_Mo_takeB l G lo _ _ m u0 (.int (nI n)) (.ref mt) u3 u4 u5 u6 u7 (.ref ba) u9 u10 u11 (.int (nI L.length)) (.int (nI ax_1)) u15 u16 u17 u18 u19 u20 (by simp) e_1 (by omega) 45) (kwV 1 hts w_co_Mo_take rfl rfl w_it_Mo w_ml_Mo_86 w_im_Mo_take w_se_Mo__Mo_take (by decide +kernel) ⟨(Nat.le_of_ble_eq_true rfl), (Nat.le_of_ble_eq_true rfl)⟩) (u_preV hK hV hn [0] rfl hz 0 rfl rfl) rfl rfl hl.1 rfl (lv_room (Nat.le_of_ble_eq_true rfl)) d_Mo_barRow_11 ⟨(Nat.le_of_ble_eq_true rfl), (Nat.le_of_ble_eq_true rfl)⟩) hV (fun r9 V9 H locs hp hV hle => ?_)
    obtain ⟨rfl, rfl, hz⟩ := hp
    replace hV := uu_same hV hn [0] rfl
    have hV : vS G.1 cls lo s H locs (vU V [(m, eO 8 [u0, .int (nI n), .ref mt, u3, u4, u5, u6, u7, .ref ba, u9, u10, u11, .int (nI L.length), .int (nI ax_1), .int (nI e_1), u15, u16, u17, u18, u19, u20]), (mt, eI (gI G) 400 g), (ba, eI (gI G) 600 b)]) := hV
    refine lv_aload_n hx hb d_Mo_barRow_14 rfl (lv_at hl 1 rfl) ?_
    refine lv_iconst (v := 1) hx hb d_Mo_barRow_15 (by decide) ?_
    refine lv_bipush (v := 40) hx hb d_Mo_barRow_16 (by decide) ?_
    refine v_call (va_runV (As := [.int 1, .int 40]) (rest := []) ⟨hx, hb, hml, hown, hts⟩ (c_Mo_numberB l G lo _ _ m u0 (.int (nI n)) (.ref mt) u3 u4 u5 u6 u7 (.ref ba) u9 u10 u11 (.int (nI L.length)) (.int (nI ax_1)) u15 u16 u17 u18 u19 u20 (by simp) e_1 (by omega) 1 40) (kwV 2 hts w_co_Mo_number rfl rfl w_it_Mo w_ml_Mo_82 w_im_Mo_number w_se_Mo__Mo_number (by decide +kernel) ⟨(Nat.le_of_ble_eq_true rfl), (Nat.le_of_ble_eq_true rfl)⟩) (u_preV hK hV hn [0] rfl hz 0 rfl rfl) rfl rfl hl.1 rfl (lv_room (Nat.le_of_ble_eq_true rfl)) d_Mo_barRow_18 ⟨(Nat.le_of_ble_eq_true rfl), (Nat.le_of_ble_eq_true rfl)⟩) hV (fun r9 V9 H locs hp hV hle => ?_)
    obtain ⟨rfl, rfl, hz⟩ := hp
    replace hV := uu_same hV hn [0] rfl
    have hV : vS G.1 cls lo s H locs (vU V [(m, eO 8 [u0, .int (nI n), .ref mt, u3, u4, u5, u6, u7, .ref ba, u9, u10, u11, .int (nI L.length), .int (nI ax_1), .int (nI e_1), u15, u16, u17, u18, u19, u20]), (mt, eI (gI G) 400 g), (ba, eI (gI G) 600 b)]) := hV
    refine W.eq (g2 := F0 mi 21 ls [.int 1]) rfl ?_
    refine lv_istore_n (lv' := [(2, .int 1), (1, .int 1), (0, .ref m)]) hx hb d_Mo_barRow_21 rfl hl (by decide) rfl (fun ls hl => ?_)
    refine lv_aload_n hx hb d_Mo_barRow_22 rfl (lv_at hl 2 rfl) ?_
    refine lv_bipush (v := 45) hx hb d_Mo_barRow_23 (by decide) ?_
    refine v_call (va_runV (As := [.int 45]) (rest := []) ⟨hx, hb, hml, hown, hts⟩ (c_Mo_takeB l G lo _ _ m u0 (.int (nI n)) (.ref mt) u3 u4 u5 u6 u7 (.ref ba) u9 u10 u11 (.int (nI L.length)) (.int (nI ax_1)) u15 u16 u17 u18 u19 u20 (by simp) e_1 (by omega) 45) (kwV 1 hts w_co_Mo_take rfl rfl w_it_Mo w_ml_Mo_86 w_im_Mo_take w_se_Mo__Mo_take (by decide +kernel) ⟨(Nat.le_of_ble_eq_true rfl), (Nat.le_of_ble_eq_true rfl)⟩) (u_preV hK hV hn [0] rfl hz 0 rfl rfl) rfl rfl hl.1 rfl (lv_room (Nat.le_of_ble_eq_true rfl)) d_Mo_barRow_25 ⟨(Nat.le_of_ble_eq_true rfl), (Nat.le_of_ble_eq_true rfl)⟩) hV (fun r9 V9 H locs hp hV hle => ?_)
    obtain ⟨rfl, rfl, hz⟩ := hp
    replace hV := uu_same hV hn [0] rfl
    have hV : vS G.1 cls lo s H locs (vU V [(m, eO 8 [u0, .int (nI n), .ref mt, u3, u4, u5, u6, u7, .ref ba, u9, u10, u11, .int (nI L.length), .int (nI ax_1), .int (nI e_1), u15, u16, u17, u18, u19, u20]), (mt, eI (gI G) 400 g), (ba, eI (gI G) 600 b)]) := hV
    refine lv_aload_n hx hb d_Mo_barRow_28 rfl (lv_at hl 2 rfl) ?_
    refine lv_iconst (v := 1) hx hb d_Mo_barRow_29 (by decide) ?_
    refine lv_bipush (v := 40) hx hb d_Mo_barRow_30 (by decide) ?_
    refine v_call (va_runV (As := [.int 1, .int 40]) (rest := []) ⟨hx, hb, hml, hown, hts⟩ (c_Mo_numberB l G lo _ _ m u0 (.int (nI n)) (.ref mt) u3 u4 u5 u6 u7 (.ref ba) u9 u10 u11 (.int (nI L.length)) (.int (nI ax_1)) u15 u16 u17 u18 u19 u20 (by simp) e_1 (by omega) 1 40) (kwV 2 hts w_co_Mo_number rfl rfl w_it_Mo w_ml_Mo_82 w_im_Mo_number w_se_Mo__Mo_number (by decide +kernel) ⟨(Nat.le_of_ble_eq_true rfl), (Nat.le_of_ble_eq_true rfl)⟩) (u_preV hK hV hn [0] rfl hz 0 rfl rfl) rfl rfl hl.1 rfl (lv_room (Nat.le_of_ble_eq_true rfl)) d_Mo_barRow_32 ⟨(Nat.le_of_ble_eq_true rfl), (Nat.le_of_ble_eq_true rfl)⟩) hV (fun r9 V9 H locs hp hV hle => ?_)
    obtain ⟨rfl, rfl, hz⟩ := hp
    replace hV := uu_same hV hn [0] rfl
    have hV : vS G.1 cls lo s H locs (vU V [(m, eO 8 [u0, .int (nI n), .ref mt, u3, u4, u5, u6, u7, .ref ba, u9, u10, u11, .int (nI L.length), .int (nI ax_1), .int (nI e_1), u15, u16, u17, u18, u19, u20]), (mt, eI (gI G) 400 g), (ba, eI (gI G) 600 b)]) := hV
    refine W.eq (g2 := F0 mi 35 ls [.int 1]) rfl ?_
    refine lv_istore_n (lv' := [(3, .int 1), (2, .int 1), (1, .int 1), (0, .ref m)]) hx hb d_Mo_barRow_35 rfl hl (by decide) rfl (fun ls hl => ?_)
    refine lv_aload_n hx hb d_Mo_barRow_36 rfl (lv_at hl 3 rfl) ?_
    refine lv_bipush (v := 59) hx hb d_Mo_barRow_37 (by decide) ?_
    refine v_call (va_runV (As := [.int 59]) (rest := []) ⟨hx, hb, hml, hown, hts⟩ (c_Mo_takeB l G lo _ _ m u0 (.int (nI n)) (.ref mt) u3 u4 u5 u6 u7 (.ref ba) u9 u10 u11 (.int (nI L.length)) (.int (nI ax_1)) u15 u16 u17 u18 u19 u20 (by simp) e_1 (by omega) 59) (kwV 1 hts w_co_Mo_take rfl rfl w_it_Mo w_ml_Mo_86 w_im_Mo_take w_se_Mo__Mo_take (by decide +kernel) ⟨(Nat.le_of_ble_eq_true rfl), (Nat.le_of_ble_eq_true rfl)⟩) (u_preV hK hV hn [0] rfl hz 0 rfl rfl) rfl rfl hl.1 rfl (lv_room (Nat.le_of_ble_eq_true rfl)) d_Mo_barRow_39 ⟨(Nat.le_of_ble_eq_true rfl), (Nat.le_of_ble_eq_true rfl)⟩) hV (fun r9 V9 H locs hp hV hle => ?_)
    obtain ⟨rfl, rfl, hz⟩ := hp
    replace hV := uu_same hV hn [0] rfl
    have hV : vS G.1 cls lo s H locs (vU V [(m, eO 8 [u0, .int (nI n), .ref mt, u3, u4, u5, u6, u7, .ref ba, u9, u10, u11, .int (nI L.length), .int (nI ax_1), .int (nI e_1), u15, u16, u17, u18, u19, u20]), (mt, eI (gI G) 400 g), (ba, eI (gI G) 600 b)]) := hV
    refine lv_aload_n hx hb d_Mo_barRow_42 rfl (lv_at hl 3 rfl) ?_
    refine u_get hx hb hts inMo hown hK hV hn 0 rfl rfl 14 (by decide) w_fl_Mo_68 rfl rfl d_Mo_barRow_43 ?_
    refine lv_if_ge (tgt := 63) hx hb d_Mo_barRow_46 (by decide) (fun c_2 => ?_) (fun c_2 => absurd (nI_ge0 (by omega)) c_2)
    replace c_2 : 0 ≤ e_1 := (nI_leI (a := 0) (b := e_1) (by omega) (by omega)).mp c_2
    have hX : semi t n (turnR t n q) = .inl e_1 := by simp only [semi, turnR, hx_1, sbd_l, sbd_r]
    exact W.vret hx hb hr (v_end hV ⟨rfl, ⟨_, b, L, by rw [hX]; rfl, hB, fun _ _ => rfl, by omega, by omega, fun z hz9 => by rw [hX] at hz9; cases hz9⟩, hz⟩) hV.2.1.2.2 d_Mo_barRow_63
  · rw [num_at hx_1] at hV
    obtain ⟨lv_1, uv_1, gq_1, bq_1⟩ := num_ok2 hx_1
    have hV : vS G.1 cls lo s H locs (vU V [(m, eO 8 [u0, .int (nI n), .ref mt, u3, u4, u5, u6, u7, .ref ba, u9, u10, u11, .int (nI L.length), .int (nI q_1), .int ((-1)), u15, u16, u17, u18, u19, u20]), (mt, eI (gI G) 400 g), (ba, eI (gI G) 600 b)]) := hV
    refine W.eq (g2 := F0 mi 7 ls [.int (nI v_1)]) (by rw [hx_1]; rfl) ?_
    refine lv_istore_n (lv' := [(1, .int (nI v_1)), (0, .ref m)]) hx hb d_Mo_barRow_7 rfl hl (by decide) rfl (fun ls hl => ?_)
    refine lv_aload_n hx hb d_Mo_barRow_8 rfl (lv_at hl 1 rfl) ?_
    refine lv_bipush (v := 45) hx hb d_Mo_barRow_9 (by decide) ?_
    refine v_call (va_runV (As := [.int 45]) (rest := []) ⟨hx, hb, hml, hown, hts⟩ (c_Mo_take l G lo _ _ m mt u0 u3 u4 u5 u6 u7 (.ref ba) u9 u10 u11 (.int (nI L.length)) u15 u16 u17 u18 u19 u20 g t n q_1 (nd_sub hn [0, 1] (by decide) rfl) hT h4 (by omega) 45 (by decide)) (kwV 1 hts w_co_Mo_take rfl rfl w_it_Mo w_ml_Mo_86 w_im_Mo_take w_se_Mo__Mo_take (by decide +kernel) ⟨(Nat.le_of_ble_eq_true rfl), (Nat.le_of_ble_eq_true rfl)⟩) (u_preV hK hV hn [0, 1] rfl hz 0 rfl rfl) rfl rfl hl.1 rfl (lv_room (Nat.le_of_ble_eq_true rfl)) d_Mo_barRow_11 ⟨(Nat.le_of_ble_eq_true rfl), (Nat.le_of_ble_eq_true rfl)⟩) hV (fun r9 V9 H locs hp hV hle => ?_)
    obtain ⟨rfl, rfl, hz⟩ := hp
    replace hV := u_back hV hn [0, 1] rfl
    have hV : vS G.1 cls lo s H locs (vU V [(m, eO 8 [u0, .int (nI n), .ref mt, u3, u4, u5, u6, u7, .ref ba, u9, u10, u11, .int (nI L.length), .int (nI (rQ (tk t n 45 q_1))), .int (wI (tk t n 45 q_1)), u15, u16, u17, u18, u19, u20]), (mt, eI (gI G) 400 g), (ba, eI (gI G) 600 b)]) := hV
    obtain ⟨x_3, hx_3⟩ : ∃ z, tk t n 45 q_1 = z := ⟨_, rfl⟩
    rw [hx_3] at hV
    rcases x_3 with e_3 | q_3
    · have be_3 := tk_er2 hx_3
      have hV : vS G.1 cls lo s H locs (vU V [(m, eO 8 [u0, .int (nI n), .ref mt, u3, u4, u5, u6, u7, .ref ba, u9, u10, u11, .int (nI L.length), .int (nI e_3), .int (nI e_3), u15, u16, u17, u18, u19, u20]), (mt, eI (gI G) 400 g), (ba, eI (gI G) 600 b)]) := hV
      refine W.eq (g2 := F0 mi 14 ls []) rfl ?_
      refine lv_aload_n hx hb d_Mo_barRow_14 rfl (lv_at hl 1 rfl) ?_
      refine lv_iconst (v := 1) hx hb d_Mo_barRow_15 (by decide) ?_
      refine lv_bipush (v := 40) hx hb d_Mo_barRow_16 (by decide) ?_
      refine v_call (va_runV (As := [.int 1, .int 40]) (rest := []) ⟨hx, hb, hml, hown, hts⟩ (c_Mo_numberB l G lo _ _ m u0 (.int (nI n)) (.ref mt) u3 u4 u5 u6 u7 (.ref ba) u9 u10 u11 (.int (nI L.length)) (.int (nI e_3)) u15 u16 u17 u18 u19 u20 (by simp) e_3 (by omega) 1 40) (kwV 2 hts w_co_Mo_number rfl rfl w_it_Mo w_ml_Mo_82 w_im_Mo_number w_se_Mo__Mo_number (by decide +kernel) ⟨(Nat.le_of_ble_eq_true rfl), (Nat.le_of_ble_eq_true rfl)⟩) (u_preV hK hV hn [0] rfl hz 0 rfl rfl) rfl rfl hl.1 rfl (lv_room (Nat.le_of_ble_eq_true rfl)) d_Mo_barRow_18 ⟨(Nat.le_of_ble_eq_true rfl), (Nat.le_of_ble_eq_true rfl)⟩) hV (fun r9 V9 H locs hp hV hle => ?_)
      obtain ⟨rfl, rfl, hz⟩ := hp
      replace hV := uu_same hV hn [0] rfl
      have hV : vS G.1 cls lo s H locs (vU V [(m, eO 8 [u0, .int (nI n), .ref mt, u3, u4, u5, u6, u7, .ref ba, u9, u10, u11, .int (nI L.length), .int (nI e_3), .int (nI e_3), u15, u16, u17, u18, u19, u20]), (mt, eI (gI G) 400 g), (ba, eI (gI G) 600 b)]) := hV
      refine W.eq (g2 := F0 mi 21 ls [.int 1]) rfl ?_
      refine lv_istore_n (lv' := [(2, .int 1), (1, .int (nI v_1)), (0, .ref m)]) hx hb d_Mo_barRow_21 rfl hl (by decide) rfl (fun ls hl => ?_)
      refine lv_aload_n hx hb d_Mo_barRow_22 rfl (lv_at hl 2 rfl) ?_
      refine lv_bipush (v := 45) hx hb d_Mo_barRow_23 (by decide) ?_
      refine v_call (va_runV (As := [.int 45]) (rest := []) ⟨hx, hb, hml, hown, hts⟩ (c_Mo_takeB l G lo _ _ m u0 (.int (nI n)) (.ref mt) u3 u4 u5 u6 u7 (.ref ba) u9 u10 u11 (.int (nI L.length)) (.int (nI e_3)) u15 u16 u17 u18 u19 u20 (by simp) e_3 (by omega) 45) (kwV 1 hts w_co_Mo_take rfl rfl w_it_Mo w_ml_Mo_86 w_im_Mo_take w_se_Mo__Mo_take (by decide +kernel) ⟨(Nat.le_of_ble_eq_true rfl), (Nat.le_of_ble_eq_true rfl)⟩) (u_preV hK hV hn [0] rfl hz 0 rfl rfl) rfl rfl hl.1 rfl (lv_room (Nat.le_of_ble_eq_true rfl)) d_Mo_barRow_25 ⟨(Nat.le_of_ble_eq_true rfl), (Nat.le_of_ble_eq_true rfl)⟩) hV (fun r9 V9 H locs hp hV hle => ?_)
      obtain ⟨rfl, rfl, hz⟩ := hp
      replace hV := uu_same hV hn [0] rfl
      have hV : vS G.1 cls lo s H locs (vU V [(m, eO 8 [u0, .int (nI n), .ref mt, u3, u4, u5, u6, u7, .ref ba, u9, u10, u11, .int (nI L.length), .int (nI e_3), .int (nI e_3), u15, u16, u17, u18, u19, u20]), (mt, eI (gI G) 400 g), (ba, eI (gI G) 600 b)]) := hV
      refine lv_aload_n hx hb d_Mo_barRow_28 rfl (lv_at hl 2 rfl) ?_
      refine lv_iconst (v := 1) hx hb d_Mo_barRow_29 (by decide) ?_
      refine lv_bipush (v := 40) hx hb d_Mo_barRow_30 (by decide) ?_
      refine v_call (va_runV (As := [.int 1, .int 40]) (rest := []) ⟨hx, hb, hml, hown, hts⟩ (c_Mo_numberB l G lo _ _ m u0 (.int (nI n)) (.ref mt) u3 u4 u5 u6 u7 (.ref ba) u9 u10 u11 (.int (nI L.length)) (.int (nI e_3)) u15 u16 u17 u18 u19 u20 (by simp) e_3 (by omega) 1 40) (kwV 2 hts w_co_Mo_number rfl rfl w_it_Mo w_ml_Mo_82 w_im_Mo_number w_se_Mo__Mo_number (by decide +kernel) ⟨(Nat.le_of_ble_eq_true rfl), (Nat.le_of_ble_eq_true rfl)⟩) (u_preV hK hV hn [0] rfl hz 0 rfl rfl) rfl rfl hl.1 rfl (lv_room (Nat.le_of_ble_eq_true rfl)) d_Mo_barRow_32 ⟨(Nat.le_of_ble_eq_true rfl), (Nat.le_of_ble_eq_true rfl)⟩) hV (fun r9 V9 H locs hp hV hle => ?_)
      obtain ⟨rfl, rfl, hz⟩ := hp
      replace hV := uu_same hV hn [0] rfl
      have hV : vS G.1 cls lo s H locs (vU V [(m, eO 8 [u0, .int (nI n), .ref mt, u3, u4, u5, u6, u7, .ref ba, u9, u10, u11, .int (nI L.length), .int (nI e_3), .int (nI e_3), u15, u16, u17, u18, u19, u20]), (mt, eI (gI G) 400 g), (ba, eI (gI G) 600 b)]) := hV
      refine W.eq (g2 := F0 mi 35 ls [.int 1]) rfl ?_
      refine lv_istore_n (lv' := [(3, .int 1), (2, .int 1), (1, .int (nI v_1)), (0, .ref m)]) hx hb d_Mo_barRow_35 rfl hl (by decide) rfl (fun ls hl => ?_)
      refine lv_aload_n hx hb d_Mo_barRow_36 rfl (lv_at hl 3 rfl) ?_
      refine lv_bipush (v := 59) hx hb d_Mo_barRow_37 (by decide) ?_
      refine v_call (va_runV (As := [.int 59]) (rest := []) ⟨hx, hb, hml, hown, hts⟩ (c_Mo_takeB l G lo _ _ m u0 (.int (nI n)) (.ref mt) u3 u4 u5 u6 u7 (.ref ba) u9 u10 u11 (.int (nI L.length)) (.int (nI e_3)) u15 u16 u17 u18 u19 u20 (by simp) e_3 (by omega) 59) (kwV 1 hts w_co_Mo_take rfl rfl w_it_Mo w_ml_Mo_86 w_im_Mo_take w_se_Mo__Mo_take (by decide +kernel) ⟨(Nat.le_of_ble_eq_true rfl), (Nat.le_of_ble_eq_true rfl)⟩) (u_preV hK hV hn [0] rfl hz 0 rfl rfl) rfl rfl hl.1 rfl (lv_room (Nat.le_of_ble_eq_true rfl)) d_Mo_barRow_39 ⟨(Nat.le_of_ble_eq_true rfl), (Nat.le_of_ble_eq_true rfl)⟩) hV (fun r9 V9 H locs hp hV hle => ?_)
      obtain ⟨rfl, rfl, hz⟩ := hp
      replace hV := uu_same hV hn [0] rfl
      have hV : vS G.1 cls lo s H locs (vU V [(m, eO 8 [u0, .int (nI n), .ref mt, u3, u4, u5, u6, u7, .ref ba, u9, u10, u11, .int (nI L.length), .int (nI e_3), .int (nI e_3), u15, u16, u17, u18, u19, u20]), (mt, eI (gI G) 400 g), (ba, eI (gI G) 600 b)]) := hV
      refine lv_aload_n hx hb d_Mo_barRow_42 rfl (lv_at hl 3 rfl) ?_
      refine u_get hx hb hts inMo hown hK hV hn 0 rfl rfl 14 (by decide) w_fl_Mo_68 rfl rfl d_Mo_barRow_43 ?_
      refine lv_if_ge (tgt := 63) hx hb d_Mo_barRow_46 (by decide) (fun c_4 => ?_) (fun c_4 => absurd (nI_ge0 (by omega)) c_4)
      replace c_4 : 0 ≤ e_3 := (nI_leI (a := 0) (b := e_3) (by omega) (by omega)).mp c_4
      have hX : semi t n (turnR t n q) = .inl e_3 := by simp only [semi, turnR, hx_1, hx_3, sbd_l, sbd_r]
      exact W.vret hx hb hr (v_end hV ⟨rfl, ⟨_, b, L, by rw [hX]; rfl, hB, fun _ _ => rfl, by omega, by omega, fun z hz9 => by rw [hX] at hz9; cases hz9⟩, hz⟩) hV.2.1.2.2 d_Mo_barRow_63
    · obtain ⟨gq_3, bq_3⟩ := tk_ok hx_3
      have hV : vS G.1 cls lo s H locs (vU V [(m, eO 8 [u0, .int (nI n), .ref mt, u3, u4, u5, u6, u7, .ref ba, u9, u10, u11, .int (nI L.length), .int (nI q_3), .int ((-1)), u15, u16, u17, u18, u19, u20]), (mt, eI (gI G) 400 g), (ba, eI (gI G) 600 b)]) := hV
      refine W.eq (g2 := F0 mi 14 ls []) rfl ?_
      refine lv_aload_n hx hb d_Mo_barRow_14 rfl (lv_at hl 1 rfl) ?_
      refine lv_iconst (v := 1) hx hb d_Mo_barRow_15 (by decide) ?_
      refine lv_bipush (v := 40) hx hb d_Mo_barRow_16 (by decide) ?_
      refine v_call (va_runV (As := [.int 1, .int 40]) (rest := []) ⟨hx, hb, hml, hown, hts⟩ (c_Mo_number l G lo _ _ m mt u0 u3 u4 u5 u6 u7 (.ref ba) u9 u10 u11 (.int (nI L.length)) u15 u16 u17 u18 u19 u20 g t n q_3 (nd_sub hn [0, 1] (by decide) rfl) hT h4 (by omega) 1 40 (by omega) (by omega)) (kwV 2 hts w_co_Mo_number rfl rfl w_it_Mo w_ml_Mo_82 w_im_Mo_number w_se_Mo__Mo_number (by decide +kernel) ⟨(Nat.le_of_ble_eq_true rfl), (Nat.le_of_ble_eq_true rfl)⟩) (u_preV hK hV hn [0, 1] rfl hz 0 rfl rfl) rfl rfl hl.1 rfl (lv_room (Nat.le_of_ble_eq_true rfl)) d_Mo_barRow_18 ⟨(Nat.le_of_ble_eq_true rfl), (Nat.le_of_ble_eq_true rfl)⟩) hV (fun r9 V9 H locs hp hV hle => ?_)
      obtain ⟨rfl, rfl, hz⟩ := hp
      replace hV := u_back hV hn [0, 1] rfl
      have hV : vS G.1 cls lo s H locs (vU V [(m, eO 8 [u0, .int (nI n), .ref mt, u3, u4, u5, u6, u7, .ref ba, u9, u10, u11, .int (nI L.length), .int (nI ((dgs t n 4 0 0 (sk t n q_3)).2.2)), .int (wI (num t n 1 40 q_3)), u15, u16, u17, u18, u19, u20]), (mt, eI (gI G) 400 g), (ba, eI (gI G) 600 b)]) := hV
      obtain ⟨x_5, hx_5⟩ : ∃ z, num t n 1 40 q_3 = z := ⟨_, rfl⟩
      rw [hx_5] at hV
      rcases x_5 with e_5 | ⟨v_5, q_5⟩
      · obtain ⟨ax_5, hax_5⟩ : ∃ z, (dgs t n 4 0 0 (sk t n q_3)).2.2 = z := ⟨_, rfl⟩
        rw [hax_5] at hV
        have be_5 := num_er2 hx_5
        have bax_5 := dgs_le2 hax_5
        have hV : vS G.1 cls lo s H locs (vU V [(m, eO 8 [u0, .int (nI n), .ref mt, u3, u4, u5, u6, u7, .ref ba, u9, u10, u11, .int (nI L.length), .int (nI ax_5), .int (nI e_5), u15, u16, u17, u18, u19, u20]), (mt, eI (gI G) 400 g), (ba, eI (gI G) 600 b)]) := hV
        refine W.eq (g2 := F0 mi 21 ls [.int 1]) (by rw [hx_5]; rfl) ?_
        refine lv_istore_n (lv' := [(2, .int 1), (1, .int (nI v_1)), (0, .ref m)]) hx hb d_Mo_barRow_21 rfl hl (by decide) rfl (fun ls hl => ?_)
        refine lv_aload_n hx hb d_Mo_barRow_22 rfl (lv_at hl 2 rfl) ?_
        refine lv_bipush (v := 45) hx hb d_Mo_barRow_23 (by decide) ?_
        refine v_call (va_runV (As := [.int 45]) (rest := []) ⟨hx, hb, hml, hown, hts⟩ (c_Mo_takeB l G lo _ _ m u0 (.int (nI n)) (.ref mt) u3 u4 u5 u6 u7 (.ref ba) u9 u10 u11 (.int (nI L.length)) (.int (nI ax_5)) u15 u16 u17 u18 u19 u20 (by simp) e_5 (by omega) 45) (kwV 1 hts w_co_Mo_take rfl rfl w_it_Mo w_ml_Mo_86 w_im_Mo_take w_se_Mo__Mo_take (by decide +kernel) ⟨(Nat.le_of_ble_eq_true rfl), (Nat.le_of_ble_eq_true rfl)⟩) (u_preV hK hV hn [0] rfl hz 0 rfl rfl) rfl rfl hl.1 rfl (lv_room (Nat.le_of_ble_eq_true rfl)) d_Mo_barRow_25 ⟨(Nat.le_of_ble_eq_true rfl), (Nat.le_of_ble_eq_true rfl)⟩) hV (fun r9 V9 H locs hp hV hle => ?_)
        obtain ⟨rfl, rfl, hz⟩ := hp
        replace hV := uu_same hV hn [0] rfl
        have hV : vS G.1 cls lo s H locs (vU V [(m, eO 8 [u0, .int (nI n), .ref mt, u3, u4, u5, u6, u7, .ref ba, u9, u10, u11, .int (nI L.length), .int (nI ax_5), .int (nI e_5), u15, u16, u17, u18, u19, u20]), (mt, eI (gI G) 400 g), (ba, eI (gI G) 600 b)]) := hV
        refine lv_aload_n hx hb d_Mo_barRow_28 rfl (lv_at hl 2 rfl) ?_
        refine lv_iconst (v := 1) hx hb d_Mo_barRow_29 (by decide) ?_
        refine lv_bipush (v := 40) hx hb d_Mo_barRow_30 (by decide) ?_
        refine v_call (va_runV (As := [.int 1, .int 40]) (rest := []) ⟨hx, hb, hml, hown, hts⟩ (c_Mo_numberB l G lo _ _ m u0 (.int (nI n)) (.ref mt) u3 u4 u5 u6 u7 (.ref ba) u9 u10 u11 (.int (nI L.length)) (.int (nI ax_5)) u15 u16 u17 u18 u19 u20 (by simp) e_5 (by omega) 1 40) (kwV 2 hts w_co_Mo_number rfl rfl w_it_Mo w_ml_Mo_82 w_im_Mo_number w_se_Mo__Mo_number (by decide +kernel) ⟨(Nat.le_of_ble_eq_true rfl), (Nat.le_of_ble_eq_true rfl)⟩) (u_preV hK hV hn [0] rfl hz 0 rfl rfl) rfl rfl hl.1 rfl (lv_room (Nat.le_of_ble_eq_true rfl)) d_Mo_barRow_32 ⟨(Nat.le_of_ble_eq_true rfl), (Nat.le_of_ble_eq_true rfl)⟩) hV (fun r9 V9 H locs hp hV hle => ?_)
        obtain ⟨rfl, rfl, hz⟩ := hp
        replace hV := uu_same hV hn [0] rfl
        have hV : vS G.1 cls lo s H locs (vU V [(m, eO 8 [u0, .int (nI n), .ref mt, u3, u4, u5, u6, u7, .ref ba, u9, u10, u11, .int (nI L.length), .int (nI ax_5), .int (nI e_5), u15, u16, u17, u18, u19, u20]), (mt, eI (gI G) 400 g), (ba, eI (gI G) 600 b)]) := hV
        refine W.eq (g2 := F0 mi 35 ls [.int 1]) rfl ?_
        refine lv_istore_n (lv' := [(3, .int 1), (2, .int 1), (1, .int (nI v_1)), (0, .ref m)]) hx hb d_Mo_barRow_35 rfl hl (by decide) rfl (fun ls hl => ?_)
        refine lv_aload_n hx hb d_Mo_barRow_36 rfl (lv_at hl 3 rfl) ?_
        refine lv_bipush (v := 59) hx hb d_Mo_barRow_37 (by decide) ?_
        refine v_call (va_runV (As := [.int 59]) (rest := []) ⟨hx, hb, hml, hown, hts⟩ (c_Mo_takeB l G lo _ _ m u0 (.int (nI n)) (.ref mt) u3 u4 u5 u6 u7 (.ref ba) u9 u10 u11 (.int (nI L.length)) (.int (nI ax_5)) u15 u16 u17 u18 u19 u20 (by simp) e_5 (by omega) 59) (kwV 1 hts w_co_Mo_take rfl rfl w_it_Mo w_ml_Mo_86 w_im_Mo_take w_se_Mo__Mo_take (by decide +kernel) ⟨(Nat.le_of_ble_eq_true rfl), (Nat.le_of_ble_eq_true rfl)⟩) (u_preV hK hV hn [0] rfl hz 0 rfl rfl) rfl rfl hl.1 rfl (lv_room (Nat.le_of_ble_eq_true rfl)) d_Mo_barRow_39 ⟨(Nat.le_of_ble_eq_true rfl), (Nat.le_of_ble_eq_true rfl)⟩) hV (fun r9 V9 H locs hp hV hle => ?_)
        obtain ⟨rfl, rfl, hz⟩ := hp
        replace hV := uu_same hV hn [0] rfl
        have hV : vS G.1 cls lo s H locs (vU V [(m, eO 8 [u0, .int (nI n), .ref mt, u3, u4, u5, u6, u7, .ref ba, u9, u10, u11, .int (nI L.length), .int (nI ax_5), .int (nI e_5), u15, u16, u17, u18, u19, u20]), (mt, eI (gI G) 400 g), (ba, eI (gI G) 600 b)]) := hV
        refine lv_aload_n hx hb d_Mo_barRow_42 rfl (lv_at hl 3 rfl) ?_
        refine u_get hx hb hts inMo hown hK hV hn 0 rfl rfl 14 (by decide) w_fl_Mo_68 rfl rfl d_Mo_barRow_43 ?_
        refine lv_if_ge (tgt := 63) hx hb d_Mo_barRow_46 (by decide) (fun c_6 => ?_) (fun c_6 => absurd (nI_ge0 (by omega)) c_6)
        replace c_6 : 0 ≤ e_5 := (nI_leI (a := 0) (b := e_5) (by omega) (by omega)).mp c_6
        have hX : semi t n (turnR t n q) = .inl e_5 := by simp only [semi, turnR, hx_1, hx_3, hx_5, sbd_l, sbd_r]
        exact W.vret hx hb hr (v_end hV ⟨rfl, ⟨_, b, L, by rw [hX]; rfl, hB, fun _ _ => rfl, by omega, by omega, fun z hz9 => by rw [hX] at hz9; cases hz9⟩, hz⟩) hV.2.1.2.2 d_Mo_barRow_63
      · rw [num_at hx_5] at hV
        obtain ⟨lv_5, uv_5, gq_5, bq_5⟩ := num_ok2 hx_5
        have hV : vS G.1 cls lo s H locs (vU V [(m, eO 8 [u0, .int (nI n), .ref mt, u3, u4, u5, u6, u7, .ref ba, u9, u10, u11, .int (nI L.length), .int (nI q_5), .int ((-1)), u15, u16, u17, u18, u19, u20]), (mt, eI (gI G) 400 g), (ba, eI (gI G) 600 b)]) := hV
        refine W.eq (g2 := F0 mi 21 ls [.int (nI v_5)]) (by rw [hx_5]; rfl) ?_
        refine lv_istore_n (lv' := [(2, .int (nI v_5)), (1, .int (nI v_1)), (0, .ref m)]) hx hb d_Mo_barRow_21 rfl hl (by decide) rfl (fun ls hl => ?_)
        refine lv_aload_n hx hb d_Mo_barRow_22 rfl (lv_at hl 2 rfl) ?_
        refine lv_bipush (v := 45) hx hb d_Mo_barRow_23 (by decide) ?_
        refine v_call (va_runV (As := [.int 45]) (rest := []) ⟨hx, hb, hml, hown, hts⟩ (c_Mo_take l G lo _ _ m mt u0 u3 u4 u5 u6 u7 (.ref ba) u9 u10 u11 (.int (nI L.length)) u15 u16 u17 u18 u19 u20 g t n q_5 (nd_sub hn [0, 1] (by decide) rfl) hT h4 (by omega) 45 (by decide)) (kwV 1 hts w_co_Mo_take rfl rfl w_it_Mo w_ml_Mo_86 w_im_Mo_take w_se_Mo__Mo_take (by decide +kernel) ⟨(Nat.le_of_ble_eq_true rfl), (Nat.le_of_ble_eq_true rfl)⟩) (u_preV hK hV hn [0, 1] rfl hz 0 rfl rfl) rfl rfl hl.1 rfl (lv_room (Nat.le_of_ble_eq_true rfl)) d_Mo_barRow_25 ⟨(Nat.le_of_ble_eq_true rfl), (Nat.le_of_ble_eq_true rfl)⟩) hV (fun r9 V9 H locs hp hV hle => ?_)
        obtain ⟨rfl, rfl, hz⟩ := hp
        replace hV := u_back hV hn [0, 1] rfl
        have hV : vS G.1 cls lo s H locs (vU V [(m, eO 8 [u0, .int (nI n), .ref mt, u3, u4, u5, u6, u7, .ref ba, u9, u10, u11, .int (nI L.length), .int (nI (rQ (tk t n 45 q_5))), .int (wI (tk t n 45 q_5)), u15, u16, u17, u18, u19, u20]), (mt, eI (gI G) 400 g), (ba, eI (gI G) 600 b)]) := hV
        obtain ⟨x_7, hx_7⟩ : ∃ z, tk t n 45 q_5 = z := ⟨_, rfl⟩
        rw [hx_7] at hV
        rcases x_7 with e_7 | q_7
        · have be_7 := tk_er2 hx_7
          have hV : vS G.1 cls lo s H locs (vU V [(m, eO 8 [u0, .int (nI n), .ref mt, u3, u4, u5, u6, u7, .ref ba, u9, u10, u11, .int (nI L.length), .int (nI e_7), .int (nI e_7), u15, u16, u17, u18, u19, u20]), (mt, eI (gI G) 400 g), (ba, eI (gI G) 600 b)]) := hV
          refine W.eq (g2 := F0 mi 28 ls []) rfl ?_
          refine lv_aload_n hx hb d_Mo_barRow_28 rfl (lv_at hl 2 rfl) ?_
          refine lv_iconst (v := 1) hx hb d_Mo_barRow_29 (by decide) ?_
          refine lv_bipush (v := 40) hx hb d_Mo_barRow_30 (by decide) ?_
          refine v_call (va_runV (As := [.int 1, .int 40]) (rest := []) ⟨hx, hb, hml, hown, hts⟩ (c_Mo_numberB l G lo _ _ m u0 (.int (nI n)) (.ref mt) u3 u4 u5 u6 u7 (.ref ba) u9 u10 u11 (.int (nI L.length)) (.int (nI e_7)) u15 u16 u17 u18 u19 u20 (by simp) e_7 (by omega) 1 40) (kwV 2 hts w_co_Mo_number rfl rfl w_it_Mo w_ml_Mo_82 w_im_Mo_number w_se_Mo__Mo_number (by decide +kernel) ⟨(Nat.le_of_ble_eq_true rfl), (Nat.le_of_ble_eq_true rfl)⟩) (u_preV hK hV hn [0] rfl hz 0 rfl rfl) rfl rfl hl.1 rfl (lv_room (Nat.le_of_ble_eq_true rfl)) d_Mo_barRow_32 ⟨(Nat.le_of_ble_eq_true rfl), (Nat.le_of_ble_eq_true rfl)⟩) hV (fun r9 V9 H locs hp hV hle => ?_)
          obtain ⟨rfl, rfl, hz⟩ := hp
          replace hV := uu_same hV hn [0] rfl
          have hV : vS G.1 cls lo s H locs (vU V [(m, eO 8 [u0, .int (nI n), .ref mt, u3, u4, u5, u6, u7, .ref ba, u9, u10, u11, .int (nI L.length), .int (nI e_7), .int (nI e_7), u15, u16, u17, u18, u19, u20]), (mt, eI (gI G) 400 g), (ba, eI (gI G) 600 b)]) := hV
          refine W.eq (g2 := F0 mi 35 ls [.int 1]) rfl ?_
          refine lv_istore_n (lv' := [(3, .int 1), (2, .int (nI v_5)), (1, .int (nI v_1)), (0, .ref m)]) hx hb d_Mo_barRow_35 rfl hl (by decide) rfl (fun ls hl => ?_)
          refine lv_aload_n hx hb d_Mo_barRow_36 rfl (lv_at hl 3 rfl) ?_
          refine lv_bipush (v := 59) hx hb d_Mo_barRow_37 (by decide) ?_
          refine v_call (va_runV (As := [.int 59]) (rest := []) ⟨hx, hb, hml, hown, hts⟩ (c_Mo_takeB l G lo _ _ m u0 (.int (nI n)) (.ref mt) u3 u4 u5 u6 u7 (.ref ba) u9 u10 u11 (.int (nI L.length)) (.int (nI e_7)) u15 u16 u17 u18 u19 u20 (by simp) e_7 (by omega) 59) (kwV 1 hts w_co_Mo_take rfl rfl w_it_Mo w_ml_Mo_86 w_im_Mo_take w_se_Mo__Mo_take (by decide +kernel) ⟨(Nat.le_of_ble_eq_true rfl), (Nat.le_of_ble_eq_true rfl)⟩) (u_preV hK hV hn [0] rfl hz 0 rfl rfl) rfl rfl hl.1 rfl (lv_room (Nat.le_of_ble_eq_true rfl)) d_Mo_barRow_39 ⟨(Nat.le_of_ble_eq_true rfl), (Nat.le_of_ble_eq_true rfl)⟩) hV (fun r9 V9 H locs hp hV hle => ?_)
          obtain ⟨rfl, rfl, hz⟩ := hp
          replace hV := uu_same hV hn [0] rfl
          have hV : vS G.1 cls lo s H locs (vU V [(m, eO 8 [u0, .int (nI n), .ref mt, u3, u4, u5, u6, u7, .ref ba, u9, u10, u11, .int (nI L.length), .int (nI e_7), .int (nI e_7), u15, u16, u17, u18, u19, u20]), (mt, eI (gI G) 400 g), (ba, eI (gI G) 600 b)]) := hV
          refine lv_aload_n hx hb d_Mo_barRow_42 rfl (lv_at hl 3 rfl) ?_
          refine u_get hx hb hts inMo hown hK hV hn 0 rfl rfl 14 (by decide) w_fl_Mo_68 rfl rfl d_Mo_barRow_43 ?_
          refine lv_if_ge (tgt := 63) hx hb d_Mo_barRow_46 (by decide) (fun c_8 => ?_) (fun c_8 => absurd (nI_ge0 (by omega)) c_8)
          replace c_8 : 0 ≤ e_7 := (nI_leI (a := 0) (b := e_7) (by omega) (by omega)).mp c_8
          have hX : semi t n (turnR t n q) = .inl e_7 := by simp only [semi, turnR, hx_1, hx_3, hx_5, hx_7, sbd_l, sbd_r]
          exact W.vret hx hb hr (v_end hV ⟨rfl, ⟨_, b, L, by rw [hX]; rfl, hB, fun _ _ => rfl, by omega, by omega, fun z hz9 => by rw [hX] at hz9; cases hz9⟩, hz⟩) hV.2.1.2.2 d_Mo_barRow_63
        · obtain ⟨gq_7, bq_7⟩ := tk_ok hx_7
          have hV : vS G.1 cls lo s H locs (vU V [(m, eO 8 [u0, .int (nI n), .ref mt, u3, u4, u5, u6, u7, .ref ba, u9, u10, u11, .int (nI L.length), .int (nI q_7), .int ((-1)), u15, u16, u17, u18, u19, u20]), (mt, eI (gI G) 400 g), (ba, eI (gI G) 600 b)]) := hV
          refine W.eq (g2 := F0 mi 28 ls []) rfl ?_
          refine lv_aload_n hx hb d_Mo_barRow_28 rfl (lv_at hl 2 rfl) ?_
          refine lv_iconst (v := 1) hx hb d_Mo_barRow_29 (by decide) ?_
          refine lv_bipush (v := 40) hx hb d_Mo_barRow_30 (by decide) ?_
          refine v_call (va_runV (As := [.int 1, .int 40]) (rest := []) ⟨hx, hb, hml, hown, hts⟩ (c_Mo_number l G lo _ _ m mt u0 u3 u4 u5 u6 u7 (.ref ba) u9 u10 u11 (.int (nI L.length)) u15 u16 u17 u18 u19 u20 g t n q_7 (nd_sub hn [0, 1] (by decide) rfl) hT h4 (by omega) 1 40 (by omega) (by omega)) (kwV 2 hts w_co_Mo_number rfl rfl w_it_Mo w_ml_Mo_82 w_im_Mo_number w_se_Mo__Mo_number (by decide +kernel) ⟨(Nat.le_of_ble_eq_true rfl), (Nat.le_of_ble_eq_true rfl)⟩) (u_preV hK hV hn [0, 1] rfl hz 0 rfl rfl) rfl rfl hl.1 rfl (lv_room (Nat.le_of_ble_eq_true rfl)) d_Mo_barRow_32 ⟨(Nat.le_of_ble_eq_true rfl), (Nat.le_of_ble_eq_true rfl)⟩) hV (fun r9 V9 H locs hp hV hle => ?_)
          obtain ⟨rfl, rfl, hz⟩ := hp
          replace hV := u_back hV hn [0, 1] rfl
          have hV : vS G.1 cls lo s H locs (vU V [(m, eO 8 [u0, .int (nI n), .ref mt, u3, u4, u5, u6, u7, .ref ba, u9, u10, u11, .int (nI L.length), .int (nI ((dgs t n 4 0 0 (sk t n q_7)).2.2)), .int (wI (num t n 1 40 q_7)), u15, u16, u17, u18, u19, u20]), (mt, eI (gI G) 400 g), (ba, eI (gI G) 600 b)]) := hV
          obtain ⟨x_9, hx_9⟩ : ∃ z, num t n 1 40 q_7 = z := ⟨_, rfl⟩
          rw [hx_9] at hV
          rcases x_9 with e_9 | ⟨v_9, q_9⟩
          · obtain ⟨ax_9, hax_9⟩ : ∃ z, (dgs t n 4 0 0 (sk t n q_7)).2.2 = z := ⟨_, rfl⟩
            rw [hax_9] at hV
            have be_9 := num_er2 hx_9
            have bax_9 := dgs_le2 hax_9
            have hV : vS G.1 cls lo s H locs (vU V [(m, eO 8 [u0, .int (nI n), .ref mt, u3, u4, u5, u6, u7, .ref ba, u9, u10, u11, .int (nI L.length), .int (nI ax_9), .int (nI e_9), u15, u16, u17, u18, u19, u20]), (mt, eI (gI G) 400 g), (ba, eI (gI G) 600 b)]) := hV
            refine W.eq (g2 := F0 mi 35 ls [.int 1]) (by rw [hx_9]; rfl) ?_
            refine lv_istore_n (lv' := [(3, .int 1), (2, .int (nI v_5)), (1, .int (nI v_1)), (0, .ref m)]) hx hb d_Mo_barRow_35 rfl hl (by decide) rfl (fun ls hl => ?_)
            refine lv_aload_n hx hb d_Mo_barRow_36 rfl (lv_at hl 3 rfl) ?_
            refine lv_bipush (v := 59) hx hb d_Mo_barRow_37 (by decide) ?_
            refine v_call (va_runV (As := [.int 59]) (rest := []) ⟨hx, hb, hml, hown, hts⟩ (c_Mo_takeB l G lo _ _ m u0 (.int (nI n)) (.ref mt) u3 u4 u5 u6 u7 (.ref ba) u9 u10 u11 (.int (nI L.length)) (.int (nI ax_9)) u15 u16 u17 u18 u19 u20 (by simp) e_9 (by omega) 59) (kwV 1 hts w_co_Mo_take rfl rfl w_it_Mo w_ml_Mo_86 w_im_Mo_take w_se_Mo__Mo_take (by decide +kernel) ⟨(Nat.le_of_ble_eq_true rfl), (Nat.le_of_ble_eq_true rfl)⟩) (u_preV hK hV hn [0] rfl hz 0 rfl rfl) rfl rfl hl.1 rfl (lv_room (Nat.le_of_ble_eq_true rfl)) d_Mo_barRow_39 ⟨(Nat.le_of_ble_eq_true rfl), (Nat.le_of_ble_eq_true rfl)⟩) hV (fun r9 V9 H locs hp hV hle => ?_)
            obtain ⟨rfl, rfl, hz⟩ := hp
            replace hV := uu_same hV hn [0] rfl
            have hV : vS G.1 cls lo s H locs (vU V [(m, eO 8 [u0, .int (nI n), .ref mt, u3, u4, u5, u6, u7, .ref ba, u9, u10, u11, .int (nI L.length), .int (nI ax_9), .int (nI e_9), u15, u16, u17, u18, u19, u20]), (mt, eI (gI G) 400 g), (ba, eI (gI G) 600 b)]) := hV
            refine lv_aload_n hx hb d_Mo_barRow_42 rfl (lv_at hl 3 rfl) ?_
            refine u_get hx hb hts inMo hown hK hV hn 0 rfl rfl 14 (by decide) w_fl_Mo_68 rfl rfl d_Mo_barRow_43 ?_
            refine lv_if_ge (tgt := 63) hx hb d_Mo_barRow_46 (by decide) (fun c_10 => ?_) (fun c_10 => absurd (nI_ge0 (by omega)) c_10)
            replace c_10 : 0 ≤ e_9 := (nI_leI (a := 0) (b := e_9) (by omega) (by omega)).mp c_10
            have hX : semi t n (turnR t n q) = .inl e_9 := by simp only [semi, turnR, hx_1, hx_3, hx_5, hx_7, hx_9, sbd_l, sbd_r]
            exact W.vret hx hb hr (v_end hV ⟨rfl, ⟨_, b, L, by rw [hX]; rfl, hB, fun _ _ => rfl, by omega, by omega, fun z hz9 => by rw [hX] at hz9; cases hz9⟩, hz⟩) hV.2.1.2.2 d_Mo_barRow_63
          · rw [num_at hx_9] at hV
            obtain ⟨lv_9, uv_9, gq_9, bq_9⟩ := num_ok2 hx_9
            have hV : vS G.1 cls lo s H locs (vU V [(m, eO 8 [u0, .int (nI n), .ref mt, u3, u4, u5, u6, u7, .ref ba, u9, u10, u11, .int (nI L.length), .int (nI q_9), .int ((-1)), u15, u16, u17, u18, u19, u20]), (mt, eI (gI G) 400 g), (ba, eI (gI G) 600 b)]) := hV
            refine W.eq (g2 := F0 mi 35 ls [.int (nI v_9)]) (by rw [hx_9]; rfl) ?_
            refine lv_istore_n (lv' := [(3, .int (nI v_9)), (2, .int (nI v_5)), (1, .int (nI v_1)), (0, .ref m)]) hx hb d_Mo_barRow_35 rfl hl (by decide) rfl (fun ls hl => ?_)
            refine lv_aload_n hx hb d_Mo_barRow_36 rfl (lv_at hl 3 rfl) ?_
            refine lv_bipush (v := 59) hx hb d_Mo_barRow_37 (by decide) ?_
            refine v_call (va_runV (As := [.int 59]) (rest := []) ⟨hx, hb, hml, hown, hts⟩ (c_Mo_take l G lo _ _ m mt u0 u3 u4 u5 u6 u7 (.ref ba) u9 u10 u11 (.int (nI L.length)) u15 u16 u17 u18 u19 u20 g t n q_9 (nd_sub hn [0, 1] (by decide) rfl) hT h4 (by omega) 59 (by decide)) (kwV 1 hts w_co_Mo_take rfl rfl w_it_Mo w_ml_Mo_86 w_im_Mo_take w_se_Mo__Mo_take (by decide +kernel) ⟨(Nat.le_of_ble_eq_true rfl), (Nat.le_of_ble_eq_true rfl)⟩) (u_preV hK hV hn [0, 1] rfl hz 0 rfl rfl) rfl rfl hl.1 rfl (lv_room (Nat.le_of_ble_eq_true rfl)) d_Mo_barRow_39 ⟨(Nat.le_of_ble_eq_true rfl), (Nat.le_of_ble_eq_true rfl)⟩) hV (fun r9 V9 H locs hp hV hle => ?_)
            obtain ⟨rfl, rfl, hz⟩ := hp
            replace hV := u_back hV hn [0, 1] rfl
            have hV : vS G.1 cls lo s H locs (vU V [(m, eO 8 [u0, .int (nI n), .ref mt, u3, u4, u5, u6, u7, .ref ba, u9, u10, u11, .int (nI L.length), .int (nI (rQ (tk t n 59 q_9))), .int (wI (tk t n 59 q_9)), u15, u16, u17, u18, u19, u20]), (mt, eI (gI G) 400 g), (ba, eI (gI G) 600 b)]) := hV
            obtain ⟨x_11, hx_11⟩ : ∃ z, tk t n 59 q_9 = z := ⟨_, rfl⟩
            rw [hx_11] at hV
            rcases x_11 with e_11 | q_11
            · have be_11 := tk_er2 hx_11
              have hV : vS G.1 cls lo s H locs (vU V [(m, eO 8 [u0, .int (nI n), .ref mt, u3, u4, u5, u6, u7, .ref ba, u9, u10, u11, .int (nI L.length), .int (nI e_11), .int (nI e_11), u15, u16, u17, u18, u19, u20]), (mt, eI (gI G) 400 g), (ba, eI (gI G) 600 b)]) := hV
              refine W.eq (g2 := F0 mi 42 ls []) rfl ?_
              refine lv_aload_n hx hb d_Mo_barRow_42 rfl (lv_at hl 3 rfl) ?_
              refine u_get hx hb hts inMo hown hK hV hn 0 rfl rfl 14 (by decide) w_fl_Mo_68 rfl rfl d_Mo_barRow_43 ?_
              refine lv_if_ge (tgt := 63) hx hb d_Mo_barRow_46 (by decide) (fun c_12 => ?_) (fun c_12 => absurd (nI_ge0 (by omega)) c_12)
              replace c_12 : 0 ≤ e_11 := (nI_leI (a := 0) (b := e_11) (by omega) (by omega)).mp c_12
              have hX : semi t n (turnR t n q) = .inl e_11 := by simp only [semi, turnR, hx_1, hx_3, hx_5, hx_7, hx_9, hx_11, sbd_l, sbd_r]
              exact W.vret hx hb hr (v_end hV ⟨rfl, ⟨_, b, L, by rw [hX]; rfl, hB, fun _ _ => rfl, by omega, by omega, fun z hz9 => by rw [hX] at hz9; cases hz9⟩, hz⟩) hV.2.1.2.2 d_Mo_barRow_63
            · obtain ⟨gq_11, bq_11⟩ := tk_ok hx_11
              have hV : vS G.1 cls lo s H locs (vU V [(m, eO 8 [u0, .int (nI n), .ref mt, u3, u4, u5, u6, u7, .ref ba, u9, u10, u11, .int (nI L.length), .int (nI q_11), .int ((-1)), u15, u16, u17, u18, u19, u20]), (mt, eI (gI G) 400 g), (ba, eI (gI G) 600 b)]) := hV
              refine W.eq (g2 := F0 mi 42 ls []) rfl ?_
              refine lv_aload_n hx hb d_Mo_barRow_42 rfl (lv_at hl 3 rfl) ?_
              refine u_get hx hb hts inMo hown hK hV hn 0 rfl rfl 14 (by decide) w_fl_Mo_68 rfl rfl d_Mo_barRow_43 ?_
              refine lv_if_ge (tgt := 63) hx hb d_Mo_barRow_46 (by decide) (fun c_13 => absurd c_13 (by decide)) (fun _ => ?_)
              have hX : semi t n (turnR t n q) = .inr ((v_1, v_5, v_9), q_11) := by simp only [semi, turnR, hx_1, hx_3, hx_5, hx_7, hx_9, hx_11, sbd_l, sbd_r]
              refine lv_aload_n hx hb d_Mo_barRow_49 rfl (lv_at hl 3 rfl) ?_
              refine lv_aload_n hx hb d_Mo_barRow_50 rfl (lv_at hl 3 rfl) ?_
              refine u_get hx hb hts inMo hown hK hV hn 0 rfl rfl 12 (by decide) w_fl_Mo_104 rfl rfl d_Mo_barRow_51 ?_
              refine lv_iload_n hx hb d_Mo_barRow_54 rfl (lv_at hl 2 rfl) ?_
              refine lv_iload_n hx hb d_Mo_barRow_55 rfl (lv_at hl 1 rfl) ?_
              refine lv_iload_n hx hb d_Mo_barRow_56 rfl (lv_at hl 0 rfl) ?_
              refine v_call (va_runV (As := [.int (nI L.length), .int (nI v_1), .int (nI v_5), .int (nI v_9)]) (rest := []) ⟨hx, hb, hml, hown, hts⟩ (c_Mo_isBarred l G lo _ _ m ba u0 (.int (nI n)) (.ref mt) u3 u4 u5 u6 u7 u9 u10 u11 (.int (nI L.length)) (.int (nI q_11)) (.int ((-1))) u15 u16 u17 u18 u19 u20 b L (nd_sub hn [0, 2] (by decide) rfl) hB (by omega) v_1 v_5 v_9 (by omega) (by omega) (by omega)) (kwV 4 hts w_co_Mo_isBarred rfl rfl w_it_Mo w_ml_Mo_107 w_im_Mo_isBarred w_se_Mo__Mo_isBarred (by decide +kernel) ⟨(Nat.le_of_ble_eq_true rfl), (Nat.le_of_ble_eq_true rfl)⟩) (u_preV hK hV hn [0, 2] rfl hz 0 rfl rfl) rfl rfl hl.1 rfl (lv_room (Nat.le_of_ble_eq_true rfl)) d_Mo_barRow_57 ⟨(Nat.le_of_ble_eq_true rfl), (Nat.le_of_ble_eq_true rfl)⟩) hV (fun r9 V9 H locs hp hV hle => ?_)
              obtain ⟨rfl, rfl, hz⟩ := hp
              replace hV := uu_same hV hn [0, 2] rfl
              rcases tf (decide ((v_1, v_5, v_9) ∈ L)) with d_14 | d_14
              · have hV : vS G.1 cls lo s H locs (vU V [(m, eO 8 [u0, .int (nI n), .ref mt, u3, u4, u5, u6, u7, .ref ba, u9, u10, u11, .int (nI L.length), .int (nI q_11), .int ((-1)), u15, u16, u17, u18, u19, u20]), (mt, eI (gI G) 400 g), (ba, eI (gI G) 600 b)]) := hV
                refine W.eq (g2 := F0 mi 60 ls [.int 1]) (by rw [d_14]; rfl) ?_
                refine lv_if_eq (tgt := 64) hx hb d_Mo_barRow_60 (by decide) (fun c_15 => absurd c_15 (by decide)) (fun _ => ?_)
                exact W.vret hx hb hr (v_end hV ⟨rfl, ⟨_, b, L, by rw [hX]; rfl, hB, fun _ _ => rfl, by omega, by omega, fun z hz9 => by rw [hX] at hz9; cases hz9; exact ⟨rfl, (if_pos (of_decide_eq_true d_14)).symm⟩⟩, hz⟩) hV.2.1.2.2 d_Mo_barRow_63
              · have hV : vS G.1 cls lo s H locs (vU V [(m, eO 8 [u0, .int (nI n), .ref mt, u3, u4, u5, u6, u7, .ref ba, u9, u10, u11, .int (nI L.length), .int (nI q_11), .int ((-1)), u15, u16, u17, u18, u19, u20]), (mt, eI (gI G) 400 g), (ba, eI (gI G) 600 b)]) := hV
                refine W.eq (g2 := F0 mi 60 ls [.int 0]) (by rw [d_14]; rfl) ?_
                refine lv_if_eq (tgt := 64) hx hb d_Mo_barRow_60 (by decide) (fun _ => ?_) (fun c_16 => absurd c_16 (by decide))
                refine lv_aload_n hx hb d_Mo_barRow_64 rfl (lv_at hl 3 rfl) ?_
                refine u_get hx hb hts inMo hown hK hV hn 0 rfl rfl 8 (by decide) w_fl_Mo_26 rfl rfl d_Mo_barRow_65 ?_
                refine lv_iconst (v := 3) hx hb d_Mo_barRow_68 (by decide) ?_
                refine lv_aload_n hx hb d_Mo_barRow_69 rfl (lv_at hl 3 rfl) ?_
                refine u_get hx hb hts inMo hown hK hV hn 0 rfl rfl 12 (by decide) w_fl_Mo_104 rfl rfl d_Mo_barRow_70 ?_
                refine e_imul (v := nI (3 * L.length)) hx hb d_Mo_barRow_73 (nI_mul 3 L.length) ?_
                refine lv_iload_n hx hb d_Mo_barRow_74 rfl (lv_at hl 2 rfl) ?_
                refine u_iastN hx hb hK hV hn 2 rfl (by omega) (by decide) d_Mo_barRow_75 (fun H locs hV hz9 => ?_)
                have hV : vS G.1 cls lo s H locs (vU V [(m, eO 8 [u0, .int (nI n), .ref mt, u3, u4, u5, u6, u7, .ref ba, u9, u10, u11, .int (nI L.length), .int (nI q_11), .int ((-1)), u15, u16, u17, u18, u19, u20]), (mt, eI (gI G) 400 g), (ba, eI (gI G) 600 (upd b (3 * L.length) (nI v_1)))]) := hV
                replace hz := hz9.trans hz
                refine lv_aload_n hx hb d_Mo_barRow_76 rfl (lv_at hl 3 rfl) ?_
                refine u_get hx hb hts inMo hown hK hV hn 0 rfl rfl 8 (by decide) w_fl_Mo_26 rfl rfl d_Mo_barRow_77 ?_
                refine lv_iconst (v := 3) hx hb d_Mo_barRow_80 (by decide) ?_
                refine lv_aload_n hx hb d_Mo_barRow_81 rfl (lv_at hl 3 rfl) ?_
                refine u_get hx hb hts inMo hown hK hV hn 0 rfl rfl 12 (by decide) w_fl_Mo_104 rfl rfl d_Mo_barRow_82 ?_
                refine e_imul (v := nI (3 * L.length)) hx hb d_Mo_barRow_85 (nI_mul 3 L.length) ?_
                refine lv_iconst (v := 1) hx hb d_Mo_barRow_86 (by decide) ?_
                refine e_iadd (v := nI (3 * L.length + 1)) hx hb d_Mo_barRow_87 (nI_add (3 * L.length) 1) ?_
                refine lv_iload_n hx hb d_Mo_barRow_88 rfl (lv_at hl 1 rfl) ?_
                refine u_iastN hx hb hK hV hn 2 rfl (by omega) (by decide) d_Mo_barRow_89 (fun H locs hV hz9 => ?_)
                have hV : vS G.1 cls lo s H locs (vU V [(m, eO 8 [u0, .int (nI n), .ref mt, u3, u4, u5, u6, u7, .ref ba, u9, u10, u11, .int (nI L.length), .int (nI q_11), .int ((-1)), u15, u16, u17, u18, u19, u20]), (mt, eI (gI G) 400 g), (ba, eI (gI G) 600 (upd (upd b (3 * L.length) (nI v_1)) (3 * L.length + 1) (nI v_5)))]) := hV
                replace hz := hz9.trans hz
                refine lv_aload_n hx hb d_Mo_barRow_90 rfl (lv_at hl 3 rfl) ?_
                refine u_get hx hb hts inMo hown hK hV hn 0 rfl rfl 8 (by decide) w_fl_Mo_26 rfl rfl d_Mo_barRow_91 ?_
                refine lv_iconst (v := 3) hx hb d_Mo_barRow_94 (by decide) ?_
                refine lv_aload_n hx hb d_Mo_barRow_95 rfl (lv_at hl 3 rfl) ?_
                refine u_get hx hb hts inMo hown hK hV hn 0 rfl rfl 12 (by decide) w_fl_Mo_104 rfl rfl d_Mo_barRow_96 ?_
                refine e_imul (v := nI (3 * L.length)) hx hb d_Mo_barRow_99 (nI_mul 3 L.length) ?_
                refine lv_iconst (v := 2) hx hb d_Mo_barRow_100 (by decide) ?_
                refine e_iadd (v := nI (3 * L.length + 2)) hx hb d_Mo_barRow_101 (nI_add (3 * L.length) 2) ?_
                refine lv_iload_n hx hb d_Mo_barRow_102 rfl (lv_at hl 0 rfl) ?_
                refine u_iastN hx hb hK hV hn 2 rfl (by omega) (by decide) d_Mo_barRow_103 (fun H locs hV hz9 => ?_)
                have hV : vS G.1 cls lo s H locs (vU V [(m, eO 8 [u0, .int (nI n), .ref mt, u3, u4, u5, u6, u7, .ref ba, u9, u10, u11, .int (nI L.length), .int (nI q_11), .int ((-1)), u15, u16, u17, u18, u19, u20]), (mt, eI (gI G) 400 g), (ba, eI (gI G) 600 (upd (upd (upd b (3 * L.length) (nI v_1)) (3 * L.length + 1) (nI v_5)) (3 * L.length + 2) (nI v_9)))]) := hV
                replace hz := hz9.trans hz
                refine lv_aload_n hx hb d_Mo_barRow_104 rfl (lv_at hl 3 rfl) ?_
                refine lv_dup hx hb d_Mo_barRow_105 rfl ?_
                refine u_get hx hb hts inMo hown hK hV hn 0 rfl rfl 12 (by decide) w_fl_Mo_104 rfl rfl d_Mo_barRow_106 ?_
                refine lv_iconst (v := 1) hx hb d_Mo_barRow_109 (by decide) ?_
                refine e_iadd (v := nI (L.length + 1)) hx hb d_Mo_barRow_110 (nI_add L.length 1) ?_
                refine u_put hx hb hts inMo tyMo tyMo_ok nmMo hown hK hV hn 0 rfl rfl 12 (by decide) w_fl_Mo_104 rfl rfl rfl rfl (Nat.le_of_ble_eq_true rfl) d_Mo_barRow_111 (fun H locs hV hz9 => ?_)
                have hV : vS G.1 cls lo s H locs (vU V [(m, eO 8 [u0, .int (nI n), .ref mt, u3, u4, u5, u6, u7, .ref ba, u9, u10, u11, .int (nI (L.length + 1)), .int (nI q_11), .int ((-1)), u15, u16, u17, u18, u19, u20]), (mt, eI (gI G) 400 g), (ba, eI (gI G) 600 (upd (upd (upd b (3 * L.length) (nI v_1)) (3 * L.length + 1) (nI v_5)) (3 * L.length + 2) (nI v_9)))]) := hV
                replace hz := hz9.trans hz
                exact W.vret hx hb hr (v_end hV ⟨rfl, ⟨_, _, L ++ [(v_1, v_5, v_9)], by rw [hX, List.length_append]; rfl, mbA_add hB (by omega) (by omega) (by omega), fun i hi => by rw [upd_ne _ _ (by omega), upd_ne _ _ (by omega), upd_ne _ _ (by omega)], by rw [List.length_append]; omega, by rw [List.length_append]; exact Nat.le_refl _, fun z hz9 => by rw [hX] at hz9; cases hz9; exact ⟨rfl, (if_neg (of_decide_eq_false d_14)).symm⟩⟩, hz⟩) hV.2.1.2.2 d_Mo_barRow_114
