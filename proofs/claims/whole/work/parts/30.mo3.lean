theorem d_Mo_scale_0 : decode k_Mo_scale.code 0 = .ok (.aload_n 0, 1) := by decide +kernel
theorem d_Mo_scale_1 : decode k_Mo_scale.code 1 = .ok (.iload_n 1, 1) := by decide +kernel
theorem d_Mo_scale_2 : decode k_Mo_scale.code 2 = .ok (.iconst 0, 1) := by decide +kernel
theorem d_Mo_scale_3 : decode k_Mo_scale.code 3 = .ok (.iconst 1, 1) := by decide +kernel
theorem s_Mo_scale_4 : SiteS k_Mo_scale k_Mo_within 4 3 := ⟨76, by decide +kernel, ⟨kw_Mo_within, tx1 10 rfl rfl, by decide, by decide⟩, Or.inl (tx4 141 rfl rfl), tx4 142 rfl rfl, ⟨by decide +kernel, by decide +kernel⟩, np_Mo_within⟩
theorem d_Mo_scale_7 : decode k_Mo_scale.code 7 = .ok (.iconst 1, 1) := by decide +kernel
theorem d_Mo_scale_8 : decode k_Mo_scale.code 8 = .ok (.iconst 1, 1) := by decide +kernel
theorem s_Mo_scale_9 : SiteV k_Mo_scale k_Mo_goes 9 8 3 := ⟨91, (R_Mo, F_Mo, 28), by decide +kernel, ⟨kw_Mo_goes, tx1 10 rfl rfl, by decide, by decide⟩, tx4 148 rfl rfl, tx4 150 rfl rfl, twp 23 rfl rfl, rfl, ⟨by decide +kernel, by decide +kernel⟩, np_Mo_goes⟩
theorem d_Mo_scale_12 : decode k_Mo_scale.code 12 = .ok (.ifCond .ne 5, 3) := by decide +kernel
theorem d_Mo_scale_15 : decode k_Mo_scale.code 15 = .ok (.lconst 0, 1) := by decide +kernel
theorem d_Mo_scale_16 : decode k_Mo_scale.code 16 = .ok (.lreturn, 1) := by decide +kernel
theorem d_Mo_scale_17 : decode k_Mo_scale.code 17 = .ok (.lconst 0, 1) := by decide +kernel
theorem d_Mo_scale_18 : decode k_Mo_scale.code 18 = .ok (.lstore_n 2, 1) := by decide +kernel
theorem d_Mo_scale_19 : decode k_Mo_scale.code 19 = .ok (.lconst 0, 1) := by decide +kernel
theorem d_Mo_scale_20 : decode k_Mo_scale.code 20 = .ok (.lstore 4, 2) := by decide +kernel
theorem d_Mo_scale_22 : decode k_Mo_scale.code 22 = .ok (.iconst 0, 1) := by decide +kernel
theorem d_Mo_scale_23 : decode k_Mo_scale.code 23 = .ok (.istore 6, 2) := by decide +kernel
theorem d_Mo_scale_25 : decode k_Mo_scale.code 25 = .ok (.iload 6, 2) := by decide +kernel
theorem d_Mo_scale_27 : decode k_Mo_scale.code 27 = .ok (.aload_n 0, 1) := by decide +kernel
theorem g_Mo_scale_28 : SiteG k_Mo_scale 28 8 18 := ⟨168, 28, R_Mo, "PhotoModelsModel", F_Mo, by decide +kernel, tx4 63 rfl rfl, i_Mo, rfl, rfl, by decide⟩
theorem d_Mo_scale_31 : decode k_Mo_scale.code 31 = .ok (.if_icmp .ge 117, 3) := by decide +kernel
theorem d_Mo_scale_34 : decode k_Mo_scale.code 34 = .ok (.aload_n 0, 1) := by decide +kernel
theorem g_Mo_scale_35 : SiteG k_Mo_scale 35 8 11 := ⟨26, 28, R_Mo, "PhotoModelsModel", F_Mo, by decide +kernel, tx4 56 rfl rfl, i_Mo, rfl, rfl, by decide⟩
theorem d_Mo_scale_38 : decode k_Mo_scale.code 38 = .ok (.iconst 2, 1) := by decide +kernel
theorem d_Mo_scale_39 : decode k_Mo_scale.code 39 = .ok (.aload_n 0, 1) := by decide +kernel
theorem g_Mo_scale_40 : SiteG k_Mo_scale 40 8 19 := ⟨38, 28, R_Mo, "PhotoModelsModel", F_Mo, by decide +kernel, tx4 64 rfl rfl, i_Mo, rfl, rfl, by decide⟩
theorem d_Mo_scale_43 : decode k_Mo_scale.code 43 = .ok (.iload 6, 2) := by decide +kernel
theorem d_Mo_scale_45 : decode k_Mo_scale.code 45 = .ok (.iaload, 1) := by decide +kernel
theorem d_Mo_scale_46 : decode k_Mo_scale.code 46 = .ok (.imul, 1) := by decide +kernel
theorem d_Mo_scale_47 : decode k_Mo_scale.code 47 = .ok (.iaload, 1) := by decide +kernel
theorem d_Mo_scale_48 : decode k_Mo_scale.code 48 = .ok (.aload_n 0, 1) := by decide +kernel
theorem g_Mo_scale_49 : SiteG k_Mo_scale 49 8 11 := ⟨26, 28, R_Mo, "PhotoModelsModel", F_Mo, by decide +kernel, tx4 56 rfl rfl, i_Mo, rfl, rfl, by decide⟩
theorem d_Mo_scale_52 : decode k_Mo_scale.code 52 = .ok (.iconst 2, 1) := by decide +kernel
theorem d_Mo_scale_53 : decode k_Mo_scale.code 53 = .ok (.aload_n 0, 1) := by decide +kernel
theorem g_Mo_scale_54 : SiteG k_Mo_scale 54 8 20 := ⟨41, 28, R_Mo, "PhotoModelsModel", F_Mo, by decide +kernel, tx4 65 rfl rfl, i_Mo, rfl, rfl, by decide⟩
theorem d_Mo_scale_57 : decode k_Mo_scale.code 57 = .ok (.iload 6, 2) := by decide +kernel
theorem d_Mo_scale_59 : decode k_Mo_scale.code 59 = .ok (.iaload, 1) := by decide +kernel
theorem d_Mo_scale_60 : decode k_Mo_scale.code 60 = .ok (.imul, 1) := by decide +kernel
theorem d_Mo_scale_61 : decode k_Mo_scale.code 61 = .ok (.iaload, 1) := by decide +kernel
theorem d_Mo_scale_62 : decode k_Mo_scale.code 62 = .ok (.isub, 1) := by decide +kernel
theorem d_Mo_scale_63 : decode k_Mo_scale.code 63 = .ok (.i2l, 1) := by decide +kernel
theorem d_Mo_scale_64 : decode k_Mo_scale.code 64 = .ok (.lstore 7, 2) := by decide +kernel
theorem d_Mo_scale_66 : decode k_Mo_scale.code 66 = .ok (.aload_n 0, 1) := by decide +kernel
theorem g_Mo_scale_67 : SiteG k_Mo_scale 67 8 11 := ⟨26, 28, R_Mo, "PhotoModelsModel", F_Mo, by decide +kernel, tx4 56 rfl rfl, i_Mo, rfl, rfl, by decide⟩
theorem d_Mo_scale_70 : decode k_Mo_scale.code 70 = .ok (.iconst 2, 1) := by decide +kernel
theorem d_Mo_scale_71 : decode k_Mo_scale.code 71 = .ok (.aload_n 0, 1) := by decide +kernel
theorem g_Mo_scale_72 : SiteG k_Mo_scale 72 8 19 := ⟨38, 28, R_Mo, "PhotoModelsModel", F_Mo, by decide +kernel, tx4 64 rfl rfl, i_Mo, rfl, rfl, by decide⟩
theorem d_Mo_scale_75 : decode k_Mo_scale.code 75 = .ok (.iload 6, 2) := by decide +kernel
theorem d_Mo_scale_77 : decode k_Mo_scale.code 77 = .ok (.iaload, 1) := by decide +kernel
theorem d_Mo_scale_78 : decode k_Mo_scale.code 78 = .ok (.imul, 1) := by decide +kernel
theorem d_Mo_scale_79 : decode k_Mo_scale.code 79 = .ok (.iconst 1, 1) := by decide +kernel
theorem d_Mo_scale_80 : decode k_Mo_scale.code 80 = .ok (.iadd, 1) := by decide +kernel
theorem d_Mo_scale_81 : decode k_Mo_scale.code 81 = .ok (.iaload, 1) := by decide +kernel
theorem d_Mo_scale_82 : decode k_Mo_scale.code 82 = .ok (.aload_n 0, 1) := by decide +kernel
theorem g_Mo_scale_83 : SiteG k_Mo_scale 83 8 11 := ⟨26, 28, R_Mo, "PhotoModelsModel", F_Mo, by decide +kernel, tx4 56 rfl rfl, i_Mo, rfl, rfl, by decide⟩
theorem d_Mo_scale_86 : decode k_Mo_scale.code 86 = .ok (.iconst 2, 1) := by decide +kernel
theorem d_Mo_scale_87 : decode k_Mo_scale.code 87 = .ok (.aload_n 0, 1) := by decide +kernel
theorem g_Mo_scale_88 : SiteG k_Mo_scale 88 8 20 := ⟨41, 28, R_Mo, "PhotoModelsModel", F_Mo, by decide +kernel, tx4 65 rfl rfl, i_Mo, rfl, rfl, by decide⟩
theorem d_Mo_scale_91 : decode k_Mo_scale.code 91 = .ok (.iload 6, 2) := by decide +kernel
theorem d_Mo_scale_93 : decode k_Mo_scale.code 93 = .ok (.iaload, 1) := by decide +kernel
theorem d_Mo_scale_94 : decode k_Mo_scale.code 94 = .ok (.imul, 1) := by decide +kernel
theorem d_Mo_scale_95 : decode k_Mo_scale.code 95 = .ok (.iconst 1, 1) := by decide +kernel
theorem d_Mo_scale_96 : decode k_Mo_scale.code 96 = .ok (.iadd, 1) := by decide +kernel
theorem d_Mo_scale_97 : decode k_Mo_scale.code 97 = .ok (.iaload, 1) := by decide +kernel
theorem d_Mo_scale_98 : decode k_Mo_scale.code 98 = .ok (.isub, 1) := by decide +kernel
theorem d_Mo_scale_99 : decode k_Mo_scale.code 99 = .ok (.i2l, 1) := by decide +kernel
theorem d_Mo_scale_100 : decode k_Mo_scale.code 100 = .ok (.lstore 9, 2) := by decide +kernel
theorem d_Mo_scale_102 : decode k_Mo_scale.code 102 = .ok (.lload 7, 2) := by decide +kernel
theorem d_Mo_scale_104 : decode k_Mo_scale.code 104 = .ok (.lload 7, 2) := by decide +kernel
theorem d_Mo_scale_106 : decode k_Mo_scale.code 106 = .ok (.lmul, 1) := by decide +kernel
theorem d_Mo_scale_107 : decode k_Mo_scale.code 107 = .ok (.lload 9, 2) := by decide +kernel
theorem d_Mo_scale_109 : decode k_Mo_scale.code 109 = .ok (.lload 9, 2) := by decide +kernel
theorem d_Mo_scale_111 : decode k_Mo_scale.code 111 = .ok (.lmul, 1) := by decide +kernel
theorem d_Mo_scale_112 : decode k_Mo_scale.code 112 = .ok (.ladd, 1) := by decide +kernel
theorem s_Mo_scale_113 : SiteS k_Mo_scale k_Mo_root 113 1 := ⟨175, by decide +kernel, ⟨kw_Mo_root, tx1 10 rfl rfl, by decide, by decide⟩, Or.inl (tx5 35 rfl rfl), tx5 36 rfl rfl, ⟨by decide +kernel, by decide +kernel⟩, np_Mo_root⟩
theorem d_Mo_scale_116 : decode k_Mo_scale.code 116 = .ok (.lstore 11, 2) := by decide +kernel
theorem d_Mo_scale_118 : decode k_Mo_scale.code 118 = .ok (.lload_n 2, 1) := by decide +kernel
theorem d_Mo_scale_119 : decode k_Mo_scale.code 119 = .ok (.aload_n 0, 1) := by decide +kernel
theorem g_Mo_scale_120 : SiteG k_Mo_scale 120 8 21 := ⟨44, 28, R_Mo, "PhotoModelsModel", F_Mo, by decide +kernel, tx4 66 rfl rfl, i_Mo, rfl, rfl, by decide⟩
theorem d_Mo_scale_123 : decode k_Mo_scale.code 123 = .ok (.iload 6, 2) := by decide +kernel
theorem d_Mo_scale_125 : decode k_Mo_scale.code 125 = .ok (.iaload, 1) := by decide +kernel
theorem d_Mo_scale_126 : decode k_Mo_scale.code 126 = .ok (.i2l, 1) := by decide +kernel
theorem d_Mo_scale_127 : decode k_Mo_scale.code 127 = .ok (.lload 11, 2) := by decide +kernel
theorem d_Mo_scale_129 : decode k_Mo_scale.code 129 = .ok (.lmul, 1) := by decide +kernel
theorem d_Mo_scale_130 : decode k_Mo_scale.code 130 = .ok (.ladd, 1) := by decide +kernel
theorem d_Mo_scale_131 : decode k_Mo_scale.code 131 = .ok (.lstore_n 2, 1) := by decide +kernel
theorem d_Mo_scale_132 : decode k_Mo_scale.code 132 = .ok (.lload 4, 2) := by decide +kernel
theorem d_Mo_scale_134 : decode k_Mo_scale.code 134 = .ok (.lload 11, 2) := by decide +kernel
theorem d_Mo_scale_136 : decode k_Mo_scale.code 136 = .ok (.lload 11, 2) := by decide +kernel
theorem d_Mo_scale_138 : decode k_Mo_scale.code 138 = .ok (.lmul, 1) := by decide +kernel
theorem d_Mo_scale_139 : decode k_Mo_scale.code 139 = .ok (.ladd, 1) := by decide +kernel
theorem d_Mo_scale_140 : decode k_Mo_scale.code 140 = .ok (.lstore 4, 2) := by decide +kernel
theorem d_Mo_scale_142 : decode k_Mo_scale.code 142 = .ok (.iinc 6 1, 3) := by decide +kernel
theorem d_Mo_scale_145 : decode k_Mo_scale.code 145 = .ok (.goto (-120), 3) := by decide +kernel
theorem d_Mo_scale_148 : decode k_Mo_scale.code 148 = .ok (.lload 4, 2) := by decide +kernel
theorem d_Mo_scale_150 : decode k_Mo_scale.code 150 = .ok (.lconst 0, 1) := by decide +kernel
theorem d_Mo_scale_151 : decode k_Mo_scale.code 151 = .ok (.lcmp, 1) := by decide +kernel
theorem d_Mo_scale_152 : decode k_Mo_scale.code 152 = .ok (.ifCond .ne 7, 3) := by decide +kernel
theorem d_Mo_scale_155 : decode k_Mo_scale.code 155 = .ok (.lconst 1, 1) := by decide +kernel
theorem d_Mo_scale_156 : decode k_Mo_scale.code 156 = .ok (.goto 9, 3) := by decide +kernel
theorem d_Mo_scale_159 : decode k_Mo_scale.code 159 = .ok (.lload_n 2, 1) := by decide +kernel
theorem d_Mo_scale_160 : decode k_Mo_scale.code 160 = .ok (.lload 4, 2) := by decide +kernel
theorem s_Mo_scale_162 : SiteS k_Mo_scale k_Mo_divisor 162 2 := ⟨179, by decide +kernel, ⟨kw_Mo_divisor, tx1 10 rfl rfl, by decide, by decide⟩, Or.inl (tx5 40 rfl rfl), tx5 41 rfl rfl, ⟨by decide +kernel, by decide +kernel⟩, np_Mo_divisor⟩
theorem d_Mo_scale_165 : decode k_Mo_scale.code 165 = .ok (.lstore 6, 2) := by decide +kernel
theorem d_Mo_scale_167 : decode k_Mo_scale.code 167 = .ok (.lload 4, 2) := by decide +kernel
theorem d_Mo_scale_169 : decode k_Mo_scale.code 169 = .ok (.lconst 0, 1) := by decide +kernel
theorem d_Mo_scale_170 : decode k_Mo_scale.code 170 = .ok (.lcmp, 1) := by decide +kernel
theorem d_Mo_scale_171 : decode k_Mo_scale.code 171 = .ok (.ifCond .ne 8, 3) := by decide +kernel
theorem d_Mo_scale_174 : decode k_Mo_scale.code 174 = .ok (.iload_n 1, 1) := by decide +kernel
theorem d_Mo_scale_175 : decode k_Mo_scale.code 175 = .ok (.i2l, 1) := by decide +kernel
theorem d_Mo_scale_176 : decode k_Mo_scale.code 176 = .ok (.goto 19, 3) := by decide +kernel
theorem d_Mo_scale_179 : decode k_Mo_scale.code 179 = .ok (.iload_n 1, 1) := by decide +kernel
theorem d_Mo_scale_180 : decode k_Mo_scale.code 180 = .ok (.ifCond .ne 10, 3) := by decide +kernel
theorem d_Mo_scale_183 : decode k_Mo_scale.code 183 = .ok (.lload_n 2, 1) := by decide +kernel
theorem d_Mo_scale_184 : decode k_Mo_scale.code 184 = .ok (.lload 6, 2) := by decide +kernel
theorem d_Mo_scale_186 : decode k_Mo_scale.code 186 = .ok (.ldiv, 1) := by decide +kernel
theorem d_Mo_scale_187 : decode k_Mo_scale.code 187 = .ok (.goto 8, 3) := by decide +kernel
theorem d_Mo_scale_190 : decode k_Mo_scale.code 190 = .ok (.lload 4, 2) := by decide +kernel
theorem d_Mo_scale_192 : decode k_Mo_scale.code 192 = .ok (.lload 6, 2) := by decide +kernel
theorem d_Mo_scale_194 : decode k_Mo_scale.code 194 = .ok (.ldiv, 1) := by decide +kernel
theorem d_Mo_scale_195 : decode k_Mo_scale.code 195 = .ok (.lreturn, 1) := by decide +kernel
theorem d_Mo_root_0 : decode k_Mo_root.code 0 = .ok (.lconst 0, 1) := by decide +kernel
theorem d_Mo_root_1 : decode k_Mo_root.code 1 = .ok (.lstore_n 2, 1) := by decide +kernel
theorem d_Mo_root_2 : decode k_Mo_root.code 2 = .ok (.ldc2_w 171, 3) := by decide +kernel
theorem c_Mo_root_2 : Cond.constantLong k_Mo_root.y.cls 171 3000000000 ∈ tw := tx5 38 rfl rfl
theorem d_Mo_root_5 : decode k_Mo_root.code 5 = .ok (.lstore 4, 2) := by decide +kernel
theorem d_Mo_root_7 : decode k_Mo_root.code 7 = .ok (.lload_n 2, 1) := by decide +kernel
theorem d_Mo_root_8 : decode k_Mo_root.code 8 = .ok (.lconst 1, 1) := by decide +kernel
theorem d_Mo_root_9 : decode k_Mo_root.code 9 = .ok (.ladd, 1) := by decide +kernel
theorem d_Mo_root_10 : decode k_Mo_root.code 10 = .ok (.lload 4, 2) := by decide +kernel
theorem d_Mo_root_12 : decode k_Mo_root.code 12 = .ok (.lcmp, 1) := by decide +kernel
theorem d_Mo_root_13 : decode k_Mo_root.code 13 = .ok (.ifCond .ge 59, 3) := by decide +kernel
theorem d_Mo_root_16 : decode k_Mo_root.code 16 = .ok (.lload_n 2, 1) := by decide +kernel
theorem d_Mo_root_17 : decode k_Mo_root.code 17 = .ok (.lload 4, 2) := by decide +kernel
theorem d_Mo_root_19 : decode k_Mo_root.code 19 = .ok (.ladd, 1) := by decide +kernel
theorem d_Mo_root_20 : decode k_Mo_root.code 20 = .ok (.ldc2_w 173, 3) := by decide +kernel
theorem c_Mo_root_20 : Cond.constantLong k_Mo_root.y.cls 173 2 ∈ tw := tx5 39 rfl rfl
theorem d_Mo_root_23 : decode k_Mo_root.code 23 = .ok (.ldiv, 1) := by decide +kernel
theorem d_Mo_root_24 : decode k_Mo_root.code 24 = .ok (.lstore 6, 2) := by decide +kernel
theorem d_Mo_root_26 : decode k_Mo_root.code 26 = .ok (.lload 6, 2) := by decide +kernel
theorem d_Mo_root_28 : decode k_Mo_root.code 28 = .ok (.lload 6, 2) := by decide +kernel
theorem d_Mo_root_30 : decode k_Mo_root.code 30 = .ok (.lmul, 1) := by decide +kernel
theorem d_Mo_root_31 : decode k_Mo_root.code 31 = .ok (.lload_n 0, 1) := by decide +kernel
theorem d_Mo_root_32 : decode k_Mo_root.code 32 = .ok (.lcmp, 1) := by decide +kernel
theorem d_Mo_root_33 : decode k_Mo_root.code 33 = .ok (.ifCond .gt 7, 3) := by decide +kernel
theorem d_Mo_root_36 : decode k_Mo_root.code 36 = .ok (.iconst 1, 1) := by decide +kernel
theorem d_Mo_root_37 : decode k_Mo_root.code 37 = .ok (.goto 4, 3) := by decide +kernel
theorem d_Mo_root_40 : decode k_Mo_root.code 40 = .ok (.iconst 0, 1) := by decide +kernel
theorem d_Mo_root_41 : decode k_Mo_root.code 41 = .ok (.istore 8, 2) := by decide +kernel
theorem d_Mo_root_43 : decode k_Mo_root.code 43 = .ok (.iload 8, 2) := by decide +kernel
theorem d_Mo_root_45 : decode k_Mo_root.code 45 = .ok (.ifCond .eq 8, 3) := by decide +kernel
theorem d_Mo_root_48 : decode k_Mo_root.code 48 = .ok (.lload 6, 2) := by decide +kernel
theorem d_Mo_root_50 : decode k_Mo_root.code 50 = .ok (.goto 4, 3) := by decide +kernel
theorem d_Mo_root_53 : decode k_Mo_root.code 53 = .ok (.lload_n 2, 1) := by decide +kernel
theorem d_Mo_root_54 : decode k_Mo_root.code 54 = .ok (.lstore_n 2, 1) := by decide +kernel
theorem d_Mo_root_55 : decode k_Mo_root.code 55 = .ok (.iload 8, 2) := by decide +kernel
theorem d_Mo_root_57 : decode k_Mo_root.code 57 = .ok (.ifCond .eq 8, 3) := by decide +kernel
theorem d_Mo_root_60 : decode k_Mo_root.code 60 = .ok (.lload 4, 2) := by decide +kernel
theorem d_Mo_root_62 : decode k_Mo_root.code 62 = .ok (.goto 5, 3) := by decide +kernel
theorem d_Mo_root_65 : decode k_Mo_root.code 65 = .ok (.lload 6, 2) := by decide +kernel
theorem d_Mo_root_67 : decode k_Mo_root.code 67 = .ok (.lstore 4, 2) := by decide +kernel
theorem d_Mo_root_69 : decode k_Mo_root.code 69 = .ok (.goto (-62), 3) := by decide +kernel
theorem d_Mo_root_72 : decode k_Mo_root.code 72 = .ok (.lload_n 2, 1) := by decide +kernel
theorem d_Mo_root_73 : decode k_Mo_root.code 73 = .ok (.lreturn, 1) := by decide +kernel
theorem d_Mo_divisor_0 : decode k_Mo_divisor.code 0 = .ok (.lload_n 0, 1) := by decide +kernel
theorem d_Mo_divisor_1 : decode k_Mo_divisor.code 1 = .ok (.lstore 4, 2) := by decide +kernel
theorem d_Mo_divisor_3 : decode k_Mo_divisor.code 3 = .ok (.lload_n 2, 1) := by decide +kernel
theorem d_Mo_divisor_4 : decode k_Mo_divisor.code 4 = .ok (.lstore 6, 2) := by decide +kernel
theorem d_Mo_divisor_6 : decode k_Mo_divisor.code 6 = .ok (.lload 6, 2) := by decide +kernel
theorem d_Mo_divisor_8 : decode k_Mo_divisor.code 8 = .ok (.lconst 0, 1) := by decide +kernel
theorem d_Mo_divisor_9 : decode k_Mo_divisor.code 9 = .ok (.lcmp, 1) := by decide +kernel
theorem d_Mo_divisor_10 : decode k_Mo_divisor.code 10 = .ok (.ifCond .eq 21, 3) := by decide +kernel
theorem d_Mo_divisor_13 : decode k_Mo_divisor.code 13 = .ok (.lload 4, 2) := by decide +kernel
theorem d_Mo_divisor_15 : decode k_Mo_divisor.code 15 = .ok (.lload 6, 2) := by decide +kernel
theorem d_Mo_divisor_17 : decode k_Mo_divisor.code 17 = .ok (.lrem, 1) := by decide +kernel
theorem d_Mo_divisor_18 : decode k_Mo_divisor.code 18 = .ok (.lstore 8, 2) := by decide +kernel
theorem d_Mo_divisor_20 : decode k_Mo_divisor.code 20 = .ok (.lload 6, 2) := by decide +kernel
theorem d_Mo_divisor_22 : decode k_Mo_divisor.code 22 = .ok (.lstore 4, 2) := by decide +kernel
theorem d_Mo_divisor_24 : decode k_Mo_divisor.code 24 = .ok (.lload 8, 2) := by decide +kernel
theorem d_Mo_divisor_26 : decode k_Mo_divisor.code 26 = .ok (.lstore 6, 2) := by decide +kernel
theorem d_Mo_divisor_28 : decode k_Mo_divisor.code 28 = .ok (.goto (-22), 3) := by decide +kernel
theorem d_Mo_divisor_31 : decode k_Mo_divisor.code 31 = .ok (.lload 4, 2) := by decide +kernel
theorem d_Mo_divisor_33 : decode k_Mo_divisor.code 33 = .ok (.lreturn, 1) := by decide +kernel
theorem d_Mo_heights_0 : decode k_Mo_heights.code 0 = .ok (.aload_n 0, 1) := by decide +kernel
theorem d_Mo_heights_1 : decode k_Mo_heights.code 1 = .ok (.iload_n 1, 1) := by decide +kernel
theorem s_Mo_heights_2 : SiteS k_Mo_heights k_Mo_isPhoto 2 1 := ⟨83, by decide +kernel, ⟨kw_Mo_isPhoto, tx1 10 rfl rfl, by decide, by decide⟩, Or.inl (tx4 138 rfl rfl), tx4 139 rfl rfl, ⟨by decide +kernel, by decide +kernel⟩, np_Mo_isPhoto⟩
theorem d_Mo_heights_5 : decode k_Mo_heights.code 5 = .ok (.ifCond .eq 14, 3) := by decide +kernel
theorem d_Mo_heights_8 : decode k_Mo_heights.code 8 = .ok (.iload_n 2, 1) := by decide +kernel
theorem s_Mo_heights_9 : SiteS k_Mo_heights k_Mo_isPhoto 9 1 := ⟨83, by decide +kernel, ⟨kw_Mo_isPhoto, tx1 10 rfl rfl, by decide, by decide⟩, Or.inl (tx4 138 rfl rfl), tx4 139 rfl rfl, ⟨by decide +kernel, by decide +kernel⟩, np_Mo_isPhoto⟩
theorem d_Mo_heights_12 : decode k_Mo_heights.code 12 = .ok (.ifCond .eq 7, 3) := by decide +kernel
theorem d_Mo_heights_15 : decode k_Mo_heights.code 15 = .ok (.iconst 1, 1) := by decide +kernel
theorem d_Mo_heights_16 : decode k_Mo_heights.code 16 = .ok (.goto 4, 3) := by decide +kernel
theorem d_Mo_heights_19 : decode k_Mo_heights.code 19 = .ok (.iconst 0, 1) := by decide +kernel
theorem d_Mo_heights_20 : decode k_Mo_heights.code 20 = .ok (.iload_n 3, 1) := by decide +kernel
theorem d_Mo_heights_21 : decode k_Mo_heights.code 21 = .ok (.iconst 0, 1) := by decide +kernel
theorem d_Mo_heights_22 : decode k_Mo_heights.code 22 = .ok (.bipush 100, 2) := by decide +kernel
theorem s_Mo_heights_24 : SiteS k_Mo_heights k_Mo_within 24 3 := ⟨76, by decide +kernel, ⟨kw_Mo_within, tx1 10 rfl rfl, by decide, by decide⟩, Or.inl (tx4 141 rfl rfl), tx4 142 rfl rfl, ⟨by decide +kernel, by decide +kernel⟩, np_Mo_within⟩
theorem d_Mo_heights_27 : decode k_Mo_heights.code 27 = .ok (.iconst 1, 1) := by decide +kernel
theorem s_Mo_heights_28 : SiteV k_Mo_heights k_Mo_goes 28 8 3 := ⟨91, (R_Mo, F_Mo, 28), by decide +kernel, ⟨kw_Mo_goes, tx1 10 rfl rfl, by decide, by decide⟩, tx4 148 rfl rfl, tx4 150 rfl rfl, twp 23 rfl rfl, rfl, ⟨by decide +kernel, by decide +kernel⟩, np_Mo_goes⟩
theorem d_Mo_heights_31 : decode k_Mo_heights.code 31 = .ok (.ifCond .ne 5, 3) := by decide +kernel
theorem d_Mo_heights_34 : decode k_Mo_heights.code 34 = .ok (.iconst 0, 1) := by decide +kernel
theorem d_Mo_heights_35 : decode k_Mo_heights.code 35 = .ok (.ireturn, 1) := by decide +kernel
theorem d_Mo_heights_36 : decode k_Mo_heights.code 36 = .ok (.iconst 0, 1) := by decide +kernel
theorem d_Mo_heights_37 : decode k_Mo_heights.code 37 = .ok (.istore 4, 2) := by decide +kernel
theorem d_Mo_heights_39 : decode k_Mo_heights.code 39 = .ok (.iconst 0, 1) := by decide +kernel
theorem d_Mo_heights_40 : decode k_Mo_heights.code 40 = .ok (.istore 5, 2) := by decide +kernel
theorem d_Mo_heights_42 : decode k_Mo_heights.code 42 = .ok (.iload 5, 2) := by decide +kernel
theorem d_Mo_heights_44 : decode k_Mo_heights.code 44 = .ok (.aload_n 0, 1) := by decide +kernel
theorem g_Mo_heights_45 : SiteG k_Mo_heights 45 8 2 := ⟨66, 28, R_Mo, "PhotoModelsModel", F_Mo, by decide +kernel, tx4 47 rfl rfl, i_Mo, rfl, rfl, by decide⟩
theorem d_Mo_heights_48 : decode k_Mo_heights.code 48 = .ok (.if_icmp .ge 32, 3) := by decide +kernel
theorem d_Mo_heights_51 : decode k_Mo_heights.code 51 = .ok (.aload_n 0, 1) := by decide +kernel
theorem d_Mo_heights_52 : decode k_Mo_heights.code 52 = .ok (.iload_n 1, 1) := by decide +kernel
theorem d_Mo_heights_53 : decode k_Mo_heights.code 53 = .ok (.iload_n 2, 1) := by decide +kernel
theorem d_Mo_heights_54 : decode k_Mo_heights.code 54 = .ok (.iload 5, 2) := by decide +kernel
theorem d_Mo_heights_56 : decode k_Mo_heights.code 56 = .ok (.iload_n 3, 1) := by decide +kernel
theorem s_Mo_heights_57 : SiteV k_Mo_heights k_Mo_costRow 57 8 4 := ⟨187, (R_Mo, F_Mo, 28), by decide +kernel, ⟨kw_Mo_costRow, tx1 10 rfl rfl, by decide, by decide⟩, tx5 47 rfl rfl, tx5 49 rfl rfl, twp 39 rfl rfl, rfl, ⟨by decide +kernel, by decide +kernel⟩, np_Mo_costRow⟩
theorem d_Mo_heights_60 : decode k_Mo_heights.code 60 = .ok (.iload 4, 2) := by decide +kernel
theorem d_Mo_heights_62 : decode k_Mo_heights.code 62 = .ok (.aload_n 0, 1) := by decide +kernel
theorem d_Mo_heights_63 : decode k_Mo_heights.code 63 = .ok (.iload_n 1, 1) := by decide +kernel
theorem d_Mo_heights_64 : decode k_Mo_heights.code 64 = .ok (.iload_n 2, 1) := by decide +kernel
theorem d_Mo_heights_65 : decode k_Mo_heights.code 65 = .ok (.iload 5, 2) := by decide +kernel
theorem d_Mo_heights_67 : decode k_Mo_heights.code 67 = .ok (.iload_n 3, 1) := by decide +kernel
theorem s_Mo_heights_68 : SiteV k_Mo_heights k_Mo_trace 68 8 4 := ⟨191, (R_Mo, F_Mo, 28), by decide +kernel, ⟨kw_Mo_trace, tx1 10 rfl rfl, by decide, by decide⟩, tx5 55 rfl rfl, tx5 57 rfl rfl, twp 41 rfl rfl, rfl, ⟨by decide +kernel, by decide +kernel⟩, np_Mo_trace⟩
theorem d_Mo_heights_71 : decode k_Mo_heights.code 71 = .ok (.iadd, 1) := by decide +kernel
theorem d_Mo_heights_72 : decode k_Mo_heights.code 72 = .ok (.istore 4, 2) := by decide +kernel
theorem d_Mo_heights_74 : decode k_Mo_heights.code 74 = .ok (.iinc 5 1, 3) := by decide +kernel
theorem d_Mo_heights_77 : decode k_Mo_heights.code 77 = .ok (.goto (-35), 3) := by decide +kernel
theorem d_Mo_heights_80 : decode k_Mo_heights.code 80 = .ok (.aload_n 0, 1) := by decide +kernel
theorem d_Mo_heights_81 : decode k_Mo_heights.code 81 = .ok (.iconst 1, 1) := by decide +kernel
theorem p_Mo_heights_82 : SiteP k_Mo_heights 82 8 22 .boolean := ⟨194, 28, R_Mo, "PhotoModelsModel", F_Mo, t_Mo, t_Mo_ok, n_Mo, by decide +kernel, tx4 67 rfl rfl, i_Mo, rfl, Or.inl rfl, rfl, by decide, rfl⟩
theorem d_Mo_heights_85 : decode k_Mo_heights.code 85 = .ok (.iload 4, 2) := by decide +kernel
theorem d_Mo_heights_87 : decode k_Mo_heights.code 87 = .ok (.ireturn, 1) := by decide +kernel
theorem d_Mo_costRow_0 : decode k_Mo_costRow.code 0 = .ok (.iconst 0, 1) := by decide +kernel
theorem d_Mo_costRow_1 : decode k_Mo_costRow.code 1 = .ok (.istore 5, 2) := by decide +kernel
theorem d_Mo_costRow_3 : decode k_Mo_costRow.code 3 = .ok (.iload 5, 2) := by decide +kernel
theorem d_Mo_costRow_5 : decode k_Mo_costRow.code 5 = .ok (.bipush 6, 2) := by decide +kernel
theorem d_Mo_costRow_7 : decode k_Mo_costRow.code 7 = .ok (.aload_n 0, 1) := by decide +kernel
theorem g_Mo_costRow_8 : SiteG k_Mo_costRow 8 8 1 := ⟨62, 28, R_Mo, "PhotoModelsModel", F_Mo, by decide +kernel, tx4 46 rfl rfl, i_Mo, rfl, rfl, by decide⟩
theorem d_Mo_costRow_11 : decode k_Mo_costRow.code 11 = .ok (.imul, 1) := by decide +kernel
theorem d_Mo_costRow_12 : decode k_Mo_costRow.code 12 = .ok (.if_icmp .ge 148, 3) := by decide +kernel
theorem d_Mo_costRow_15 : decode k_Mo_costRow.code 15 = .ok (.iload 5, 2) := by decide +kernel
theorem d_Mo_costRow_17 : decode k_Mo_costRow.code 17 = .ok (.bipush 6, 2) := by decide +kernel
theorem d_Mo_costRow_19 : decode k_Mo_costRow.code 19 = .ok (.idiv, 1) := by decide +kernel
theorem d_Mo_costRow_20 : decode k_Mo_costRow.code 20 = .ok (.istore 6, 2) := by decide +kernel
theorem d_Mo_costRow_22 : decode k_Mo_costRow.code 22 = .ok (.iload 5, 2) := by decide +kernel
theorem d_Mo_costRow_24 : decode k_Mo_costRow.code 24 = .ok (.bipush 6, 2) := by decide +kernel
theorem d_Mo_costRow_26 : decode k_Mo_costRow.code 26 = .ok (.irem, 1) := by decide +kernel
theorem d_Mo_costRow_27 : decode k_Mo_costRow.code 27 = .ok (.istore 7, 2) := by decide +kernel
theorem d_Mo_costRow_29 : decode k_Mo_costRow.code 29 = .ok (.iload 6, 2) := by decide +kernel
theorem d_Mo_costRow_31 : decode k_Mo_costRow.code 31 = .ok (.ifCond .ne 7, 3) := by decide +kernel
theorem d_Mo_costRow_34 : decode k_Mo_costRow.code 34 = .ok (.iconst 0, 1) := by decide +kernel
theorem d_Mo_costRow_35 : decode k_Mo_costRow.code 35 = .ok (.goto 4, 3) := by decide +kernel
theorem d_Mo_costRow_38 : decode k_Mo_costRow.code 38 = .ok (.iconst (-1), 1) := by decide +kernel
theorem d_Mo_costRow_39 : decode k_Mo_costRow.code 39 = .ok (.istore 8, 2) := by decide +kernel
theorem d_Mo_costRow_41 : decode k_Mo_costRow.code 41 = .ok (.iconst 0, 1) := by decide +kernel
theorem d_Mo_costRow_42 : decode k_Mo_costRow.code 42 = .ok (.istore 9, 2) := by decide +kernel
theorem d_Mo_costRow_44 : decode k_Mo_costRow.code 44 = .ok (.iload 9, 2) := by decide +kernel
theorem d_Mo_costRow_46 : decode k_Mo_costRow.code 46 = .ok (.bipush 6, 2) := by decide +kernel
theorem d_Mo_costRow_48 : decode k_Mo_costRow.code 48 = .ok (.if_icmp .ge 74, 3) := by decide +kernel
theorem d_Mo_costRow_51 : decode k_Mo_costRow.code 51 = .ok (.iload 6, 2) := by decide +kernel
theorem d_Mo_costRow_53 : decode k_Mo_costRow.code 53 = .ok (.ifCond .le 69, 3) := by decide +kernel
theorem d_Mo_costRow_56 : decode k_Mo_costRow.code 56 = .ok (.aload_n 0, 1) := by decide +kernel
theorem g_Mo_costRow_57 : SiteG k_Mo_costRow 57 8 25 := ⟨53, 28, R_Mo, "PhotoModelsModel", F_Mo, by decide +kernel, tx4 70 rfl rfl, i_Mo, rfl, rfl, by decide⟩
theorem d_Mo_costRow_60 : decode k_Mo_costRow.code 60 = .ok (.bipush 6, 2) := by decide +kernel
theorem d_Mo_costRow_62 : decode k_Mo_costRow.code 62 = .ok (.iload 6, 2) := by decide +kernel
theorem d_Mo_costRow_64 : decode k_Mo_costRow.code 64 = .ok (.iconst 1, 1) := by decide +kernel
theorem d_Mo_costRow_65 : decode k_Mo_costRow.code 65 = .ok (.isub, 1) := by decide +kernel
theorem d_Mo_costRow_66 : decode k_Mo_costRow.code 66 = .ok (.imul, 1) := by decide +kernel
theorem d_Mo_costRow_67 : decode k_Mo_costRow.code 67 = .ok (.iload 9, 2) := by decide +kernel
theorem d_Mo_costRow_69 : decode k_Mo_costRow.code 69 = .ok (.iadd, 1) := by decide +kernel
theorem d_Mo_costRow_70 : decode k_Mo_costRow.code 70 = .ok (.iaload, 1) := by decide +kernel
theorem d_Mo_costRow_71 : decode k_Mo_costRow.code 71 = .ok (.istore 10, 2) := by decide +kernel
theorem d_Mo_costRow_73 : decode k_Mo_costRow.code 73 = .ok (.iload 10, 2) := by decide +kernel
theorem d_Mo_costRow_75 : decode k_Mo_costRow.code 75 = .ok (.iload 4, 2) := by decide +kernel
theorem d_Mo_costRow_77 : decode k_Mo_costRow.code 77 = .ok (.iload 7, 2) := by decide +kernel
theorem d_Mo_costRow_79 : decode k_Mo_costRow.code 79 = .ok (.iload 9, 2) := by decide +kernel
theorem s_Mo_costRow_81 : SiteS k_Mo_costRow k_Mo_apart 81 2 := ⟨103, by decide +kernel, ⟨kw_Mo_apart, tx1 10 rfl rfl, by decide, by decide⟩, Or.inl (tx4 164 rfl rfl), tx4 165 rfl rfl, ⟨by decide +kernel, by decide +kernel⟩, np_Mo_apart⟩
theorem d_Mo_costRow_84 : decode k_Mo_costRow.code 84 = .ok (.imul, 1) := by decide +kernel
theorem d_Mo_costRow_85 : decode k_Mo_costRow.code 85 = .ok (.iadd, 1) := by decide +kernel
theorem d_Mo_costRow_86 : decode k_Mo_costRow.code 86 = .ok (.istore 11, 2) := by decide +kernel
theorem d_Mo_costRow_88 : decode k_Mo_costRow.code 88 = .ok (.iload 10, 2) := by decide +kernel
theorem d_Mo_costRow_90 : decode k_Mo_costRow.code 90 = .ok (.iconst (-1), 1) := by decide +kernel
theorem d_Mo_costRow_91 : decode k_Mo_costRow.code 91 = .ok (.if_icmp .eq 21, 3) := by decide +kernel
theorem d_Mo_costRow_94 : decode k_Mo_costRow.code 94 = .ok (.iload 8, 2) := by decide +kernel
theorem d_Mo_costRow_96 : decode k_Mo_costRow.code 96 = .ok (.iconst (-1), 1) := by decide +kernel
theorem d_Mo_costRow_97 : decode k_Mo_costRow.code 97 = .ok (.if_icmp .eq 10, 3) := by decide +kernel
theorem d_Mo_costRow_100 : decode k_Mo_costRow.code 100 = .ok (.iload 11, 2) := by decide +kernel
theorem d_Mo_costRow_102 : decode k_Mo_costRow.code 102 = .ok (.iload 8, 2) := by decide +kernel
theorem d_Mo_costRow_104 : decode k_Mo_costRow.code 104 = .ok (.if_icmp .ge 8, 3) := by decide +kernel
theorem d_Mo_costRow_107 : decode k_Mo_costRow.code 107 = .ok (.iload 11, 2) := by decide +kernel
theorem d_Mo_costRow_109 : decode k_Mo_costRow.code 109 = .ok (.goto 5, 3) := by decide +kernel
theorem d_Mo_costRow_112 : decode k_Mo_costRow.code 112 = .ok (.iload 8, 2) := by decide +kernel
theorem d_Mo_costRow_114 : decode k_Mo_costRow.code 114 = .ok (.istore 8, 2) := by decide +kernel
theorem d_Mo_costRow_116 : decode k_Mo_costRow.code 116 = .ok (.iinc 9 1, 3) := by decide +kernel
theorem d_Mo_costRow_119 : decode k_Mo_costRow.code 119 = .ok (.goto (-75), 3) := by decide +kernel
theorem d_Mo_costRow_122 : decode k_Mo_costRow.code 122 = .ok (.aload_n 0, 1) := by decide +kernel
theorem g_Mo_costRow_123 : SiteG k_Mo_costRow 123 8 25 := ⟨53, 28, R_Mo, "PhotoModelsModel", F_Mo, by decide +kernel, tx4 70 rfl rfl, i_Mo, rfl, rfl, by decide⟩
theorem d_Mo_costRow_126 : decode k_Mo_costRow.code 126 = .ok (.iload 5, 2) := by decide +kernel
theorem d_Mo_costRow_128 : decode k_Mo_costRow.code 128 = .ok (.iload 7, 2) := by decide +kernel
theorem d_Mo_costRow_130 : decode k_Mo_costRow.code 130 = .ok (.iload 6, 2) := by decide +kernel
theorem d_Mo_costRow_132 : decode k_Mo_costRow.code 132 = .ok (.if_icmp .le 7, 3) := by decide +kernel
theorem d_Mo_costRow_135 : decode k_Mo_costRow.code 135 = .ok (.iconst (-1), 1) := by decide +kernel
theorem d_Mo_costRow_136 : decode k_Mo_costRow.code 136 = .ok (.goto 17, 3) := by decide +kernel
theorem d_Mo_costRow_139 : decode k_Mo_costRow.code 139 = .ok (.iload 8, 2) := by decide +kernel
theorem d_Mo_costRow_141 : decode k_Mo_costRow.code 141 = .ok (.aload_n 0, 1) := by decide +kernel
theorem d_Mo_costRow_142 : decode k_Mo_costRow.code 142 = .ok (.iload_n 1, 1) := by decide +kernel
theorem d_Mo_costRow_143 : decode k_Mo_costRow.code 143 = .ok (.iload_n 2, 1) := by decide +kernel
theorem d_Mo_costRow_144 : decode k_Mo_costRow.code 144 = .ok (.iload 6, 2) := by decide +kernel
theorem d_Mo_costRow_146 : decode k_Mo_costRow.code 146 = .ok (.iload_n 3, 1) := by decide +kernel
theorem d_Mo_costRow_147 : decode k_Mo_costRow.code 147 = .ok (.iload 7, 2) := by decide +kernel
theorem s_Mo_costRow_149 : SiteV k_Mo_costRow k_Mo_gap 149 8 5 := ⟨183, (R_Mo, F_Mo, 28), by decide +kernel, ⟨kw_Mo_gap, tx1 10 rfl rfl, by decide, by decide⟩, tx5 51 rfl rfl, tx5 53 rfl rfl, twp 40 rfl rfl, rfl, ⟨by decide +kernel, by decide +kernel⟩, np_Mo_gap⟩
theorem d_Mo_costRow_152 : decode k_Mo_costRow.code 152 = .ok (.iadd, 1) := by decide +kernel
theorem d_Mo_costRow_153 : decode k_Mo_costRow.code 153 = .ok (.iastore, 1) := by decide +kernel
theorem d_Mo_costRow_154 : decode k_Mo_costRow.code 154 = .ok (.iinc 5 1, 3) := by decide +kernel
theorem d_Mo_costRow_157 : decode k_Mo_costRow.code 157 = .ok (.goto (-154), 3) := by decide +kernel
theorem d_Mo_costRow_160 : decode k_Mo_costRow.code 160 = .ok (.return_, 1) := by decide +kernel
theorem d_Mo_gap_0 : decode k_Mo_gap.code 0 = .ok (.aload_n 0, 1) := by decide +kernel
theorem d_Mo_gap_1 : decode k_Mo_gap.code 1 = .ok (.iload_n 1, 1) := by decide +kernel
theorem d_Mo_gap_2 : decode k_Mo_gap.code 2 = .ok (.iload_n 3, 1) := by decide +kernel
theorem d_Mo_gap_3 : decode k_Mo_gap.code 3 = .ok (.iload 4, 2) := by decide +kernel
theorem s_Mo_gap_5 : SiteV k_Mo_gap k_Mo_valueOf 5 8 3 := ⟨95, (R_Mo, F_Mo, 28), by decide +kernel, ⟨kw_Mo_valueOf, tx1 10 rfl rfl, by decide, by decide⟩, tx4 152 rfl rfl, tx4 154 rfl rfl, twp 24 rfl rfl, rfl, ⟨by decide +kernel, by decide +kernel⟩, np_Mo_valueOf⟩
theorem d_Mo_gap_8 : decode k_Mo_gap.code 8 = .ok (.aload_n 0, 1) := by decide +kernel
theorem d_Mo_gap_9 : decode k_Mo_gap.code 9 = .ok (.iload_n 2, 1) := by decide +kernel
theorem d_Mo_gap_10 : decode k_Mo_gap.code 10 = .ok (.iload_n 3, 1) := by decide +kernel
theorem d_Mo_gap_11 : decode k_Mo_gap.code 11 = .ok (.iload 5, 2) := by decide +kernel
theorem d_Mo_gap_13 : decode k_Mo_gap.code 13 = .ok (.isub, 1) := by decide +kernel
theorem d_Mo_gap_14 : decode k_Mo_gap.code 14 = .ok (.iload 4, 2) := by decide +kernel
theorem s_Mo_gap_16 : SiteV k_Mo_gap k_Mo_valueOf 16 8 3 := ⟨95, (R_Mo, F_Mo, 28), by decide +kernel, ⟨kw_Mo_valueOf, tx1 10 rfl rfl, by decide, by decide⟩, tx4 152 rfl rfl, tx4 154 rfl rfl, twp 24 rfl rfl, rfl, ⟨by decide +kernel, by decide +kernel⟩, np_Mo_valueOf⟩
theorem s_Mo_gap_19 : SiteS k_Mo_gap k_Mo_apart 19 2 := ⟨103, by decide +kernel, ⟨kw_Mo_apart, tx1 10 rfl rfl, by decide, by decide⟩, Or.inl (tx4 164 rfl rfl), tx4 165 rfl rfl, ⟨by decide +kernel, by decide +kernel⟩, np_Mo_apart⟩
theorem d_Mo_gap_22 : decode k_Mo_gap.code 22 = .ok (.ireturn, 1) := by decide +kernel
theorem d_Mo_trace_0 : decode k_Mo_trace.code 0 = .ok (.iconst 0, 1) := by decide +kernel
theorem d_Mo_trace_1 : decode k_Mo_trace.code 1 = .ok (.istore 5, 2) := by decide +kernel
theorem d_Mo_trace_3 : decode k_Mo_trace.code 3 = .ok (.iconst 1, 1) := by decide +kernel
theorem d_Mo_trace_4 : decode k_Mo_trace.code 4 = .ok (.istore 6, 2) := by decide +kernel
theorem d_Mo_trace_6 : decode k_Mo_trace.code 6 = .ok (.iload 6, 2) := by decide +kernel
theorem d_Mo_trace_8 : decode k_Mo_trace.code 8 = .ok (.bipush 6, 2) := by decide +kernel
theorem d_Mo_trace_10 : decode k_Mo_trace.code 10 = .ok (.if_icmp .ge 55, 3) := by decide +kernel
theorem d_Mo_trace_13 : decode k_Mo_trace.code 13 = .ok (.aload_n 0, 1) := by decide +kernel
theorem g_Mo_trace_14 : SiteG k_Mo_trace 14 8 25 := ⟨53, 28, R_Mo, "PhotoModelsModel", F_Mo, by decide +kernel, tx4 70 rfl rfl, i_Mo, rfl, rfl, by decide⟩
theorem d_Mo_trace_17 : decode k_Mo_trace.code 17 = .ok (.bipush 6, 2) := by decide +kernel
theorem d_Mo_trace_19 : decode k_Mo_trace.code 19 = .ok (.aload_n 0, 1) := by decide +kernel
theorem g_Mo_trace_20 : SiteG k_Mo_trace 20 8 1 := ⟨62, 28, R_Mo, "PhotoModelsModel", F_Mo, by decide +kernel, tx4 46 rfl rfl, i_Mo, rfl, rfl, by decide⟩
theorem d_Mo_trace_23 : decode k_Mo_trace.code 23 = .ok (.iconst 1, 1) := by decide +kernel
theorem d_Mo_trace_24 : decode k_Mo_trace.code 24 = .ok (.isub, 1) := by decide +kernel
theorem d_Mo_trace_25 : decode k_Mo_trace.code 25 = .ok (.imul, 1) := by decide +kernel
theorem d_Mo_trace_26 : decode k_Mo_trace.code 26 = .ok (.iload 6, 2) := by decide +kernel
theorem d_Mo_trace_28 : decode k_Mo_trace.code 28 = .ok (.iadd, 1) := by decide +kernel
theorem d_Mo_trace_29 : decode k_Mo_trace.code 29 = .ok (.iaload, 1) := by decide +kernel
theorem d_Mo_trace_30 : decode k_Mo_trace.code 30 = .ok (.aload_n 0, 1) := by decide +kernel
theorem g_Mo_trace_31 : SiteG k_Mo_trace 31 8 25 := ⟨53, 28, R_Mo, "PhotoModelsModel", F_Mo, by decide +kernel, tx4 70 rfl rfl, i_Mo, rfl, rfl, by decide⟩
theorem d_Mo_trace_34 : decode k_Mo_trace.code 34 = .ok (.bipush 6, 2) := by decide +kernel
theorem d_Mo_trace_36 : decode k_Mo_trace.code 36 = .ok (.aload_n 0, 1) := by decide +kernel
theorem g_Mo_trace_37 : SiteG k_Mo_trace 37 8 1 := ⟨62, 28, R_Mo, "PhotoModelsModel", F_Mo, by decide +kernel, tx4 46 rfl rfl, i_Mo, rfl, rfl, by decide⟩
theorem d_Mo_trace_40 : decode k_Mo_trace.code 40 = .ok (.iconst 1, 1) := by decide +kernel
theorem d_Mo_trace_41 : decode k_Mo_trace.code 41 = .ok (.isub, 1) := by decide +kernel
theorem d_Mo_trace_42 : decode k_Mo_trace.code 42 = .ok (.imul, 1) := by decide +kernel
theorem d_Mo_trace_43 : decode k_Mo_trace.code 43 = .ok (.iload 5, 2) := by decide +kernel
theorem d_Mo_trace_45 : decode k_Mo_trace.code 45 = .ok (.iadd, 1) := by decide +kernel
theorem d_Mo_trace_46 : decode k_Mo_trace.code 46 = .ok (.iaload, 1) := by decide +kernel
theorem d_Mo_trace_47 : decode k_Mo_trace.code 47 = .ok (.if_icmp .ge 8, 3) := by decide +kernel
theorem d_Mo_trace_50 : decode k_Mo_trace.code 50 = .ok (.iload 6, 2) := by decide +kernel
theorem d_Mo_trace_52 : decode k_Mo_trace.code 52 = .ok (.goto 5, 3) := by decide +kernel
theorem d_Mo_trace_55 : decode k_Mo_trace.code 55 = .ok (.iload 5, 2) := by decide +kernel
theorem d_Mo_trace_57 : decode k_Mo_trace.code 57 = .ok (.istore 5, 2) := by decide +kernel
theorem d_Mo_trace_59 : decode k_Mo_trace.code 59 = .ok (.iinc 6 1, 3) := by decide +kernel
theorem d_Mo_trace_62 : decode k_Mo_trace.code 62 = .ok (.goto (-56), 3) := by decide +kernel
theorem d_Mo_trace_65 : decode k_Mo_trace.code 65 = .ok (.aload_n 0, 1) := by decide +kernel
theorem g_Mo_trace_66 : SiteG k_Mo_trace 66 8 25 := ⟨53, 28, R_Mo, "PhotoModelsModel", F_Mo, by decide +kernel, tx4 70 rfl rfl, i_Mo, rfl, rfl, by decide⟩
theorem d_Mo_trace_69 : decode k_Mo_trace.code 69 = .ok (.bipush 6, 2) := by decide +kernel
theorem d_Mo_trace_71 : decode k_Mo_trace.code 71 = .ok (.aload_n 0, 1) := by decide +kernel
theorem g_Mo_trace_72 : SiteG k_Mo_trace 72 8 1 := ⟨62, 28, R_Mo, "PhotoModelsModel", F_Mo, by decide +kernel, tx4 46 rfl rfl, i_Mo, rfl, rfl, by decide⟩
theorem d_Mo_trace_75 : decode k_Mo_trace.code 75 = .ok (.iconst 1, 1) := by decide +kernel
theorem d_Mo_trace_76 : decode k_Mo_trace.code 76 = .ok (.isub, 1) := by decide +kernel
theorem d_Mo_trace_77 : decode k_Mo_trace.code 77 = .ok (.imul, 1) := by decide +kernel
theorem d_Mo_trace_78 : decode k_Mo_trace.code 78 = .ok (.iload 5, 2) := by decide +kernel
theorem d_Mo_trace_80 : decode k_Mo_trace.code 80 = .ok (.iadd, 1) := by decide +kernel
theorem d_Mo_trace_81 : decode k_Mo_trace.code 81 = .ok (.iaload, 1) := by decide +kernel
theorem d_Mo_trace_82 : decode k_Mo_trace.code 82 = .ok (.istore 6, 2) := by decide +kernel
theorem d_Mo_trace_84 : decode k_Mo_trace.code 84 = .ok (.aload_n 0, 1) := by decide +kernel
theorem g_Mo_trace_85 : SiteG k_Mo_trace 85 8 1 := ⟨62, 28, R_Mo, "PhotoModelsModel", F_Mo, by decide +kernel, tx4 46 rfl rfl, i_Mo, rfl, rfl, by decide⟩
theorem d_Mo_trace_88 : decode k_Mo_trace.code 88 = .ok (.iconst 1, 1) := by decide +kernel
theorem d_Mo_trace_89 : decode k_Mo_trace.code 89 = .ok (.isub, 1) := by decide +kernel
theorem d_Mo_trace_90 : decode k_Mo_trace.code 90 = .ok (.istore 7, 2) := by decide +kernel
theorem d_Mo_trace_92 : decode k_Mo_trace.code 92 = .ok (.iload 7, 2) := by decide +kernel
theorem d_Mo_trace_94 : decode k_Mo_trace.code 94 = .ok (.ifCond .lt 142, 3) := by decide +kernel
theorem d_Mo_trace_97 : decode k_Mo_trace.code 97 = .ok (.aload_n 0, 1) := by decide +kernel
theorem g_Mo_trace_98 : SiteG k_Mo_trace 98 8 23 := ⟨47, 28, R_Mo, "PhotoModelsModel", F_Mo, by decide +kernel, tx4 68 rfl rfl, i_Mo, rfl, rfl, by decide⟩
theorem d_Mo_trace_101 : decode k_Mo_trace.code 101 = .ok (.bipush 20, 2) := by decide +kernel
theorem d_Mo_trace_103 : decode k_Mo_trace.code 103 = .ok (.iload_n 3, 1) := by decide +kernel
theorem d_Mo_trace_104 : decode k_Mo_trace.code 104 = .ok (.imul, 1) := by decide +kernel
theorem d_Mo_trace_105 : decode k_Mo_trace.code 105 = .ok (.iload 7, 2) := by decide +kernel
theorem d_Mo_trace_107 : decode k_Mo_trace.code 107 = .ok (.iadd, 1) := by decide +kernel
theorem d_Mo_trace_108 : decode k_Mo_trace.code 108 = .ok (.iload 5, 2) := by decide +kernel
theorem d_Mo_trace_110 : decode k_Mo_trace.code 110 = .ok (.iastore, 1) := by decide +kernel
theorem d_Mo_trace_111 : decode k_Mo_trace.code 111 = .ok (.aload_n 0, 1) := by decide +kernel
theorem g_Mo_trace_112 : SiteG k_Mo_trace 112 8 24 := ⟨50, 28, R_Mo, "PhotoModelsModel", F_Mo, by decide +kernel, tx4 69 rfl rfl, i_Mo, rfl, rfl, by decide⟩
theorem d_Mo_trace_115 : decode k_Mo_trace.code 115 = .ok (.bipush 20, 2) := by decide +kernel
theorem d_Mo_trace_117 : decode k_Mo_trace.code 117 = .ok (.iload_n 3, 1) := by decide +kernel
theorem d_Mo_trace_118 : decode k_Mo_trace.code 118 = .ok (.imul, 1) := by decide +kernel
theorem d_Mo_trace_119 : decode k_Mo_trace.code 119 = .ok (.iload 7, 2) := by decide +kernel
theorem d_Mo_trace_121 : decode k_Mo_trace.code 121 = .ok (.iadd, 1) := by decide +kernel
theorem d_Mo_trace_122 : decode k_Mo_trace.code 122 = .ok (.aload_n 0, 1) := by decide +kernel
theorem d_Mo_trace_123 : decode k_Mo_trace.code 123 = .ok (.iload_n 1, 1) := by decide +kernel
theorem d_Mo_trace_124 : decode k_Mo_trace.code 124 = .ok (.iload_n 2, 1) := by decide +kernel
theorem d_Mo_trace_125 : decode k_Mo_trace.code 125 = .ok (.iload 7, 2) := by decide +kernel
theorem d_Mo_trace_127 : decode k_Mo_trace.code 127 = .ok (.iload_n 3, 1) := by decide +kernel
theorem d_Mo_trace_128 : decode k_Mo_trace.code 128 = .ok (.iload 5, 2) := by decide +kernel
theorem s_Mo_trace_130 : SiteV k_Mo_trace k_Mo_gap 130 8 5 := ⟨183, (R_Mo, F_Mo, 28), by decide +kernel, ⟨kw_Mo_gap, tx1 10 rfl rfl, by decide, by decide⟩, tx5 51 rfl rfl, tx5 53 rfl rfl, twp 40 rfl rfl, rfl, ⟨by decide +kernel, by decide +kernel⟩, np_Mo_gap⟩
theorem d_Mo_trace_133 : decode k_Mo_trace.code 133 = .ok (.iastore, 1) := by decide +kernel
theorem d_Mo_trace_134 : decode k_Mo_trace.code 134 = .ok (.aload_n 0, 1) := by decide +kernel
theorem g_Mo_trace_135 : SiteG k_Mo_trace 135 8 25 := ⟨53, 28, R_Mo, "PhotoModelsModel", F_Mo, by decide +kernel, tx4 70 rfl rfl, i_Mo, rfl, rfl, by decide⟩
theorem d_Mo_trace_138 : decode k_Mo_trace.code 138 = .ok (.bipush 6, 2) := by decide +kernel
theorem d_Mo_trace_140 : decode k_Mo_trace.code 140 = .ok (.iload 7, 2) := by decide +kernel
theorem d_Mo_trace_142 : decode k_Mo_trace.code 142 = .ok (.imul, 1) := by decide +kernel
theorem d_Mo_trace_143 : decode k_Mo_trace.code 143 = .ok (.iload 5, 2) := by decide +kernel
theorem d_Mo_trace_145 : decode k_Mo_trace.code 145 = .ok (.iadd, 1) := by decide +kernel
theorem d_Mo_trace_146 : decode k_Mo_trace.code 146 = .ok (.iaload, 1) := by decide +kernel
theorem d_Mo_trace_147 : decode k_Mo_trace.code 147 = .ok (.aload_n 0, 1) := by decide +kernel
theorem g_Mo_trace_148 : SiteG k_Mo_trace 148 8 24 := ⟨50, 28, R_Mo, "PhotoModelsModel", F_Mo, by decide +kernel, tx4 69 rfl rfl, i_Mo, rfl, rfl, by decide⟩
theorem d_Mo_trace_151 : decode k_Mo_trace.code 151 = .ok (.bipush 20, 2) := by decide +kernel
theorem d_Mo_trace_153 : decode k_Mo_trace.code 153 = .ok (.iload_n 3, 1) := by decide +kernel
theorem d_Mo_trace_154 : decode k_Mo_trace.code 154 = .ok (.imul, 1) := by decide +kernel
theorem d_Mo_trace_155 : decode k_Mo_trace.code 155 = .ok (.iload 7, 2) := by decide +kernel
theorem d_Mo_trace_157 : decode k_Mo_trace.code 157 = .ok (.iadd, 1) := by decide +kernel
theorem d_Mo_trace_158 : decode k_Mo_trace.code 158 = .ok (.iaload, 1) := by decide +kernel
theorem d_Mo_trace_159 : decode k_Mo_trace.code 159 = .ok (.isub, 1) := by decide +kernel
theorem d_Mo_trace_160 : decode k_Mo_trace.code 160 = .ok (.istore 8, 2) := by decide +kernel
theorem d_Mo_trace_162 : decode k_Mo_trace.code 162 = .ok (.iconst 0, 1) := by decide +kernel
theorem d_Mo_trace_163 : decode k_Mo_trace.code 163 = .ok (.istore 9, 2) := by decide +kernel
theorem d_Mo_trace_165 : decode k_Mo_trace.code 165 = .ok (.iload 7, 2) := by decide +kernel
theorem d_Mo_trace_167 : decode k_Mo_trace.code 167 = .ok (.ifCond .le 59, 3) := by decide +kernel
theorem d_Mo_trace_170 : decode k_Mo_trace.code 170 = .ok (.aload_n 0, 1) := by decide +kernel
theorem g_Mo_trace_171 : SiteG k_Mo_trace 171 8 25 := ⟨53, 28, R_Mo, "PhotoModelsModel", F_Mo, by decide +kernel, tx4 70 rfl rfl, i_Mo, rfl, rfl, by decide⟩
theorem d_Mo_trace_174 : decode k_Mo_trace.code 174 = .ok (.bipush 6, 2) := by decide +kernel
theorem d_Mo_trace_176 : decode k_Mo_trace.code 176 = .ok (.iload 7, 2) := by decide +kernel
theorem d_Mo_trace_178 : decode k_Mo_trace.code 178 = .ok (.iconst 1, 1) := by decide +kernel
theorem d_Mo_trace_179 : decode k_Mo_trace.code 179 = .ok (.isub, 1) := by decide +kernel
theorem d_Mo_trace_180 : decode k_Mo_trace.code 180 = .ok (.imul, 1) := by decide +kernel
theorem d_Mo_trace_181 : decode k_Mo_trace.code 181 = .ok (.iload 9, 2) := by decide +kernel
theorem d_Mo_trace_183 : decode k_Mo_trace.code 183 = .ok (.iadd, 1) := by decide +kernel
theorem d_Mo_trace_184 : decode k_Mo_trace.code 184 = .ok (.iaload, 1) := by decide +kernel
theorem d_Mo_trace_185 : decode k_Mo_trace.code 185 = .ok (.iconst (-1), 1) := by decide +kernel
theorem d_Mo_trace_186 : decode k_Mo_trace.code 186 = .ok (.if_icmp .eq 34, 3) := by decide +kernel
theorem d_Mo_trace_189 : decode k_Mo_trace.code 189 = .ok (.aload_n 0, 1) := by decide +kernel
theorem g_Mo_trace_190 : SiteG k_Mo_trace 190 8 25 := ⟨53, 28, R_Mo, "PhotoModelsModel", F_Mo, by decide +kernel, tx4 70 rfl rfl, i_Mo, rfl, rfl, by decide⟩
theorem d_Mo_trace_193 : decode k_Mo_trace.code 193 = .ok (.bipush 6, 2) := by decide +kernel
theorem d_Mo_trace_195 : decode k_Mo_trace.code 195 = .ok (.iload 7, 2) := by decide +kernel
theorem d_Mo_trace_197 : decode k_Mo_trace.code 197 = .ok (.iconst 1, 1) := by decide +kernel
theorem d_Mo_trace_198 : decode k_Mo_trace.code 198 = .ok (.isub, 1) := by decide +kernel
theorem d_Mo_trace_199 : decode k_Mo_trace.code 199 = .ok (.imul, 1) := by decide +kernel
theorem d_Mo_trace_200 : decode k_Mo_trace.code 200 = .ok (.iload 9, 2) := by decide +kernel
theorem d_Mo_trace_202 : decode k_Mo_trace.code 202 = .ok (.iadd, 1) := by decide +kernel
theorem d_Mo_trace_203 : decode k_Mo_trace.code 203 = .ok (.iaload, 1) := by decide +kernel
theorem d_Mo_trace_204 : decode k_Mo_trace.code 204 = .ok (.iload 4, 2) := by decide +kernel
theorem d_Mo_trace_206 : decode k_Mo_trace.code 206 = .ok (.iload 5, 2) := by decide +kernel
theorem d_Mo_trace_208 : decode k_Mo_trace.code 208 = .ok (.iload 9, 2) := by decide +kernel
theorem s_Mo_trace_210 : SiteS k_Mo_trace k_Mo_apart 210 2 := ⟨103, by decide +kernel, ⟨kw_Mo_apart, tx1 10 rfl rfl, by decide, by decide⟩, Or.inl (tx4 164 rfl rfl), tx4 165 rfl rfl, ⟨by decide +kernel, by decide +kernel⟩, np_Mo_apart⟩
theorem d_Mo_trace_213 : decode k_Mo_trace.code 213 = .ok (.imul, 1) := by decide +kernel
theorem d_Mo_trace_214 : decode k_Mo_trace.code 214 = .ok (.iadd, 1) := by decide +kernel
theorem d_Mo_trace_215 : decode k_Mo_trace.code 215 = .ok (.iload 8, 2) := by decide +kernel
theorem d_Mo_trace_217 : decode k_Mo_trace.code 217 = .ok (.if_icmp .eq 9, 3) := by decide +kernel
theorem d_Mo_trace_220 : decode k_Mo_trace.code 220 = .ok (.iinc 9 1, 3) := by decide +kernel
theorem d_Mo_trace_223 : decode k_Mo_trace.code 223 = .ok (.goto (-58), 3) := by decide +kernel
theorem d_Mo_trace_226 : decode k_Mo_trace.code 226 = .ok (.iload 9, 2) := by decide +kernel
theorem d_Mo_trace_228 : decode k_Mo_trace.code 228 = .ok (.istore 5, 2) := by decide +kernel
theorem d_Mo_trace_230 : decode k_Mo_trace.code 230 = .ok (.iinc 7 (-1), 3) := by decide +kernel
theorem d_Mo_trace_233 : decode k_Mo_trace.code 233 = .ok (.goto (-141), 3) := by decide +kernel
theorem d_Mo_trace_236 : decode k_Mo_trace.code 236 = .ok (.iload 6, 2) := by decide +kernel
theorem d_Mo_trace_238 : decode k_Mo_trace.code 238 = .ok (.ireturn, 1) := by decide +kernel
theorem d_Mo_depth_0 : decode k_Mo_depth.code 0 = .ok (.aload_n 0, 1) := by decide +kernel
theorem d_Mo_depth_1 : decode k_Mo_depth.code 1 = .ok (.aload_n 0, 1) := by decide +kernel
theorem d_Mo_depth_2 : decode k_Mo_depth.code 2 = .ok (.iload_n 1, 1) := by decide +kernel
theorem d_Mo_depth_3 : decode k_Mo_depth.code 3 = .ok (.iload_n 2, 1) := by decide +kernel
theorem s_Mo_depth_4 : SiteV k_Mo_depth k_Mo_isCell 4 8 2 := ⟨87, (R_Mo, F_Mo, 28), by decide +kernel, ⟨kw_Mo_isCell, tx1 10 rfl rfl, by decide, by decide⟩, tx4 144 rfl rfl, tx4 146 rfl rfl, twp 22 rfl rfl, rfl, ⟨by decide +kernel, by decide +kernel⟩, np_Mo_isCell⟩
theorem d_Mo_depth_7 : decode k_Mo_depth.code 7 = .ok (.aload_n 0, 1) := by decide +kernel
theorem g_Mo_depth_8 : SiteG k_Mo_depth 8 8 22 := ⟨194, 28, R_Mo, "PhotoModelsModel", F_Mo, by decide +kernel, tx4 67 rfl rfl, i_Mo, rfl, rfl, by decide⟩
theorem d_Mo_depth_11 : decode k_Mo_depth.code 11 = .ok (.iconst 1, 1) := by decide +kernel
theorem s_Mo_depth_12 : SiteV k_Mo_depth k_Mo_goes 12 8 3 := ⟨91, (R_Mo, F_Mo, 28), by decide +kernel, ⟨kw_Mo_goes, tx1 10 rfl rfl, by decide, by decide⟩, tx4 148 rfl rfl, tx4 150 rfl rfl, twp 23 rfl rfl, rfl, ⟨by decide +kernel, by decide +kernel⟩, np_Mo_goes⟩
theorem d_Mo_depth_15 : decode k_Mo_depth.code 15 = .ok (.ifCond .eq 17, 3) := by decide +kernel
theorem d_Mo_depth_18 : decode k_Mo_depth.code 18 = .ok (.aload_n 0, 1) := by decide +kernel
theorem g_Mo_depth_19 : SiteG k_Mo_depth 19 8 23 := ⟨47, 28, R_Mo, "PhotoModelsModel", F_Mo, by decide +kernel, tx4 68 rfl rfl, i_Mo, rfl, rfl, by decide⟩
theorem d_Mo_depth_22 : decode k_Mo_depth.code 22 = .ok (.bipush 20, 2) := by decide +kernel
theorem d_Mo_depth_24 : decode k_Mo_depth.code 24 = .ok (.iload_n 2, 1) := by decide +kernel
theorem d_Mo_depth_25 : decode k_Mo_depth.code 25 = .ok (.imul, 1) := by decide +kernel
theorem d_Mo_depth_26 : decode k_Mo_depth.code 26 = .ok (.iload_n 1, 1) := by decide +kernel
theorem d_Mo_depth_27 : decode k_Mo_depth.code 27 = .ok (.iadd, 1) := by decide +kernel
theorem d_Mo_depth_28 : decode k_Mo_depth.code 28 = .ok (.iaload, 1) := by decide +kernel
theorem d_Mo_depth_29 : decode k_Mo_depth.code 29 = .ok (.goto 4, 3) := by decide +kernel
theorem d_Mo_depth_32 : decode k_Mo_depth.code 32 = .ok (.iconst 0, 1) := by decide +kernel
theorem d_Mo_depth_33 : decode k_Mo_depth.code 33 = .ok (.ireturn, 1) := by decide +kernel
theorem d_Mo_holes_0 : decode k_Mo_holes.code 0 = .ok (.aload_n 0, 1) := by decide +kernel
theorem d_Mo_holes_1 : decode k_Mo_holes.code 1 = .ok (.aload_n 0, 1) := by decide +kernel
theorem g_Mo_holes_2 : SiteG k_Mo_holes 2 8 22 := ⟨194, 28, R_Mo, "PhotoModelsModel", F_Mo, by decide +kernel, tx4 67 rfl rfl, i_Mo, rfl, rfl, by decide⟩
theorem d_Mo_holes_5 : decode k_Mo_holes.code 5 = .ok (.iconst 1, 1) := by decide +kernel
theorem d_Mo_holes_6 : decode k_Mo_holes.code 6 = .ok (.iconst 1, 1) := by decide +kernel
theorem s_Mo_holes_7 : SiteV k_Mo_holes k_Mo_goes 7 8 3 := ⟨91, (R_Mo, F_Mo, 28), by decide +kernel, ⟨kw_Mo_goes, tx1 10 rfl rfl, by decide, by decide⟩, tx4 148 rfl rfl, tx4 150 rfl rfl, twp 23 rfl rfl, rfl, ⟨by decide +kernel, by decide +kernel⟩, np_Mo_goes⟩
theorem d_Mo_holes_10 : decode k_Mo_holes.code 10 = .ok (.ifCond .ne 5, 3) := by decide +kernel
theorem d_Mo_holes_13 : decode k_Mo_holes.code 13 = .ok (.iconst 0, 1) := by decide +kernel
theorem d_Mo_holes_14 : decode k_Mo_holes.code 14 = .ok (.ireturn, 1) := by decide +kernel
theorem d_Mo_holes_15 : decode k_Mo_holes.code 15 = .ok (.iconst 0, 1) := by decide +kernel
theorem d_Mo_holes_16 : decode k_Mo_holes.code 16 = .ok (.istore_n 2, 1) := by decide +kernel
theorem d_Mo_holes_17 : decode k_Mo_holes.code 17 = .ok (.iload_n 2, 1) := by decide +kernel
theorem d_Mo_holes_18 : decode k_Mo_holes.code 18 = .ok (.sipush 400, 3) := by decide +kernel
theorem d_Mo_holes_21 : decode k_Mo_holes.code 21 = .ok (.if_icmp .ge 52, 3) := by decide +kernel
theorem d_Mo_holes_24 : decode k_Mo_holes.code 24 = .ok (.aload_n 0, 1) := by decide +kernel
theorem g_Mo_holes_25 : SiteG k_Mo_holes 25 8 26 := ⟨56, 28, R_Mo, "PhotoModelsModel", F_Mo, by decide +kernel, tx4 71 rfl rfl, i_Mo, rfl, rfl, by decide⟩
theorem d_Mo_holes_28 : decode k_Mo_holes.code 28 = .ok (.iload_n 2, 1) := by decide +kernel
theorem d_Mo_holes_29 : decode k_Mo_holes.code 29 = .ok (.aload_n 0, 1) := by decide +kernel
theorem d_Mo_holes_30 : decode k_Mo_holes.code 30 = .ok (.iload_n 2, 1) := by decide +kernel
theorem d_Mo_holes_31 : decode k_Mo_holes.code 31 = .ok (.bipush 20, 2) := by decide +kernel
theorem d_Mo_holes_33 : decode k_Mo_holes.code 33 = .ok (.irem, 1) := by decide +kernel
theorem d_Mo_holes_34 : decode k_Mo_holes.code 34 = .ok (.iload_n 2, 1) := by decide +kernel
theorem d_Mo_holes_35 : decode k_Mo_holes.code 35 = .ok (.bipush 20, 2) := by decide +kernel
theorem d_Mo_holes_37 : decode k_Mo_holes.code 37 = .ok (.idiv, 1) := by decide +kernel
theorem s_Mo_holes_38 : SiteV k_Mo_holes k_Mo_isCell 38 8 2 := ⟨87, (R_Mo, F_Mo, 28), by decide +kernel, ⟨kw_Mo_isCell, tx1 10 rfl rfl, by decide, by decide⟩, tx4 144 rfl rfl, tx4 146 rfl rfl, twp 22 rfl rfl, rfl, ⟨by decide +kernel, by decide +kernel⟩, np_Mo_isCell⟩
theorem d_Mo_holes_41 : decode k_Mo_holes.code 41 = .ok (.ifCond .eq 17, 3) := by decide +kernel
theorem d_Mo_holes_44 : decode k_Mo_holes.code 44 = .ok (.aload_n 0, 1) := by decide +kernel
theorem g_Mo_holes_45 : SiteG k_Mo_holes 45 8 24 := ⟨50, 28, R_Mo, "PhotoModelsModel", F_Mo, by decide +kernel, tx4 69 rfl rfl, i_Mo, rfl, rfl, by decide⟩
theorem d_Mo_holes_48 : decode k_Mo_holes.code 48 = .ok (.iload_n 2, 1) := by decide +kernel
theorem d_Mo_holes_49 : decode k_Mo_holes.code 49 = .ok (.iaload, 1) := by decide +kernel
theorem d_Mo_holes_50 : decode k_Mo_holes.code 50 = .ok (.iload_n 1, 1) := by decide +kernel
theorem d_Mo_holes_51 : decode k_Mo_holes.code 51 = .ok (.if_icmp .le 7, 3) := by decide +kernel
theorem d_Mo_holes_54 : decode k_Mo_holes.code 54 = .ok (.iconst 1, 1) := by decide +kernel
theorem d_Mo_holes_55 : decode k_Mo_holes.code 55 = .ok (.goto 4, 3) := by decide +kernel
theorem d_Mo_holes_58 : decode k_Mo_holes.code 58 = .ok (.iconst 0, 1) := by decide +kernel
theorem d_Mo_holes_59 : decode k_Mo_holes.code 59 = .ok (.bastore, 1) := by decide +kernel
theorem d_Mo_holes_60 : decode k_Mo_holes.code 60 = .ok (.aload_n 0, 1) := by decide +kernel
theorem g_Mo_holes_61 : SiteG k_Mo_holes 61 8 27 := ⟨59, 28, R_Mo, "PhotoModelsModel", F_Mo, by decide +kernel, tx4 72 rfl rfl, i_Mo, rfl, rfl, by decide⟩
theorem d_Mo_holes_64 : decode k_Mo_holes.code 64 = .ok (.iload_n 2, 1) := by decide +kernel
theorem d_Mo_holes_65 : decode k_Mo_holes.code 65 = .ok (.iconst 0, 1) := by decide +kernel
theorem d_Mo_holes_66 : decode k_Mo_holes.code 66 = .ok (.bastore, 1) := by decide +kernel
theorem d_Mo_holes_67 : decode k_Mo_holes.code 67 = .ok (.iinc 2 1, 3) := by decide +kernel
theorem d_Mo_holes_70 : decode k_Mo_holes.code 70 = .ok (.goto (-53), 3) := by decide +kernel
theorem d_Mo_holes_73 : decode k_Mo_holes.code 73 = .ok (.iconst 0, 1) := by decide +kernel
theorem d_Mo_holes_74 : decode k_Mo_holes.code 74 = .ok (.istore_n 2, 1) := by decide +kernel
theorem d_Mo_holes_75 : decode k_Mo_holes.code 75 = .ok (.iconst 0, 1) := by decide +kernel
theorem d_Mo_holes_76 : decode k_Mo_holes.code 76 = .ok (.istore_n 3, 1) := by decide +kernel
theorem d_Mo_holes_77 : decode k_Mo_holes.code 77 = .ok (.iload_n 3, 1) := by decide +kernel
theorem d_Mo_holes_78 : decode k_Mo_holes.code 78 = .ok (.sipush 400, 3) := by decide +kernel
theorem d_Mo_holes_81 : decode k_Mo_holes.code 81 = .ok (.if_icmp .ge 26, 3) := by decide +kernel
theorem d_Mo_holes_84 : decode k_Mo_holes.code 84 = .ok (.aload_n 0, 1) := by decide +kernel
theorem g_Mo_holes_85 : SiteG k_Mo_holes 85 8 26 := ⟨56, 28, R_Mo, "PhotoModelsModel", F_Mo, by decide +kernel, tx4 71 rfl rfl, i_Mo, rfl, rfl, by decide⟩
theorem d_Mo_holes_88 : decode k_Mo_holes.code 88 = .ok (.iload_n 3, 1) := by decide +kernel
theorem d_Mo_holes_89 : decode k_Mo_holes.code 89 = .ok (.baload, 1) := by decide +kernel
theorem d_Mo_holes_90 : decode k_Mo_holes.code 90 = .ok (.ifCond .eq 11, 3) := by decide +kernel
theorem d_Mo_holes_93 : decode k_Mo_holes.code 93 = .ok (.iinc 2 1, 3) := by decide +kernel
theorem d_Mo_holes_96 : decode k_Mo_holes.code 96 = .ok (.aload_n 0, 1) := by decide +kernel
theorem d_Mo_holes_97 : decode k_Mo_holes.code 97 = .ok (.iload_n 3, 1) := by decide +kernel
theorem s_Mo_holes_98 : SiteV k_Mo_holes k_Mo_close 98 8 1 := ⟨203, (R_Mo, F_Mo, 28), by decide +kernel, ⟨kw_Mo_close, tx1 10 rfl rfl, by decide, by decide⟩, tx5 67 rfl rfl, tx5 69 rfl rfl, twp 42 rfl rfl, rfl, ⟨by decide +kernel, by decide +kernel⟩, np_Mo_close⟩
theorem d_Mo_holes_101 : decode k_Mo_holes.code 101 = .ok (.iinc 3 1, 3) := by decide +kernel
theorem d_Mo_holes_104 : decode k_Mo_holes.code 104 = .ok (.goto (-27), 3) := by decide +kernel
theorem d_Mo_holes_107 : decode k_Mo_holes.code 107 = .ok (.iload_n 2, 1) := by decide +kernel
theorem d_Mo_holes_108 : decode k_Mo_holes.code 108 = .ok (.ireturn, 1) := by decide +kernel
theorem d_Mo_close_0 : decode k_Mo_close.code 0 = .ok (.aload_n 0, 1) := by decide +kernel
theorem g_Mo_close_1 : SiteG k_Mo_close 1 8 26 := ⟨56, 28, R_Mo, "PhotoModelsModel", F_Mo, by decide +kernel, tx4 71 rfl rfl, i_Mo, rfl, rfl, by decide⟩
theorem d_Mo_close_4 : decode k_Mo_close.code 4 = .ok (.iload_n 1, 1) := by decide +kernel
theorem d_Mo_close_5 : decode k_Mo_close.code 5 = .ok (.iconst 0, 1) := by decide +kernel
theorem d_Mo_close_6 : decode k_Mo_close.code 6 = .ok (.bastore, 1) := by decide +kernel
theorem d_Mo_close_7 : decode k_Mo_close.code 7 = .ok (.aload_n 0, 1) := by decide +kernel
theorem g_Mo_close_8 : SiteG k_Mo_close 8 8 27 := ⟨59, 28, R_Mo, "PhotoModelsModel", F_Mo, by decide +kernel, tx4 72 rfl rfl, i_Mo, rfl, rfl, by decide⟩
theorem d_Mo_close_11 : decode k_Mo_close.code 11 = .ok (.iload_n 1, 1) := by decide +kernel
theorem d_Mo_close_12 : decode k_Mo_close.code 12 = .ok (.iconst 1, 1) := by decide +kernel
theorem d_Mo_close_13 : decode k_Mo_close.code 13 = .ok (.bastore, 1) := by decide +kernel
theorem d_Mo_close_14 : decode k_Mo_close.code 14 = .ok (.iconst 1, 1) := by decide +kernel
theorem d_Mo_close_15 : decode k_Mo_close.code 15 = .ok (.istore_n 2, 1) := by decide +kernel
theorem d_Mo_close_16 : decode k_Mo_close.code 16 = .ok (.iload_n 2, 1) := by decide +kernel
theorem d_Mo_close_17 : decode k_Mo_close.code 17 = .ok (.ifCond .eq 146, 3) := by decide +kernel
theorem d_Mo_close_20 : decode k_Mo_close.code 20 = .ok (.iconst 0, 1) := by decide +kernel
theorem d_Mo_close_21 : decode k_Mo_close.code 21 = .ok (.istore_n 2, 1) := by decide +kernel
theorem d_Mo_close_22 : decode k_Mo_close.code 22 = .ok (.iconst 0, 1) := by decide +kernel
theorem d_Mo_close_23 : decode k_Mo_close.code 23 = .ok (.istore_n 3, 1) := by decide +kernel
theorem d_Mo_close_24 : decode k_Mo_close.code 24 = .ok (.iload_n 3, 1) := by decide +kernel
theorem d_Mo_close_25 : decode k_Mo_close.code 25 = .ok (.sipush 400, 3) := by decide +kernel
theorem d_Mo_close_28 : decode k_Mo_close.code 28 = .ok (.if_icmp .ge 132, 3) := by decide +kernel
theorem d_Mo_close_31 : decode k_Mo_close.code 31 = .ok (.iload_n 3, 1) := by decide +kernel
theorem d_Mo_close_32 : decode k_Mo_close.code 32 = .ok (.bipush 20, 2) := by decide +kernel
theorem d_Mo_close_34 : decode k_Mo_close.code 34 = .ok (.irem, 1) := by decide +kernel
theorem d_Mo_close_35 : decode k_Mo_close.code 35 = .ok (.istore 4, 2) := by decide +kernel
theorem d_Mo_close_37 : decode k_Mo_close.code 37 = .ok (.iload_n 3, 1) := by decide +kernel
theorem d_Mo_close_38 : decode k_Mo_close.code 38 = .ok (.bipush 20, 2) := by decide +kernel
theorem d_Mo_close_40 : decode k_Mo_close.code 40 = .ok (.idiv, 1) := by decide +kernel
theorem d_Mo_close_41 : decode k_Mo_close.code 41 = .ok (.istore 5, 2) := by decide +kernel
theorem d_Mo_close_43 : decode k_Mo_close.code 43 = .ok (.aload_n 0, 1) := by decide +kernel
theorem g_Mo_close_44 : SiteG k_Mo_close 44 8 27 := ⟨59, 28, R_Mo, "PhotoModelsModel", F_Mo, by decide +kernel, tx4 72 rfl rfl, i_Mo, rfl, rfl, by decide⟩
theorem d_Mo_close_47 : decode k_Mo_close.code 47 = .ok (.iload_n 3, 1) := by decide +kernel
theorem d_Mo_close_48 : decode k_Mo_close.code 48 = .ok (.baload, 1) := by decide +kernel
theorem d_Mo_close_49 : decode k_Mo_close.code 49 = .ok (.ifCond .eq 105, 3) := by decide +kernel
theorem d_Mo_close_52 : decode k_Mo_close.code 52 = .ok (.iload_n 2, 1) := by decide +kernel
theorem d_Mo_close_53 : decode k_Mo_close.code 53 = .ok (.ifCond .ne 55, 3) := by decide +kernel
theorem d_Mo_close_56 : decode k_Mo_close.code 56 = .ok (.aload_n 0, 1) := by decide +kernel
theorem d_Mo_close_57 : decode k_Mo_close.code 57 = .ok (.iload 4, 2) := by decide +kernel
theorem d_Mo_close_59 : decode k_Mo_close.code 59 = .ok (.iconst 1, 1) := by decide +kernel
theorem d_Mo_close_60 : decode k_Mo_close.code 60 = .ok (.isub, 1) := by decide +kernel
theorem d_Mo_close_61 : decode k_Mo_close.code 61 = .ok (.iload 5, 2) := by decide +kernel
theorem s_Mo_close_63 : SiteV k_Mo_close k_Mo_isOpen 63 8 2 := ⟨197, (R_Mo, F_Mo, 28), by decide +kernel, ⟨kw_Mo_isOpen, tx1 10 rfl rfl, by decide, by decide⟩, tx5 71 rfl rfl, tx5 73 rfl rfl, twp 43 rfl rfl, rfl, ⟨by decide +kernel, by decide +kernel⟩, np_Mo_isOpen⟩
theorem d_Mo_close_66 : decode k_Mo_close.code 66 = .ok (.ifCond .ne 42, 3) := by decide +kernel
theorem d_Mo_close_69 : decode k_Mo_close.code 69 = .ok (.aload_n 0, 1) := by decide +kernel
theorem d_Mo_close_70 : decode k_Mo_close.code 70 = .ok (.iload 4, 2) := by decide +kernel
theorem d_Mo_close_72 : decode k_Mo_close.code 72 = .ok (.iconst 1, 1) := by decide +kernel
theorem d_Mo_close_73 : decode k_Mo_close.code 73 = .ok (.iadd, 1) := by decide +kernel
theorem d_Mo_close_74 : decode k_Mo_close.code 74 = .ok (.iload 5, 2) := by decide +kernel
theorem s_Mo_close_76 : SiteV k_Mo_close k_Mo_isOpen 76 8 2 := ⟨197, (R_Mo, F_Mo, 28), by decide +kernel, ⟨kw_Mo_isOpen, tx1 10 rfl rfl, by decide, by decide⟩, tx5 71 rfl rfl, tx5 73 rfl rfl, twp 43 rfl rfl, rfl, ⟨by decide +kernel, by decide +kernel⟩, np_Mo_isOpen⟩
theorem d_Mo_close_79 : decode k_Mo_close.code 79 = .ok (.ifCond .ne 29, 3) := by decide +kernel
theorem d_Mo_close_82 : decode k_Mo_close.code 82 = .ok (.aload_n 0, 1) := by decide +kernel
theorem d_Mo_close_83 : decode k_Mo_close.code 83 = .ok (.iload 4, 2) := by decide +kernel
theorem d_Mo_close_85 : decode k_Mo_close.code 85 = .ok (.iload 5, 2) := by decide +kernel
theorem d_Mo_close_87 : decode k_Mo_close.code 87 = .ok (.iconst 1, 1) := by decide +kernel
theorem d_Mo_close_88 : decode k_Mo_close.code 88 = .ok (.isub, 1) := by decide +kernel
theorem s_Mo_close_89 : SiteV k_Mo_close k_Mo_isOpen 89 8 2 := ⟨197, (R_Mo, F_Mo, 28), by decide +kernel, ⟨kw_Mo_isOpen, tx1 10 rfl rfl, by decide, by decide⟩, tx5 71 rfl rfl, tx5 73 rfl rfl, twp 43 rfl rfl, rfl, ⟨by decide +kernel, by decide +kernel⟩, np_Mo_isOpen⟩
theorem d_Mo_close_92 : decode k_Mo_close.code 92 = .ok (.ifCond .ne 16, 3) := by decide +kernel
theorem d_Mo_close_95 : decode k_Mo_close.code 95 = .ok (.aload_n 0, 1) := by decide +kernel
theorem d_Mo_close_96 : decode k_Mo_close.code 96 = .ok (.iload 4, 2) := by decide +kernel
theorem d_Mo_close_98 : decode k_Mo_close.code 98 = .ok (.iload 5, 2) := by decide +kernel
theorem d_Mo_close_100 : decode k_Mo_close.code 100 = .ok (.iconst 1, 1) := by decide +kernel
theorem d_Mo_close_101 : decode k_Mo_close.code 101 = .ok (.iadd, 1) := by decide +kernel
theorem s_Mo_close_102 : SiteV k_Mo_close k_Mo_isOpen 102 8 2 := ⟨197, (R_Mo, F_Mo, 28), by decide +kernel, ⟨kw_Mo_isOpen, tx1 10 rfl rfl, by decide, by decide⟩, tx5 71 rfl rfl, tx5 73 rfl rfl, twp 43 rfl rfl, rfl, ⟨by decide +kernel, by decide +kernel⟩, np_Mo_isOpen⟩
theorem d_Mo_close_105 : decode k_Mo_close.code 105 = .ok (.ifCond .eq 7, 3) := by decide +kernel
theorem d_Mo_close_108 : decode k_Mo_close.code 108 = .ok (.iconst 1, 1) := by decide +kernel
theorem d_Mo_close_109 : decode k_Mo_close.code 109 = .ok (.goto 4, 3) := by decide +kernel
theorem d_Mo_close_112 : decode k_Mo_close.code 112 = .ok (.iconst 0, 1) := by decide +kernel
theorem d_Mo_close_113 : decode k_Mo_close.code 113 = .ok (.istore_n 2, 1) := by decide +kernel
theorem d_Mo_close_114 : decode k_Mo_close.code 114 = .ok (.aload_n 0, 1) := by decide +kernel
theorem d_Mo_close_115 : decode k_Mo_close.code 115 = .ok (.iload 4, 2) := by decide +kernel
theorem d_Mo_close_117 : decode k_Mo_close.code 117 = .ok (.iconst 1, 1) := by decide +kernel
theorem d_Mo_close_118 : decode k_Mo_close.code 118 = .ok (.isub, 1) := by decide +kernel
theorem d_Mo_close_119 : decode k_Mo_close.code 119 = .ok (.iload 5, 2) := by decide +kernel
theorem s_Mo_close_121 : SiteV k_Mo_close k_Mo_mark 121 8 2 := ⟨200, (R_Mo, F_Mo, 28), by decide +kernel, ⟨kw_Mo_mark, tx1 10 rfl rfl, by decide, by decide⟩, tx5 75 rfl rfl, tx5 77 rfl rfl, twp 44 rfl rfl, rfl, ⟨by decide +kernel, by decide +kernel⟩, np_Mo_mark⟩
theorem d_Mo_close_124 : decode k_Mo_close.code 124 = .ok (.aload_n 0, 1) := by decide +kernel
theorem d_Mo_close_125 : decode k_Mo_close.code 125 = .ok (.iload 4, 2) := by decide +kernel
theorem d_Mo_close_127 : decode k_Mo_close.code 127 = .ok (.iconst 1, 1) := by decide +kernel
theorem d_Mo_close_128 : decode k_Mo_close.code 128 = .ok (.iadd, 1) := by decide +kernel
theorem d_Mo_close_129 : decode k_Mo_close.code 129 = .ok (.iload 5, 2) := by decide +kernel
theorem s_Mo_close_131 : SiteV k_Mo_close k_Mo_mark 131 8 2 := ⟨200, (R_Mo, F_Mo, 28), by decide +kernel, ⟨kw_Mo_mark, tx1 10 rfl rfl, by decide, by decide⟩, tx5 75 rfl rfl, tx5 77 rfl rfl, twp 44 rfl rfl, rfl, ⟨by decide +kernel, by decide +kernel⟩, np_Mo_mark⟩
theorem d_Mo_close_134 : decode k_Mo_close.code 134 = .ok (.aload_n 0, 1) := by decide +kernel
theorem d_Mo_close_135 : decode k_Mo_close.code 135 = .ok (.iload 4, 2) := by decide +kernel
theorem d_Mo_close_137 : decode k_Mo_close.code 137 = .ok (.iload 5, 2) := by decide +kernel
theorem d_Mo_close_139 : decode k_Mo_close.code 139 = .ok (.iconst 1, 1) := by decide +kernel
theorem d_Mo_close_140 : decode k_Mo_close.code 140 = .ok (.isub, 1) := by decide +kernel
theorem s_Mo_close_141 : SiteV k_Mo_close k_Mo_mark 141 8 2 := ⟨200, (R_Mo, F_Mo, 28), by decide +kernel, ⟨kw_Mo_mark, tx1 10 rfl rfl, by decide, by decide⟩, tx5 75 rfl rfl, tx5 77 rfl rfl, twp 44 rfl rfl, rfl, ⟨by decide +kernel, by decide +kernel⟩, np_Mo_mark⟩
theorem d_Mo_close_144 : decode k_Mo_close.code 144 = .ok (.aload_n 0, 1) := by decide +kernel
theorem d_Mo_close_145 : decode k_Mo_close.code 145 = .ok (.iload 4, 2) := by decide +kernel
theorem d_Mo_close_147 : decode k_Mo_close.code 147 = .ok (.iload 5, 2) := by decide +kernel
theorem d_Mo_close_149 : decode k_Mo_close.code 149 = .ok (.iconst 1, 1) := by decide +kernel
theorem d_Mo_close_150 : decode k_Mo_close.code 150 = .ok (.iadd, 1) := by decide +kernel
theorem s_Mo_close_151 : SiteV k_Mo_close k_Mo_mark 151 8 2 := ⟨200, (R_Mo, F_Mo, 28), by decide +kernel, ⟨kw_Mo_mark, tx1 10 rfl rfl, by decide, by decide⟩, tx5 75 rfl rfl, tx5 77 rfl rfl, twp 44 rfl rfl, rfl, ⟨by decide +kernel, by decide +kernel⟩, np_Mo_mark⟩
theorem d_Mo_close_154 : decode k_Mo_close.code 154 = .ok (.iinc 3 1, 3) := by decide +kernel
theorem d_Mo_close_157 : decode k_Mo_close.code 157 = .ok (.goto (-133), 3) := by decide +kernel
theorem d_Mo_close_160 : decode k_Mo_close.code 160 = .ok (.goto (-144), 3) := by decide +kernel
theorem d_Mo_close_163 : decode k_Mo_close.code 163 = .ok (.return_, 1) := by decide +kernel
theorem d_Mo_isOpen_0 : decode k_Mo_isOpen.code 0 = .ok (.aload_n 0, 1) := by decide +kernel
theorem d_Mo_isOpen_1 : decode k_Mo_isOpen.code 1 = .ok (.iload_n 1, 1) := by decide +kernel
theorem d_Mo_isOpen_2 : decode k_Mo_isOpen.code 2 = .ok (.iload_n 2, 1) := by decide +kernel
theorem s_Mo_isOpen_3 : SiteV k_Mo_isOpen k_Mo_isCell 3 8 2 := ⟨87, (R_Mo, F_Mo, 28), by decide +kernel, ⟨kw_Mo_isCell, tx1 10 rfl rfl, by decide, by decide⟩, tx4 144 rfl rfl, tx4 146 rfl rfl, twp 22 rfl rfl, rfl, ⟨by decide +kernel, by decide +kernel⟩, np_Mo_isCell⟩
theorem d_Mo_isOpen_6 : decode k_Mo_isOpen.code 6 = .ok (.ifCond .eq 21, 3) := by decide +kernel
theorem d_Mo_isOpen_9 : decode k_Mo_isOpen.code 9 = .ok (.aload_n 0, 1) := by decide +kernel
theorem g_Mo_isOpen_10 : SiteG k_Mo_isOpen 10 8 26 := ⟨56, 28, R_Mo, "PhotoModelsModel", F_Mo, by decide +kernel, tx4 71 rfl rfl, i_Mo, rfl, rfl, by decide⟩
theorem d_Mo_isOpen_13 : decode k_Mo_isOpen.code 13 = .ok (.bipush 20, 2) := by decide +kernel
theorem d_Mo_isOpen_15 : decode k_Mo_isOpen.code 15 = .ok (.iload_n 2, 1) := by decide +kernel
theorem d_Mo_isOpen_16 : decode k_Mo_isOpen.code 16 = .ok (.imul, 1) := by decide +kernel
theorem d_Mo_isOpen_17 : decode k_Mo_isOpen.code 17 = .ok (.iload_n 1, 1) := by decide +kernel
theorem d_Mo_isOpen_18 : decode k_Mo_isOpen.code 18 = .ok (.iadd, 1) := by decide +kernel
theorem d_Mo_isOpen_19 : decode k_Mo_isOpen.code 19 = .ok (.baload, 1) := by decide +kernel
theorem d_Mo_isOpen_20 : decode k_Mo_isOpen.code 20 = .ok (.ifCond .eq 7, 3) := by decide +kernel
theorem d_Mo_isOpen_23 : decode k_Mo_isOpen.code 23 = .ok (.iconst 1, 1) := by decide +kernel
theorem d_Mo_isOpen_24 : decode k_Mo_isOpen.code 24 = .ok (.goto 4, 3) := by decide +kernel
theorem d_Mo_isOpen_27 : decode k_Mo_isOpen.code 27 = .ok (.iconst 0, 1) := by decide +kernel
theorem d_Mo_isOpen_28 : decode k_Mo_isOpen.code 28 = .ok (.ireturn, 1) := by decide +kernel
theorem d_Mo_mark_0 : decode k_Mo_mark.code 0 = .ok (.aload_n 0, 1) := by decide +kernel
theorem d_Mo_mark_1 : decode k_Mo_mark.code 1 = .ok (.iload_n 1, 1) := by decide +kernel
theorem d_Mo_mark_2 : decode k_Mo_mark.code 2 = .ok (.iload_n 2, 1) := by decide +kernel
theorem s_Mo_mark_3 : SiteV k_Mo_mark k_Mo_isOpen 3 8 2 := ⟨197, (R_Mo, F_Mo, 28), by decide +kernel, ⟨kw_Mo_isOpen, tx1 10 rfl rfl, by decide, by decide⟩, tx5 71 rfl rfl, tx5 73 rfl rfl, twp 43 rfl rfl, rfl, ⟨by decide +kernel, by decide +kernel⟩, np_Mo_isOpen⟩
theorem d_Mo_mark_6 : decode k_Mo_mark.code 6 = .ok (.ifCond .eq 27, 3) := by decide +kernel
theorem d_Mo_mark_9 : decode k_Mo_mark.code 9 = .ok (.aload_n 0, 1) := by decide +kernel
theorem g_Mo_mark_10 : SiteG k_Mo_mark 10 8 26 := ⟨56, 28, R_Mo, "PhotoModelsModel", F_Mo, by decide +kernel, tx4 71 rfl rfl, i_Mo, rfl, rfl, by decide⟩
theorem d_Mo_mark_13 : decode k_Mo_mark.code 13 = .ok (.bipush 20, 2) := by decide +kernel
theorem d_Mo_mark_15 : decode k_Mo_mark.code 15 = .ok (.iload_n 2, 1) := by decide +kernel
theorem d_Mo_mark_16 : decode k_Mo_mark.code 16 = .ok (.imul, 1) := by decide +kernel
theorem d_Mo_mark_17 : decode k_Mo_mark.code 17 = .ok (.iload_n 1, 1) := by decide +kernel
theorem d_Mo_mark_18 : decode k_Mo_mark.code 18 = .ok (.iadd, 1) := by decide +kernel
theorem d_Mo_mark_19 : decode k_Mo_mark.code 19 = .ok (.iconst 0, 1) := by decide +kernel
theorem d_Mo_mark_20 : decode k_Mo_mark.code 20 = .ok (.bastore, 1) := by decide +kernel
theorem d_Mo_mark_21 : decode k_Mo_mark.code 21 = .ok (.aload_n 0, 1) := by decide +kernel
theorem g_Mo_mark_22 : SiteG k_Mo_mark 22 8 27 := ⟨59, 28, R_Mo, "PhotoModelsModel", F_Mo, by decide +kernel, tx4 72 rfl rfl, i_Mo, rfl, rfl, by decide⟩
theorem d_Mo_mark_25 : decode k_Mo_mark.code 25 = .ok (.bipush 20, 2) := by decide +kernel
theorem d_Mo_mark_27 : decode k_Mo_mark.code 27 = .ok (.iload_n 2, 1) := by decide +kernel
theorem d_Mo_mark_28 : decode k_Mo_mark.code 28 = .ok (.imul, 1) := by decide +kernel
theorem d_Mo_mark_29 : decode k_Mo_mark.code 29 = .ok (.iload_n 1, 1) := by decide +kernel
theorem d_Mo_mark_30 : decode k_Mo_mark.code 30 = .ok (.iadd, 1) := by decide +kernel
theorem d_Mo_mark_31 : decode k_Mo_mark.code 31 = .ok (.iconst 1, 1) := by decide +kernel
theorem d_Mo_mark_32 : decode k_Mo_mark.code 32 = .ok (.bastore, 1) := by decide +kernel
theorem d_Mo_mark_33 : decode k_Mo_mark.code 33 = .ok (.return_, 1) := by decide +kernel
theorem d_Mo_count_0 : decode k_Mo_count.code 0 = .ok (.aload_n 0, 1) := by decide +kernel
theorem d_Mo_count_1 : decode k_Mo_count.code 1 = .ok (.iload_n 1, 1) := by decide +kernel
theorem d_Mo_count_2 : decode k_Mo_count.code 2 = .ok (.iconst 0, 1) := by decide +kernel
theorem d_Mo_count_3 : decode k_Mo_count.code 3 = .ok (.iconst 4, 1) := by decide +kernel
theorem s_Mo_count_4 : SiteS k_Mo_count k_Mo_within 4 3 := ⟨76, by decide +kernel, ⟨kw_Mo_within, tx1 10 rfl rfl, by decide, by decide⟩, Or.inl (tx4 141 rfl rfl), tx4 142 rfl rfl, ⟨by decide +kernel, by decide +kernel⟩, np_Mo_within⟩
theorem d_Mo_count_7 : decode k_Mo_count.code 7 = .ok (.iconst 1, 1) := by decide +kernel
theorem d_Mo_count_8 : decode k_Mo_count.code 8 = .ok (.iconst 1, 1) := by decide +kernel
theorem s_Mo_count_9 : SiteV k_Mo_count k_Mo_goes 9 8 3 := ⟨91, (R_Mo, F_Mo, 28), by decide +kernel, ⟨kw_Mo_goes, tx1 10 rfl rfl, by decide, by decide⟩, tx4 148 rfl rfl, tx4 150 rfl rfl, twp 23 rfl rfl, rfl, ⟨by decide +kernel, by decide +kernel⟩, np_Mo_goes⟩
theorem d_Mo_count_12 : decode k_Mo_count.code 12 = .ok (.ifCond .ne 5, 3) := by decide +kernel
theorem d_Mo_count_15 : decode k_Mo_count.code 15 = .ok (.iconst 0, 1) := by decide +kernel
theorem d_Mo_count_16 : decode k_Mo_count.code 16 = .ok (.ireturn, 1) := by decide +kernel
theorem d_Mo_count_17 : decode k_Mo_count.code 17 = .ok (.iconst 0, 1) := by decide +kernel
theorem d_Mo_count_18 : decode k_Mo_count.code 18 = .ok (.istore_n 2, 1) := by decide +kernel
theorem d_Mo_count_19 : decode k_Mo_count.code 19 = .ok (.iconst 0, 1) := by decide +kernel
theorem d_Mo_count_20 : decode k_Mo_count.code 20 = .ok (.istore_n 3, 1) := by decide +kernel
theorem d_Mo_count_21 : decode k_Mo_count.code 21 = .ok (.iload_n 3, 1) := by decide +kernel
theorem d_Mo_count_22 : decode k_Mo_count.code 22 = .ok (.aload_n 0, 1) := by decide +kernel
theorem g_Mo_count_23 : SiteG k_Mo_count 23 8 7 := ⟨80, 28, R_Mo, "PhotoModelsModel", F_Mo, by decide +kernel, tx4 52 rfl rfl, i_Mo, rfl, rfl, by decide⟩
theorem d_Mo_count_26 : decode k_Mo_count.code 26 = .ok (.if_icmp .ge 26, 3) := by decide +kernel
theorem d_Mo_count_29 : decode k_Mo_count.code 29 = .ok (.aload_n 0, 1) := by decide +kernel
theorem g_Mo_count_30 : SiteG k_Mo_count 30 8 10 := ⟨22, 28, R_Mo, "PhotoModelsModel", F_Mo, by decide +kernel, tx4 55 rfl rfl, i_Mo, rfl, rfl, by decide⟩
theorem d_Mo_count_33 : decode k_Mo_count.code 33 = .ok (.iload_n 3, 1) := by decide +kernel
theorem d_Mo_count_34 : decode k_Mo_count.code 34 = .ok (.baload, 1) := by decide +kernel
theorem d_Mo_count_35 : decode k_Mo_count.code 35 = .ok (.ifCond .eq 9, 3) := by decide +kernel
theorem d_Mo_count_38 : decode k_Mo_count.code 38 = .ok (.iload_n 2, 1) := by decide +kernel
theorem d_Mo_count_39 : decode k_Mo_count.code 39 = .ok (.iconst 1, 1) := by decide +kernel
theorem d_Mo_count_40 : decode k_Mo_count.code 40 = .ok (.iadd, 1) := by decide +kernel
theorem d_Mo_count_41 : decode k_Mo_count.code 41 = .ok (.goto 4, 3) := by decide +kernel
theorem d_Mo_count_44 : decode k_Mo_count.code 44 = .ok (.iload_n 2, 1) := by decide +kernel
theorem d_Mo_count_45 : decode k_Mo_count.code 45 = .ok (.istore_n 2, 1) := by decide +kernel
theorem d_Mo_count_46 : decode k_Mo_count.code 46 = .ok (.iinc 3 1, 3) := by decide +kernel
theorem d_Mo_count_49 : decode k_Mo_count.code 49 = .ok (.goto (-28), 3) := by decide +kernel
theorem d_Mo_count_52 : decode k_Mo_count.code 52 = .ok (.iload_n 1, 1) := by decide +kernel
theorem d_Mo_count_53 : decode k_Mo_count.code 53 = .ok (.ifCond .ne 10, 3) := by decide +kernel
theorem d_Mo_count_56 : decode k_Mo_count.code 56 = .ok (.aload_n 0, 1) := by decide +kernel
theorem g_Mo_count_57 : SiteG k_Mo_count 57 8 1 := ⟨62, 28, R_Mo, "PhotoModelsModel", F_Mo, by decide +kernel, tx4 46 rfl rfl, i_Mo, rfl, rfl, by decide⟩
theorem d_Mo_count_60 : decode k_Mo_count.code 60 = .ok (.goto 40, 3) := by decide +kernel
theorem d_Mo_count_63 : decode k_Mo_count.code 63 = .ok (.iload_n 1, 1) := by decide +kernel
theorem d_Mo_count_64 : decode k_Mo_count.code 64 = .ok (.iconst 1, 1) := by decide +kernel
theorem d_Mo_count_65 : decode k_Mo_count.code 65 = .ok (.if_icmp .ne 10, 3) := by decide +kernel
theorem d_Mo_count_68 : decode k_Mo_count.code 68 = .ok (.aload_n 0, 1) := by decide +kernel
theorem g_Mo_count_69 : SiteG k_Mo_count 69 8 2 := ⟨66, 28, R_Mo, "PhotoModelsModel", F_Mo, by decide +kernel, tx4 47 rfl rfl, i_Mo, rfl, rfl, by decide⟩
theorem d_Mo_count_72 : decode k_Mo_count.code 72 = .ok (.goto 28, 3) := by decide +kernel
theorem d_Mo_count_75 : decode k_Mo_count.code 75 = .ok (.iload_n 1, 1) := by decide +kernel
theorem d_Mo_count_76 : decode k_Mo_count.code 76 = .ok (.iconst 2, 1) := by decide +kernel
theorem d_Mo_count_77 : decode k_Mo_count.code 77 = .ok (.if_icmp .ne 10, 3) := by decide +kernel
theorem d_Mo_count_80 : decode k_Mo_count.code 80 = .ok (.aload_n 0, 1) := by decide +kernel
theorem g_Mo_count_81 : SiteG k_Mo_count 81 8 7 := ⟨80, 28, R_Mo, "PhotoModelsModel", F_Mo, by decide +kernel, tx4 52 rfl rfl, i_Mo, rfl, rfl, by decide⟩
theorem d_Mo_count_84 : decode k_Mo_count.code 84 = .ok (.goto 16, 3) := by decide +kernel
theorem d_Mo_count_87 : decode k_Mo_count.code 87 = .ok (.iload_n 1, 1) := by decide +kernel
theorem d_Mo_count_88 : decode k_Mo_count.code 88 = .ok (.iconst 3, 1) := by decide +kernel
theorem d_Mo_count_89 : decode k_Mo_count.code 89 = .ok (.if_icmp .ne 10, 3) := by decide +kernel
theorem d_Mo_count_92 : decode k_Mo_count.code 92 = .ok (.aload_n 0, 1) := by decide +kernel
theorem g_Mo_count_93 : SiteG k_Mo_count 93 8 18 := ⟨168, 28, R_Mo, "PhotoModelsModel", F_Mo, by decide +kernel, tx4 63 rfl rfl, i_Mo, rfl, rfl, by decide⟩
theorem d_Mo_count_96 : decode k_Mo_count.code 96 = .ok (.goto 4, 3) := by decide +kernel
theorem d_Mo_count_99 : decode k_Mo_count.code 99 = .ok (.iload_n 2, 1) := by decide +kernel
theorem d_Mo_count_100 : decode k_Mo_count.code 100 = .ok (.ireturn, 1) := by decide +kernel
