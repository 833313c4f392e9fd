theorem d_Mo_init_0 : decode k_Mo_init.code 0 = .ok (.aload_n 0, 1) := by decide +kernel
theorem s_Mo_init_1 : SiteO k_Mo_init 1 := ⟨1, by decide +kernel, tx4 43 rfl rfl, tx1 25 rfl rfl, tx1 26 rfl rfl, by decide, by decide⟩
theorem d_Mo_init_4 : decode k_Mo_init.code 4 = .ok (.aload_n 0, 1) := by decide +kernel
theorem d_Mo_init_5 : decode k_Mo_init.code 5 = .ok (.sipush 1600, 3) := by decide +kernel
theorem d_Mo_init_8 : decode k_Mo_init.code 8 = .ok (.newarray .int, 2) := by decide +kernel
theorem p_Mo_init_10 : SiteP k_Mo_init 10 8 4 (.array .int) := ⟨7, 28, R_Mo, "PhotoModelsModel", F_Mo, t_Mo, t_Mo_ok, n_Mo, by decide +kernel, tx4 49 rfl rfl, i_Mo, rfl, Or.inr ⟨rfl, rfl, rfl⟩, rfl, by decide, rfl⟩
theorem d_Mo_init_13 : decode k_Mo_init.code 13 = .ok (.aload_n 0, 1) := by decide +kernel
theorem d_Mo_init_14 : decode k_Mo_init.code 14 = .ok (.iconst 3, 1) := by decide +kernel
theorem d_Mo_init_15 : decode k_Mo_init.code 15 = .ok (.newarray .int, 2) := by decide +kernel
theorem p_Mo_init_17 : SiteP k_Mo_init 17 8 6 (.array .int) := ⟨13, 28, R_Mo, "PhotoModelsModel", F_Mo, t_Mo, t_Mo_ok, n_Mo, by decide +kernel, tx4 51 rfl rfl, i_Mo, rfl, Or.inr ⟨rfl, rfl, rfl⟩, rfl, by decide, rfl⟩
theorem d_Mo_init_20 : decode k_Mo_init.code 20 = .ok (.aload_n 0, 1) := by decide +kernel
theorem d_Mo_init_21 : decode k_Mo_init.code 21 = .ok (.bipush 48, 2) := by decide +kernel
theorem d_Mo_init_23 : decode k_Mo_init.code 23 = .ok (.newarray .int, 2) := by decide +kernel
theorem p_Mo_init_25 : SiteP k_Mo_init 25 8 8 (.array .int) := ⟨16, 28, R_Mo, "PhotoModelsModel", F_Mo, t_Mo, t_Mo_ok, n_Mo, by decide +kernel, tx4 53 rfl rfl, i_Mo, rfl, Or.inr ⟨rfl, rfl, rfl⟩, rfl, by decide, rfl⟩
theorem d_Mo_init_28 : decode k_Mo_init.code 28 = .ok (.aload_n 0, 1) := by decide +kernel
theorem d_Mo_init_29 : decode k_Mo_init.code 29 = .ok (.bipush 48, 2) := by decide +kernel
theorem d_Mo_init_31 : decode k_Mo_init.code 31 = .ok (.newarray .int, 2) := by decide +kernel
theorem p_Mo_init_33 : SiteP k_Mo_init 33 8 9 (.array .int) := ⟨19, 28, R_Mo, "PhotoModelsModel", F_Mo, t_Mo, t_Mo_ok, n_Mo, by decide +kernel, tx4 54 rfl rfl, i_Mo, rfl, Or.inr ⟨rfl, rfl, rfl⟩, rfl, by decide, rfl⟩
theorem d_Mo_init_36 : decode k_Mo_init.code 36 = .ok (.aload_n 0, 1) := by decide +kernel
theorem d_Mo_init_37 : decode k_Mo_init.code 37 = .ok (.bipush 12, 2) := by decide +kernel
theorem d_Mo_init_39 : decode k_Mo_init.code 39 = .ok (.newarray .boolean, 2) := by decide +kernel
theorem p_Mo_init_41 : SiteP k_Mo_init 41 8 10 (.array .boolean) := ⟨22, 28, R_Mo, "PhotoModelsModel", F_Mo, t_Mo, t_Mo_ok, n_Mo, by decide +kernel, tx4 55 rfl rfl, i_Mo, rfl, Or.inr ⟨rfl, rfl, rfl⟩, rfl, by decide, rfl⟩
theorem d_Mo_init_44 : decode k_Mo_init.code 44 = .ok (.aload_n 0, 1) := by decide +kernel
theorem d_Mo_init_45 : decode k_Mo_init.code 45 = .ok (.bipush 24, 2) := by decide +kernel
theorem d_Mo_init_47 : decode k_Mo_init.code 47 = .ok (.newarray .int, 2) := by decide +kernel
theorem p_Mo_init_49 : SiteP k_Mo_init 49 8 11 (.array .int) := ⟨26, 28, R_Mo, "PhotoModelsModel", F_Mo, t_Mo, t_Mo_ok, n_Mo, by decide +kernel, tx4 56 rfl rfl, i_Mo, rfl, Or.inr ⟨rfl, rfl, rfl⟩, rfl, by decide, rfl⟩
theorem d_Mo_init_52 : decode k_Mo_init.code 52 = .ok (.aload_n 0, 1) := by decide +kernel
theorem d_Mo_init_53 : decode k_Mo_init.code 53 = .ok (.bipush 8, 2) := by decide +kernel
theorem d_Mo_init_55 : decode k_Mo_init.code 55 = .ok (.newarray .int, 2) := by decide +kernel
theorem p_Mo_init_57 : SiteP k_Mo_init 57 8 12 (.array .int) := ⟨29, 28, R_Mo, "PhotoModelsModel", F_Mo, t_Mo, t_Mo_ok, n_Mo, by decide +kernel, tx4 57 rfl rfl, i_Mo, rfl, Or.inr ⟨rfl, rfl, rfl⟩, rfl, by decide, rfl⟩
theorem d_Mo_init_60 : decode k_Mo_init.code 60 = .ok (.aload_n 0, 1) := by decide +kernel
theorem d_Mo_init_61 : decode k_Mo_init.code 61 = .ok (.bipush 24, 2) := by decide +kernel
theorem d_Mo_init_63 : decode k_Mo_init.code 63 = .ok (.newarray .int, 2) := by decide +kernel
theorem p_Mo_init_65 : SiteP k_Mo_init 65 8 13 (.array .int) := ⟨32, 28, R_Mo, "PhotoModelsModel", F_Mo, t_Mo, t_Mo_ok, n_Mo, by decide +kernel, tx4 58 rfl rfl, i_Mo, rfl, Or.inr ⟨rfl, rfl, rfl⟩, rfl, by decide, rfl⟩
theorem d_Mo_init_68 : decode k_Mo_init.code 68 = .ok (.aload_n 0, 1) := by decide +kernel
theorem d_Mo_init_69 : decode k_Mo_init.code 69 = .ok (.bipush 8, 2) := by decide +kernel
theorem d_Mo_init_71 : decode k_Mo_init.code 71 = .ok (.newarray .int, 2) := by decide +kernel
theorem p_Mo_init_73 : SiteP k_Mo_init 73 8 14 (.array .int) := ⟨35, 28, R_Mo, "PhotoModelsModel", F_Mo, t_Mo, t_Mo_ok, n_Mo, by decide +kernel, tx4 59 rfl rfl, i_Mo, rfl, Or.inr ⟨rfl, rfl, rfl⟩, rfl, by decide, rfl⟩
theorem d_Mo_init_76 : decode k_Mo_init.code 76 = .ok (.aload_n 0, 1) := by decide +kernel
theorem d_Mo_init_77 : decode k_Mo_init.code 77 = .ok (.bipush 10, 2) := by decide +kernel
theorem d_Mo_init_79 : decode k_Mo_init.code 79 = .ok (.newarray .int, 2) := by decide +kernel
theorem p_Mo_init_81 : SiteP k_Mo_init 81 8 19 (.array .int) := ⟨38, 28, R_Mo, "PhotoModelsModel", F_Mo, t_Mo, t_Mo_ok, n_Mo, by decide +kernel, tx4 64 rfl rfl, i_Mo, rfl, Or.inr ⟨rfl, rfl, rfl⟩, rfl, by decide, rfl⟩
theorem d_Mo_init_84 : decode k_Mo_init.code 84 = .ok (.aload_n 0, 1) := by decide +kernel
theorem d_Mo_init_85 : decode k_Mo_init.code 85 = .ok (.bipush 10, 2) := by decide +kernel
theorem d_Mo_init_87 : decode k_Mo_init.code 87 = .ok (.newarray .int, 2) := by decide +kernel
theorem p_Mo_init_89 : SiteP k_Mo_init 89 8 20 (.array .int) := ⟨41, 28, R_Mo, "PhotoModelsModel", F_Mo, t_Mo, t_Mo_ok, n_Mo, by decide +kernel, tx4 65 rfl rfl, i_Mo, rfl, Or.inr ⟨rfl, rfl, rfl⟩, rfl, by decide, rfl⟩
theorem d_Mo_init_92 : decode k_Mo_init.code 92 = .ok (.aload_n 0, 1) := by decide +kernel
theorem d_Mo_init_93 : decode k_Mo_init.code 93 = .ok (.bipush 10, 2) := by decide +kernel
theorem d_Mo_init_95 : decode k_Mo_init.code 95 = .ok (.newarray .int, 2) := by decide +kernel
theorem p_Mo_init_97 : SiteP k_Mo_init 97 8 21 (.array .int) := ⟨44, 28, R_Mo, "PhotoModelsModel", F_Mo, t_Mo, t_Mo_ok, n_Mo, by decide +kernel, tx4 66 rfl rfl, i_Mo, rfl, Or.inr ⟨rfl, rfl, rfl⟩, rfl, by decide, rfl⟩
theorem d_Mo_init_100 : decode k_Mo_init.code 100 = .ok (.aload_n 0, 1) := by decide +kernel
theorem d_Mo_init_101 : decode k_Mo_init.code 101 = .ok (.sipush 400, 3) := by decide +kernel
theorem d_Mo_init_104 : decode k_Mo_init.code 104 = .ok (.newarray .int, 2) := by decide +kernel
theorem p_Mo_init_106 : SiteP k_Mo_init 106 8 23 (.array .int) := ⟨47, 28, R_Mo, "PhotoModelsModel", F_Mo, t_Mo, t_Mo_ok, n_Mo, by decide +kernel, tx4 68 rfl rfl, i_Mo, rfl, Or.inr ⟨rfl, rfl, rfl⟩, rfl, by decide, rfl⟩
theorem d_Mo_init_109 : decode k_Mo_init.code 109 = .ok (.aload_n 0, 1) := by decide +kernel
theorem d_Mo_init_110 : decode k_Mo_init.code 110 = .ok (.sipush 400, 3) := by decide +kernel
theorem d_Mo_init_113 : decode k_Mo_init.code 113 = .ok (.newarray .int, 2) := by decide +kernel
theorem p_Mo_init_115 : SiteP k_Mo_init 115 8 24 (.array .int) := ⟨50, 28, R_Mo, "PhotoModelsModel", F_Mo, t_Mo, t_Mo_ok, n_Mo, by decide +kernel, tx4 69 rfl rfl, i_Mo, rfl, Or.inr ⟨rfl, rfl, rfl⟩, rfl, by decide, rfl⟩
theorem d_Mo_init_118 : decode k_Mo_init.code 118 = .ok (.aload_n 0, 1) := by decide +kernel
theorem d_Mo_init_119 : decode k_Mo_init.code 119 = .ok (.bipush 120, 2) := by decide +kernel
theorem d_Mo_init_121 : decode k_Mo_init.code 121 = .ok (.newarray .int, 2) := by decide +kernel
theorem p_Mo_init_123 : SiteP k_Mo_init 123 8 25 (.array .int) := ⟨53, 28, R_Mo, "PhotoModelsModel", F_Mo, t_Mo, t_Mo_ok, n_Mo, by decide +kernel, tx4 70 rfl rfl, i_Mo, rfl, Or.inr ⟨rfl, rfl, rfl⟩, rfl, by decide, rfl⟩
theorem d_Mo_init_126 : decode k_Mo_init.code 126 = .ok (.aload_n 0, 1) := by decide +kernel
theorem d_Mo_init_127 : decode k_Mo_init.code 127 = .ok (.sipush 400, 3) := by decide +kernel
theorem d_Mo_init_130 : decode k_Mo_init.code 130 = .ok (.newarray .boolean, 2) := by decide +kernel
theorem p_Mo_init_132 : SiteP k_Mo_init 132 8 26 (.array .boolean) := ⟨56, 28, R_Mo, "PhotoModelsModel", F_Mo, t_Mo, t_Mo_ok, n_Mo, by decide +kernel, tx4 71 rfl rfl, i_Mo, rfl, Or.inr ⟨rfl, rfl, rfl⟩, rfl, by decide, rfl⟩
theorem d_Mo_init_135 : decode k_Mo_init.code 135 = .ok (.aload_n 0, 1) := by decide +kernel
theorem d_Mo_init_136 : decode k_Mo_init.code 136 = .ok (.sipush 400, 3) := by decide +kernel
theorem d_Mo_init_139 : decode k_Mo_init.code 139 = .ok (.newarray .boolean, 2) := by decide +kernel
theorem p_Mo_init_141 : SiteP k_Mo_init 141 8 27 (.array .boolean) := ⟨59, 28, R_Mo, "PhotoModelsModel", F_Mo, t_Mo, t_Mo_ok, n_Mo, by decide +kernel, tx4 72 rfl rfl, i_Mo, rfl, Or.inr ⟨rfl, rfl, rfl⟩, rfl, by decide, rfl⟩
theorem d_Mo_init_144 : decode k_Mo_init.code 144 = .ok (.aload_n 0, 1) := by decide +kernel
theorem d_Mo_init_145 : decode k_Mo_init.code 145 = .ok (.iload_n 1, 1) := by decide +kernel
theorem d_Mo_init_146 : decode k_Mo_init.code 146 = .ok (.bipush 6, 2) := by decide +kernel
theorem d_Mo_init_148 : decode k_Mo_init.code 148 = .ok (.if_icmp .ge 8, 3) := by decide +kernel
theorem d_Mo_init_151 : decode k_Mo_init.code 151 = .ok (.bipush 6, 2) := by decide +kernel
theorem d_Mo_init_153 : decode k_Mo_init.code 153 = .ok (.goto 15, 3) := by decide +kernel
theorem d_Mo_init_156 : decode k_Mo_init.code 156 = .ok (.iload_n 1, 1) := by decide +kernel
theorem d_Mo_init_157 : decode k_Mo_init.code 157 = .ok (.bipush 20, 2) := by decide +kernel
theorem d_Mo_init_159 : decode k_Mo_init.code 159 = .ok (.if_icmp .le 8, 3) := by decide +kernel
theorem d_Mo_init_162 : decode k_Mo_init.code 162 = .ok (.bipush 20, 2) := by decide +kernel
theorem d_Mo_init_164 : decode k_Mo_init.code 164 = .ok (.goto 4, 3) := by decide +kernel
theorem d_Mo_init_167 : decode k_Mo_init.code 167 = .ok (.iload_n 1, 1) := by decide +kernel
theorem p_Mo_init_168 : SiteP k_Mo_init 168 8 1 .int := ⟨62, 28, R_Mo, "PhotoModelsModel", F_Mo, t_Mo, t_Mo_ok, n_Mo, by decide +kernel, tx4 46 rfl rfl, i_Mo, rfl, Or.inr ⟨rfl, rfl, rfl⟩, rfl, by decide, rfl⟩
theorem d_Mo_init_171 : decode k_Mo_init.code 171 = .ok (.aload_n 0, 1) := by decide +kernel
theorem d_Mo_init_172 : decode k_Mo_init.code 172 = .ok (.iload_n 2, 1) := by decide +kernel
theorem d_Mo_init_173 : decode k_Mo_init.code 173 = .ok (.bipush 6, 2) := by decide +kernel
theorem d_Mo_init_175 : decode k_Mo_init.code 175 = .ok (.if_icmp .ge 8, 3) := by decide +kernel
theorem d_Mo_init_178 : decode k_Mo_init.code 178 = .ok (.bipush 6, 2) := by decide +kernel
theorem d_Mo_init_180 : decode k_Mo_init.code 180 = .ok (.goto 15, 3) := by decide +kernel
theorem d_Mo_init_183 : decode k_Mo_init.code 183 = .ok (.iload_n 2, 1) := by decide +kernel
theorem d_Mo_init_184 : decode k_Mo_init.code 184 = .ok (.bipush 20, 2) := by decide +kernel
theorem d_Mo_init_186 : decode k_Mo_init.code 186 = .ok (.if_icmp .le 8, 3) := by decide +kernel
theorem d_Mo_init_189 : decode k_Mo_init.code 189 = .ok (.bipush 20, 2) := by decide +kernel
theorem d_Mo_init_191 : decode k_Mo_init.code 191 = .ok (.goto 4, 3) := by decide +kernel
theorem d_Mo_init_194 : decode k_Mo_init.code 194 = .ok (.iload_n 2, 1) := by decide +kernel
theorem p_Mo_init_195 : SiteP k_Mo_init 195 8 2 .int := ⟨66, 28, R_Mo, "PhotoModelsModel", F_Mo, t_Mo, t_Mo_ok, n_Mo, by decide +kernel, tx4 47 rfl rfl, i_Mo, rfl, Or.inr ⟨rfl, rfl, rfl⟩, rfl, by decide, rfl⟩
theorem d_Mo_init_198 : decode k_Mo_init.code 198 = .ok (.aload_n 0, 1) := by decide +kernel
theorem d_Mo_init_199 : decode k_Mo_init.code 199 = .ok (.iload_n 3, 1) := by decide +kernel
theorem d_Mo_init_200 : decode k_Mo_init.code 200 = .ok (.ifCond .ge 7, 3) := by decide +kernel
theorem d_Mo_init_203 : decode k_Mo_init.code 203 = .ok (.iconst 0, 1) := by decide +kernel
theorem d_Mo_init_204 : decode k_Mo_init.code 204 = .ok (.goto 15, 3) := by decide +kernel
theorem d_Mo_init_207 : decode k_Mo_init.code 207 = .ok (.iload_n 3, 1) := by decide +kernel
theorem d_Mo_init_208 : decode k_Mo_init.code 208 = .ok (.ldc 69, 2) := by decide +kernel
theorem c_Mo_init_208 : Cond.constant k_Mo_init.y.cls 69 65536 ∈ tw := tx4 44 rfl rfl
theorem d_Mo_init_210 : decode k_Mo_init.code 210 = .ok (.if_icmp .le 8, 3) := by decide +kernel
theorem d_Mo_init_213 : decode k_Mo_init.code 213 = .ok (.ldc 69, 2) := by decide +kernel
theorem c_Mo_init_213 : Cond.constant k_Mo_init.y.cls 69 65536 ∈ tw := tx4 44 rfl rfl
theorem d_Mo_init_215 : decode k_Mo_init.code 215 = .ok (.goto 4, 3) := by decide +kernel
theorem d_Mo_init_218 : decode k_Mo_init.code 218 = .ok (.iload_n 3, 1) := by decide +kernel
theorem p_Mo_init_219 : SiteP k_Mo_init 219 8 3 .int := ⟨70, 28, R_Mo, "PhotoModelsModel", F_Mo, t_Mo, t_Mo_ok, n_Mo, by decide +kernel, tx4 48 rfl rfl, i_Mo, rfl, Or.inr ⟨rfl, rfl, rfl⟩, rfl, by decide, rfl⟩
theorem d_Mo_init_222 : decode k_Mo_init.code 222 = .ok (.iconst 0, 1) := by decide +kernel
theorem d_Mo_init_223 : decode k_Mo_init.code 223 = .ok (.istore 4, 2) := by decide +kernel
theorem d_Mo_init_225 : decode k_Mo_init.code 225 = .ok (.iload 4, 2) := by decide +kernel
theorem d_Mo_init_227 : decode k_Mo_init.code 227 = .ok (.bipush 48, 2) := by decide +kernel
theorem d_Mo_init_229 : decode k_Mo_init.code 229 = .ok (.if_icmp .ge 17, 3) := by decide +kernel
theorem d_Mo_init_232 : decode k_Mo_init.code 232 = .ok (.aload_n 0, 1) := by decide +kernel
theorem g_Mo_init_233 : SiteG k_Mo_init 233 8 8 := ⟨16, 28, R_Mo, "PhotoModelsModel", F_Mo, by decide +kernel, tx4 53 rfl rfl, i_Mo, rfl, rfl, by decide⟩
theorem d_Mo_init_236 : decode k_Mo_init.code 236 = .ok (.iload 4, 2) := by decide +kernel
theorem d_Mo_init_238 : decode k_Mo_init.code 238 = .ok (.iconst (-1), 1) := by decide +kernel
theorem d_Mo_init_239 : decode k_Mo_init.code 239 = .ok (.iastore, 1) := by decide +kernel
theorem d_Mo_init_240 : decode k_Mo_init.code 240 = .ok (.iinc 4 1, 3) := by decide +kernel
theorem d_Mo_init_243 : decode k_Mo_init.code 243 = .ok (.goto (-18), 3) := by decide +kernel
theorem d_Mo_init_246 : decode k_Mo_init.code 246 = .ok (.return_, 1) := by decide +kernel
theorem d_Mo_thrown_0 : decode k_Mo_thrown.code 0 = .ok (.aload_n 0, 1) := by decide +kernel
theorem g_Mo_thrown_1 : SiteG k_Mo_thrown 1 8 0 := ⟨73, 28, R_Mo, "PhotoModelsModel", F_Mo, by decide +kernel, tx4 45 rfl rfl, i_Mo, rfl, rfl, by decide⟩
theorem d_Mo_thrown_4 : decode k_Mo_thrown.code 4 = .ok (.ireturn, 1) := by decide +kernel
theorem d_Mo_pixel_0 : decode k_Mo_pixel.code 0 = .ok (.aload_n 0, 1) := by decide +kernel
theorem d_Mo_pixel_1 : decode k_Mo_pixel.code 1 = .ok (.iload_n 1, 1) := by decide +kernel
theorem s_Mo_pixel_2 : SiteS k_Mo_pixel k_Mo_isPhoto 2 1 := ⟨83, by decide +kernel, ⟨kw_Mo_isPhoto, tx1 10 rfl rfl, by decide, by decide⟩, Or.inl (tx4 138 rfl rfl), tx4 139 rfl rfl, ⟨by decide +kernel, by decide +kernel⟩, np_Mo_isPhoto⟩
theorem d_Mo_pixel_5 : decode k_Mo_pixel.code 5 = .ok (.ifCond .eq 16, 3) := by decide +kernel
theorem d_Mo_pixel_8 : decode k_Mo_pixel.code 8 = .ok (.aload_n 0, 1) := by decide +kernel
theorem d_Mo_pixel_9 : decode k_Mo_pixel.code 9 = .ok (.iload_n 2, 1) := by decide +kernel
theorem d_Mo_pixel_10 : decode k_Mo_pixel.code 10 = .ok (.iload_n 3, 1) := by decide +kernel
theorem s_Mo_pixel_11 : SiteV k_Mo_pixel k_Mo_isCell 11 8 2 := ⟨87, (R_Mo, F_Mo, 28), by decide +kernel, ⟨kw_Mo_isCell, tx1 10 rfl rfl, by decide, by decide⟩, tx4 144 rfl rfl, tx4 146 rfl rfl, twp 22 rfl rfl, rfl, ⟨by decide +kernel, by decide +kernel⟩, np_Mo_isCell⟩
theorem d_Mo_pixel_14 : decode k_Mo_pixel.code 14 = .ok (.ifCond .eq 7, 3) := by decide +kernel
theorem d_Mo_pixel_17 : decode k_Mo_pixel.code 17 = .ok (.iconst 1, 1) := by decide +kernel
theorem d_Mo_pixel_18 : decode k_Mo_pixel.code 18 = .ok (.goto 4, 3) := by decide +kernel
theorem d_Mo_pixel_21 : decode k_Mo_pixel.code 21 = .ok (.iconst 0, 1) := by decide +kernel
theorem d_Mo_pixel_22 : decode k_Mo_pixel.code 22 = .ok (.iload 4, 2) := by decide +kernel
theorem d_Mo_pixel_24 : decode k_Mo_pixel.code 24 = .ok (.iconst 0, 1) := by decide +kernel
theorem d_Mo_pixel_25 : decode k_Mo_pixel.code 25 = .ok (.sipush 255, 3) := by decide +kernel
theorem s_Mo_pixel_28 : SiteS k_Mo_pixel k_Mo_within 28 3 := ⟨76, by decide +kernel, ⟨kw_Mo_within, tx1 10 rfl rfl, by decide, by decide⟩, Or.inl (tx4 141 rfl rfl), tx4 142 rfl rfl, ⟨by decide +kernel, by decide +kernel⟩, np_Mo_within⟩
theorem d_Mo_pixel_31 : decode k_Mo_pixel.code 31 = .ok (.iconst 1, 1) := by decide +kernel
theorem s_Mo_pixel_32 : SiteV k_Mo_pixel k_Mo_goes 32 8 3 := ⟨91, (R_Mo, F_Mo, 28), by decide +kernel, ⟨kw_Mo_goes, tx1 10 rfl rfl, by decide, by decide⟩, tx4 148 rfl rfl, tx4 150 rfl rfl, twp 23 rfl rfl, rfl, ⟨by decide +kernel, by decide +kernel⟩, np_Mo_goes⟩
theorem d_Mo_pixel_35 : decode k_Mo_pixel.code 35 = .ok (.ifCond .ne 5, 3) := by decide +kernel
theorem d_Mo_pixel_38 : decode k_Mo_pixel.code 38 = .ok (.iconst 0, 1) := by decide +kernel
theorem d_Mo_pixel_39 : decode k_Mo_pixel.code 39 = .ok (.ireturn, 1) := by decide +kernel
theorem d_Mo_pixel_40 : decode k_Mo_pixel.code 40 = .ok (.aload_n 0, 1) := by decide +kernel
theorem d_Mo_pixel_41 : decode k_Mo_pixel.code 41 = .ok (.iload_n 1, 1) := by decide +kernel
theorem d_Mo_pixel_42 : decode k_Mo_pixel.code 42 = .ok (.iload_n 2, 1) := by decide +kernel
theorem d_Mo_pixel_43 : decode k_Mo_pixel.code 43 = .ok (.iload_n 3, 1) := by decide +kernel
theorem s_Mo_pixel_44 : SiteV k_Mo_pixel k_Mo_valueOf 44 8 3 := ⟨95, (R_Mo, F_Mo, 28), by decide +kernel, ⟨kw_Mo_valueOf, tx1 10 rfl rfl, by decide, by decide⟩, tx4 152 rfl rfl, tx4 154 rfl rfl, twp 24 rfl rfl, rfl, ⟨by decide +kernel, by decide +kernel⟩, np_Mo_valueOf⟩
theorem d_Mo_pixel_47 : decode k_Mo_pixel.code 47 = .ok (.istore 5, 2) := by decide +kernel
theorem d_Mo_pixel_49 : decode k_Mo_pixel.code 49 = .ok (.aload_n 0, 1) := by decide +kernel
theorem g_Mo_pixel_50 : SiteG k_Mo_pixel 50 8 4 := ⟨7, 28, R_Mo, "PhotoModelsModel", F_Mo, by decide +kernel, tx4 49 rfl rfl, i_Mo, rfl, rfl, by decide⟩
theorem d_Mo_pixel_53 : decode k_Mo_pixel.code 53 = .ok (.sipush 400, 3) := by decide +kernel
theorem d_Mo_pixel_56 : decode k_Mo_pixel.code 56 = .ok (.iload_n 1, 1) := by decide +kernel
theorem d_Mo_pixel_57 : decode k_Mo_pixel.code 57 = .ok (.imul, 1) := by decide +kernel
theorem d_Mo_pixel_58 : decode k_Mo_pixel.code 58 = .ok (.bipush 20, 2) := by decide +kernel
theorem d_Mo_pixel_60 : decode k_Mo_pixel.code 60 = .ok (.iload_n 3, 1) := by decide +kernel
theorem d_Mo_pixel_61 : decode k_Mo_pixel.code 61 = .ok (.imul, 1) := by decide +kernel
theorem d_Mo_pixel_62 : decode k_Mo_pixel.code 62 = .ok (.iadd, 1) := by decide +kernel
theorem d_Mo_pixel_63 : decode k_Mo_pixel.code 63 = .ok (.iload_n 2, 1) := by decide +kernel
theorem d_Mo_pixel_64 : decode k_Mo_pixel.code 64 = .ok (.iadd, 1) := by decide +kernel
theorem d_Mo_pixel_65 : decode k_Mo_pixel.code 65 = .ok (.iload 4, 2) := by decide +kernel
theorem d_Mo_pixel_67 : decode k_Mo_pixel.code 67 = .ok (.iastore, 1) := by decide +kernel
theorem d_Mo_pixel_68 : decode k_Mo_pixel.code 68 = .ok (.iload 5, 2) := by decide +kernel
theorem d_Mo_pixel_70 : decode k_Mo_pixel.code 70 = .ok (.ireturn, 1) := by decide +kernel
theorem d_Mo_isPhoto_0 : decode k_Mo_isPhoto.code 0 = .ok (.iload_n 0, 1) := by decide +kernel
theorem d_Mo_isPhoto_1 : decode k_Mo_isPhoto.code 1 = .ok (.iconst 0, 1) := by decide +kernel
theorem d_Mo_isPhoto_2 : decode k_Mo_isPhoto.code 2 = .ok (.iconst 3, 1) := by decide +kernel
theorem s_Mo_isPhoto_3 : SiteS k_Mo_isPhoto k_Mo_within 3 3 := ⟨76, by decide +kernel, ⟨kw_Mo_within, tx1 10 rfl rfl, by decide, by decide⟩, Or.inl (tx4 141 rfl rfl), tx4 142 rfl rfl, ⟨by decide +kernel, by decide +kernel⟩, np_Mo_within⟩
theorem d_Mo_isPhoto_6 : decode k_Mo_isPhoto.code 6 = .ok (.ireturn, 1) := by decide +kernel
theorem d_Mo_within_0 : decode k_Mo_within.code 0 = .ok (.iload_n 0, 1) := by decide +kernel
theorem d_Mo_within_1 : decode k_Mo_within.code 1 = .ok (.iload_n 1, 1) := by decide +kernel
theorem d_Mo_within_2 : decode k_Mo_within.code 2 = .ok (.if_icmp .lt 12, 3) := by decide +kernel
theorem d_Mo_within_5 : decode k_Mo_within.code 5 = .ok (.iload_n 0, 1) := by decide +kernel
theorem d_Mo_within_6 : decode k_Mo_within.code 6 = .ok (.iload_n 2, 1) := by decide +kernel
theorem d_Mo_within_7 : decode k_Mo_within.code 7 = .ok (.if_icmp .gt 7, 3) := by decide +kernel
theorem d_Mo_within_10 : decode k_Mo_within.code 10 = .ok (.iconst 1, 1) := by decide +kernel
theorem d_Mo_within_11 : decode k_Mo_within.code 11 = .ok (.goto 4, 3) := by decide +kernel
theorem d_Mo_within_14 : decode k_Mo_within.code 14 = .ok (.iconst 0, 1) := by decide +kernel
theorem d_Mo_within_15 : decode k_Mo_within.code 15 = .ok (.ireturn, 1) := by decide +kernel
theorem d_Mo_isCell_0 : decode k_Mo_isCell.code 0 = .ok (.iload_n 1, 1) := by decide +kernel
theorem d_Mo_isCell_1 : decode k_Mo_isCell.code 1 = .ok (.iconst 0, 1) := by decide +kernel
theorem d_Mo_isCell_2 : decode k_Mo_isCell.code 2 = .ok (.aload_n 0, 1) := by decide +kernel
theorem g_Mo_isCell_3 : SiteG k_Mo_isCell 3 8 1 := ⟨62, 28, R_Mo, "PhotoModelsModel", F_Mo, by decide +kernel, tx4 46 rfl rfl, i_Mo, rfl, rfl, by decide⟩
theorem d_Mo_isCell_6 : decode k_Mo_isCell.code 6 = .ok (.iconst 1, 1) := by decide +kernel
theorem d_Mo_isCell_7 : decode k_Mo_isCell.code 7 = .ok (.isub, 1) := by decide +kernel
theorem s_Mo_isCell_8 : SiteS k_Mo_isCell k_Mo_within 8 3 := ⟨76, by decide +kernel, ⟨kw_Mo_within, tx1 10 rfl rfl, by decide, by decide⟩, Or.inl (tx4 141 rfl rfl), tx4 142 rfl rfl, ⟨by decide +kernel, by decide +kernel⟩, np_Mo_within⟩
theorem d_Mo_isCell_11 : decode k_Mo_isCell.code 11 = .ok (.ifCond .eq 21, 3) := by decide +kernel
theorem d_Mo_isCell_14 : decode k_Mo_isCell.code 14 = .ok (.iload_n 2, 1) := by decide +kernel
theorem d_Mo_isCell_15 : decode k_Mo_isCell.code 15 = .ok (.iconst 0, 1) := by decide +kernel
theorem d_Mo_isCell_16 : decode k_Mo_isCell.code 16 = .ok (.aload_n 0, 1) := by decide +kernel
theorem g_Mo_isCell_17 : SiteG k_Mo_isCell 17 8 2 := ⟨66, 28, R_Mo, "PhotoModelsModel", F_Mo, by decide +kernel, tx4 47 rfl rfl, i_Mo, rfl, rfl, by decide⟩
theorem d_Mo_isCell_20 : decode k_Mo_isCell.code 20 = .ok (.iconst 1, 1) := by decide +kernel
theorem d_Mo_isCell_21 : decode k_Mo_isCell.code 21 = .ok (.isub, 1) := by decide +kernel
theorem s_Mo_isCell_22 : SiteS k_Mo_isCell k_Mo_within 22 3 := ⟨76, by decide +kernel, ⟨kw_Mo_within, tx1 10 rfl rfl, by decide, by decide⟩, Or.inl (tx4 141 rfl rfl), tx4 142 rfl rfl, ⟨by decide +kernel, by decide +kernel⟩, np_Mo_within⟩
theorem d_Mo_isCell_25 : decode k_Mo_isCell.code 25 = .ok (.ifCond .eq 7, 3) := by decide +kernel
theorem d_Mo_isCell_28 : decode k_Mo_isCell.code 28 = .ok (.iconst 1, 1) := by decide +kernel
theorem d_Mo_isCell_29 : decode k_Mo_isCell.code 29 = .ok (.goto 4, 3) := by decide +kernel
theorem d_Mo_isCell_32 : decode k_Mo_isCell.code 32 = .ok (.iconst 0, 1) := by decide +kernel
theorem d_Mo_isCell_33 : decode k_Mo_isCell.code 33 = .ok (.ireturn, 1) := by decide +kernel
theorem d_Mo_goes_0 : decode k_Mo_goes.code 0 = .ok (.aload_n 0, 1) := by decide +kernel
theorem d_Mo_goes_1 : decode k_Mo_goes.code 1 = .ok (.iload_n 1, 1) := by decide +kernel
theorem d_Mo_goes_2 : decode k_Mo_goes.code 2 = .ok (.ifCond .ne 7, 3) := by decide +kernel
theorem d_Mo_goes_5 : decode k_Mo_goes.code 5 = .ok (.iconst 1, 1) := by decide +kernel
theorem d_Mo_goes_6 : decode k_Mo_goes.code 6 = .ok (.goto 20, 3) := by decide +kernel
theorem d_Mo_goes_9 : decode k_Mo_goes.code 9 = .ok (.iload_n 2, 1) := by decide +kernel
theorem d_Mo_goes_10 : decode k_Mo_goes.code 10 = .ok (.ifCond .ne 7, 3) := by decide +kernel
theorem d_Mo_goes_13 : decode k_Mo_goes.code 13 = .ok (.iconst 2, 1) := by decide +kernel
theorem d_Mo_goes_14 : decode k_Mo_goes.code 14 = .ok (.goto 12, 3) := by decide +kernel
theorem d_Mo_goes_17 : decode k_Mo_goes.code 17 = .ok (.iload_n 3, 1) := by decide +kernel
theorem d_Mo_goes_18 : decode k_Mo_goes.code 18 = .ok (.ifCond .ne 7, 3) := by decide +kernel
theorem d_Mo_goes_21 : decode k_Mo_goes.code 21 = .ok (.iconst 3, 1) := by decide +kernel
theorem d_Mo_goes_22 : decode k_Mo_goes.code 22 = .ok (.goto 4, 3) := by decide +kernel
theorem d_Mo_goes_25 : decode k_Mo_goes.code 25 = .ok (.iconst 0, 1) := by decide +kernel
theorem p_Mo_goes_26 : SiteP k_Mo_goes 26 8 0 .int := ⟨73, 28, R_Mo, "PhotoModelsModel", F_Mo, t_Mo, t_Mo_ok, n_Mo, by decide +kernel, tx4 45 rfl rfl, i_Mo, rfl, Or.inl rfl, rfl, by decide, rfl⟩
theorem d_Mo_goes_29 : decode k_Mo_goes.code 29 = .ok (.aload_n 0, 1) := by decide +kernel
theorem g_Mo_goes_30 : SiteG k_Mo_goes 30 8 0 := ⟨73, 28, R_Mo, "PhotoModelsModel", F_Mo, by decide +kernel, tx4 45 rfl rfl, i_Mo, rfl, rfl, by decide⟩
theorem d_Mo_goes_33 : decode k_Mo_goes.code 33 = .ok (.ifCond .ne 7, 3) := by decide +kernel
theorem d_Mo_goes_36 : decode k_Mo_goes.code 36 = .ok (.iconst 1, 1) := by decide +kernel
theorem d_Mo_goes_37 : decode k_Mo_goes.code 37 = .ok (.goto 4, 3) := by decide +kernel
theorem d_Mo_goes_40 : decode k_Mo_goes.code 40 = .ok (.iconst 0, 1) := by decide +kernel
theorem d_Mo_goes_41 : decode k_Mo_goes.code 41 = .ok (.ireturn, 1) := by decide +kernel
theorem d_Mo_valueOf_0 : decode k_Mo_valueOf.code 0 = .ok (.aload_n 0, 1) := by decide +kernel
theorem g_Mo_valueOf_1 : SiteG k_Mo_valueOf 1 8 4 := ⟨7, 28, R_Mo, "PhotoModelsModel", F_Mo, by decide +kernel, tx4 49 rfl rfl, i_Mo, rfl, rfl, by decide⟩
theorem d_Mo_valueOf_4 : decode k_Mo_valueOf.code 4 = .ok (.sipush 400, 3) := by decide +kernel
theorem d_Mo_valueOf_7 : decode k_Mo_valueOf.code 7 = .ok (.iload_n 1, 1) := by decide +kernel
theorem d_Mo_valueOf_8 : decode k_Mo_valueOf.code 8 = .ok (.imul, 1) := by decide +kernel
theorem d_Mo_valueOf_9 : decode k_Mo_valueOf.code 9 = .ok (.bipush 20, 2) := by decide +kernel
theorem d_Mo_valueOf_11 : decode k_Mo_valueOf.code 11 = .ok (.iload_n 3, 1) := by decide +kernel
theorem d_Mo_valueOf_12 : decode k_Mo_valueOf.code 12 = .ok (.imul, 1) := by decide +kernel
theorem d_Mo_valueOf_13 : decode k_Mo_valueOf.code 13 = .ok (.iadd, 1) := by decide +kernel
theorem d_Mo_valueOf_14 : decode k_Mo_valueOf.code 14 = .ok (.iload_n 2, 1) := by decide +kernel
theorem d_Mo_valueOf_15 : decode k_Mo_valueOf.code 15 = .ok (.iadd, 1) := by decide +kernel
theorem d_Mo_valueOf_16 : decode k_Mo_valueOf.code 16 = .ok (.iaload, 1) := by decide +kernel
theorem d_Mo_valueOf_17 : decode k_Mo_valueOf.code 17 = .ok (.ireturn, 1) := by decide +kernel
theorem d_Mo_match_0 : decode k_Mo_match.code 0 = .ok (.aload_n 0, 1) := by decide +kernel
theorem d_Mo_match_1 : decode k_Mo_match.code 1 = .ok (.iload_n 1, 1) := by decide +kernel
theorem s_Mo_match_2 : SiteS k_Mo_match k_Mo_isPhoto 2 1 := ⟨83, by decide +kernel, ⟨kw_Mo_isPhoto, tx1 10 rfl rfl, by decide, by decide⟩, Or.inl (tx4 138 rfl rfl), tx4 139 rfl rfl, ⟨by decide +kernel, by decide +kernel⟩, np_Mo_isPhoto⟩
theorem d_Mo_match_5 : decode k_Mo_match.code 5 = .ok (.ifCond .eq 43, 3) := by decide +kernel
theorem d_Mo_match_8 : decode k_Mo_match.code 8 = .ok (.iload_n 2, 1) := by decide +kernel
theorem s_Mo_match_9 : SiteS k_Mo_match k_Mo_isPhoto 9 1 := ⟨83, by decide +kernel, ⟨kw_Mo_isPhoto, tx1 10 rfl rfl, by decide, by decide⟩, Or.inl (tx4 138 rfl rfl), tx4 139 rfl rfl, ⟨by decide +kernel, by decide +kernel⟩, np_Mo_isPhoto⟩
theorem d_Mo_match_12 : decode k_Mo_match.code 12 = .ok (.ifCond .eq 36, 3) := by decide +kernel
theorem d_Mo_match_15 : decode k_Mo_match.code 15 = .ok (.iload_n 3, 1) := by decide +kernel
theorem d_Mo_match_16 : decode k_Mo_match.code 16 = .ok (.iconst 1, 1) := by decide +kernel
theorem d_Mo_match_17 : decode k_Mo_match.code 17 = .ok (.aload_n 0, 1) := by decide +kernel
theorem g_Mo_match_18 : SiteG k_Mo_match 18 8 1 := ⟨62, 28, R_Mo, "PhotoModelsModel", F_Mo, by decide +kernel, tx4 46 rfl rfl, i_Mo, rfl, rfl, by decide⟩
theorem d_Mo_match_21 : decode k_Mo_match.code 21 = .ok (.iconst 2, 1) := by decide +kernel
theorem d_Mo_match_22 : decode k_Mo_match.code 22 = .ok (.isub, 1) := by decide +kernel
theorem s_Mo_match_23 : SiteS k_Mo_match k_Mo_within 23 3 := ⟨76, by decide +kernel, ⟨kw_Mo_within, tx1 10 rfl rfl, by decide, by decide⟩, Or.inl (tx4 141 rfl rfl), tx4 142 rfl rfl, ⟨by decide +kernel, by decide +kernel⟩, np_Mo_within⟩
theorem d_Mo_match_26 : decode k_Mo_match.code 26 = .ok (.ifCond .eq 22, 3) := by decide +kernel
theorem d_Mo_match_29 : decode k_Mo_match.code 29 = .ok (.iload 4, 2) := by decide +kernel
theorem d_Mo_match_31 : decode k_Mo_match.code 31 = .ok (.iconst 1, 1) := by decide +kernel
theorem d_Mo_match_32 : decode k_Mo_match.code 32 = .ok (.aload_n 0, 1) := by decide +kernel
theorem g_Mo_match_33 : SiteG k_Mo_match 33 8 2 := ⟨66, 28, R_Mo, "PhotoModelsModel", F_Mo, by decide +kernel, tx4 47 rfl rfl, i_Mo, rfl, rfl, by decide⟩
theorem d_Mo_match_36 : decode k_Mo_match.code 36 = .ok (.iconst 2, 1) := by decide +kernel
theorem d_Mo_match_37 : decode k_Mo_match.code 37 = .ok (.isub, 1) := by decide +kernel
theorem s_Mo_match_38 : SiteS k_Mo_match k_Mo_within 38 3 := ⟨76, by decide +kernel, ⟨kw_Mo_within, tx1 10 rfl rfl, by decide, by decide⟩, Or.inl (tx4 141 rfl rfl), tx4 142 rfl rfl, ⟨by decide +kernel, by decide +kernel⟩, np_Mo_within⟩
theorem d_Mo_match_41 : decode k_Mo_match.code 41 = .ok (.ifCond .eq 7, 3) := by decide +kernel
theorem d_Mo_match_44 : decode k_Mo_match.code 44 = .ok (.iconst 1, 1) := by decide +kernel
theorem d_Mo_match_45 : decode k_Mo_match.code 45 = .ok (.goto 4, 3) := by decide +kernel
theorem d_Mo_match_48 : decode k_Mo_match.code 48 = .ok (.iconst 0, 1) := by decide +kernel
theorem d_Mo_match_49 : decode k_Mo_match.code 49 = .ok (.iconst 1, 1) := by decide +kernel
theorem d_Mo_match_50 : decode k_Mo_match.code 50 = .ok (.iconst 1, 1) := by decide +kernel
theorem s_Mo_match_51 : SiteV k_Mo_match k_Mo_goes 51 8 3 := ⟨91, (R_Mo, F_Mo, 28), by decide +kernel, ⟨kw_Mo_goes, tx1 10 rfl rfl, by decide, by decide⟩, tx4 148 rfl rfl, tx4 150 rfl rfl, twp 23 rfl rfl, rfl, ⟨by decide +kernel, by decide +kernel⟩, np_Mo_goes⟩
theorem d_Mo_match_54 : decode k_Mo_match.code 54 = .ok (.ifCond .ne 5, 3) := by decide +kernel
theorem d_Mo_match_57 : decode k_Mo_match.code 57 = .ok (.iconst 0, 1) := by decide +kernel
theorem d_Mo_match_58 : decode k_Mo_match.code 58 = .ok (.ireturn, 1) := by decide +kernel
theorem d_Mo_match_59 : decode k_Mo_match.code 59 = .ok (.iconst (-1), 1) := by decide +kernel
theorem d_Mo_match_60 : decode k_Mo_match.code 60 = .ok (.istore 5, 2) := by decide +kernel
theorem d_Mo_match_62 : decode k_Mo_match.code 62 = .ok (.iconst 1, 1) := by decide +kernel
theorem d_Mo_match_63 : decode k_Mo_match.code 63 = .ok (.istore 6, 2) := by decide +kernel
theorem d_Mo_match_65 : decode k_Mo_match.code 65 = .ok (.iload 6, 2) := by decide +kernel
theorem d_Mo_match_67 : decode k_Mo_match.code 67 = .ok (.aload_n 0, 1) := by decide +kernel
theorem g_Mo_match_68 : SiteG k_Mo_match 68 8 2 := ⟨66, 28, R_Mo, "PhotoModelsModel", F_Mo, by decide +kernel, tx4 47 rfl rfl, i_Mo, rfl, rfl, by decide⟩
theorem d_Mo_match_71 : decode k_Mo_match.code 71 = .ok (.iconst 1, 1) := by decide +kernel
theorem d_Mo_match_72 : decode k_Mo_match.code 72 = .ok (.isub, 1) := by decide +kernel
theorem d_Mo_match_73 : decode k_Mo_match.code 73 = .ok (.if_icmp .ge 77, 3) := by decide +kernel
theorem d_Mo_match_76 : decode k_Mo_match.code 76 = .ok (.iconst 1, 1) := by decide +kernel
theorem d_Mo_match_77 : decode k_Mo_match.code 77 = .ok (.istore 7, 2) := by decide +kernel
theorem d_Mo_match_79 : decode k_Mo_match.code 79 = .ok (.iload 7, 2) := by decide +kernel
theorem d_Mo_match_81 : decode k_Mo_match.code 81 = .ok (.aload_n 0, 1) := by decide +kernel
theorem g_Mo_match_82 : SiteG k_Mo_match 82 8 1 := ⟨62, 28, R_Mo, "PhotoModelsModel", F_Mo, by decide +kernel, tx4 46 rfl rfl, i_Mo, rfl, rfl, by decide⟩
theorem d_Mo_match_85 : decode k_Mo_match.code 85 = .ok (.iconst 1, 1) := by decide +kernel
theorem d_Mo_match_86 : decode k_Mo_match.code 86 = .ok (.isub, 1) := by decide +kernel
theorem d_Mo_match_87 : decode k_Mo_match.code 87 = .ok (.if_icmp .ge 57, 3) := by decide +kernel
theorem d_Mo_match_90 : decode k_Mo_match.code 90 = .ok (.aload_n 0, 1) := by decide +kernel
theorem d_Mo_match_91 : decode k_Mo_match.code 91 = .ok (.iload_n 1, 1) := by decide +kernel
theorem d_Mo_match_92 : decode k_Mo_match.code 92 = .ok (.iload_n 2, 1) := by decide +kernel
theorem d_Mo_match_93 : decode k_Mo_match.code 93 = .ok (.iload_n 3, 1) := by decide +kernel
theorem d_Mo_match_94 : decode k_Mo_match.code 94 = .ok (.iload 4, 2) := by decide +kernel
theorem d_Mo_match_96 : decode k_Mo_match.code 96 = .ok (.iload 7, 2) := by decide +kernel
theorem d_Mo_match_98 : decode k_Mo_match.code 98 = .ok (.iload 6, 2) := by decide +kernel
theorem s_Mo_match_100 : SiteV k_Mo_match k_Mo_missOf 100 8 6 := ⟨99, (R_Mo, F_Mo, 28), by decide +kernel, ⟨kw_Mo_missOf, tx1 10 rfl rfl, by decide, by decide⟩, tx4 160 rfl rfl, tx4 162 rfl rfl, twp 25 rfl rfl, rfl, ⟨by decide +kernel, by decide +kernel⟩, np_Mo_missOf⟩
theorem d_Mo_match_103 : decode k_Mo_match.code 103 = .ok (.istore 8, 2) := by decide +kernel
theorem d_Mo_match_105 : decode k_Mo_match.code 105 = .ok (.iload 5, 2) := by decide +kernel
theorem d_Mo_match_107 : decode k_Mo_match.code 107 = .ok (.iconst (-1), 1) := by decide +kernel
theorem d_Mo_match_108 : decode k_Mo_match.code 108 = .ok (.if_icmp .eq 10, 3) := by decide +kernel
theorem d_Mo_match_111 : decode k_Mo_match.code 111 = .ok (.iload 8, 2) := by decide +kernel
theorem d_Mo_match_113 : decode k_Mo_match.code 113 = .ok (.iload 5, 2) := by decide +kernel
theorem d_Mo_match_115 : decode k_Mo_match.code 115 = .ok (.if_icmp .ge 23, 3) := by decide +kernel
theorem d_Mo_match_118 : decode k_Mo_match.code 118 = .ok (.iload 8, 2) := by decide +kernel
theorem d_Mo_match_120 : decode k_Mo_match.code 120 = .ok (.istore 5, 2) := by decide +kernel
theorem d_Mo_match_122 : decode k_Mo_match.code 122 = .ok (.aload_n 0, 1) := by decide +kernel
theorem g_Mo_match_123 : SiteG k_Mo_match 123 8 6 := ⟨13, 28, R_Mo, "PhotoModelsModel", F_Mo, by decide +kernel, tx4 51 rfl rfl, i_Mo, rfl, rfl, by decide⟩
theorem d_Mo_match_126 : decode k_Mo_match.code 126 = .ok (.iconst 0, 1) := by decide +kernel
theorem d_Mo_match_127 : decode k_Mo_match.code 127 = .ok (.iload 7, 2) := by decide +kernel
theorem d_Mo_match_129 : decode k_Mo_match.code 129 = .ok (.iastore, 1) := by decide +kernel
theorem d_Mo_match_130 : decode k_Mo_match.code 130 = .ok (.aload_n 0, 1) := by decide +kernel
theorem g_Mo_match_131 : SiteG k_Mo_match 131 8 6 := ⟨13, 28, R_Mo, "PhotoModelsModel", F_Mo, by decide +kernel, tx4 51 rfl rfl, i_Mo, rfl, rfl, by decide⟩
theorem d_Mo_match_134 : decode k_Mo_match.code 134 = .ok (.iconst 1, 1) := by decide +kernel
theorem d_Mo_match_135 : decode k_Mo_match.code 135 = .ok (.iload 6, 2) := by decide +kernel
theorem d_Mo_match_137 : decode k_Mo_match.code 137 = .ok (.iastore, 1) := by decide +kernel
theorem d_Mo_match_138 : decode k_Mo_match.code 138 = .ok (.iinc 7 1, 3) := by decide +kernel
theorem d_Mo_match_141 : decode k_Mo_match.code 141 = .ok (.goto (-62), 3) := by decide +kernel
theorem d_Mo_match_144 : decode k_Mo_match.code 144 = .ok (.iinc 6 1, 3) := by decide +kernel
theorem d_Mo_match_147 : decode k_Mo_match.code 147 = .ok (.goto (-82), 3) := by decide +kernel
theorem d_Mo_match_150 : decode k_Mo_match.code 150 = .ok (.aload_n 0, 1) := by decide +kernel
theorem g_Mo_match_151 : SiteG k_Mo_match 151 8 6 := ⟨13, 28, R_Mo, "PhotoModelsModel", F_Mo, by decide +kernel, tx4 51 rfl rfl, i_Mo, rfl, rfl, by decide⟩
theorem d_Mo_match_154 : decode k_Mo_match.code 154 = .ok (.iconst 2, 1) := by decide +kernel
theorem d_Mo_match_155 : decode k_Mo_match.code 155 = .ok (.iconst (-1), 1) := by decide +kernel
theorem d_Mo_match_156 : decode k_Mo_match.code 156 = .ok (.iastore, 1) := by decide +kernel
theorem d_Mo_match_157 : decode k_Mo_match.code 157 = .ok (.iconst 1, 1) := by decide +kernel
theorem d_Mo_match_158 : decode k_Mo_match.code 158 = .ok (.istore 6, 2) := by decide +kernel
theorem d_Mo_match_160 : decode k_Mo_match.code 160 = .ok (.iload 6, 2) := by decide +kernel
theorem d_Mo_match_162 : decode k_Mo_match.code 162 = .ok (.aload_n 0, 1) := by decide +kernel
theorem g_Mo_match_163 : SiteG k_Mo_match 163 8 2 := ⟨66, 28, R_Mo, "PhotoModelsModel", F_Mo, by decide +kernel, tx4 47 rfl rfl, i_Mo, rfl, rfl, by decide⟩
theorem d_Mo_match_166 : decode k_Mo_match.code 166 = .ok (.iconst 1, 1) := by decide +kernel
theorem d_Mo_match_167 : decode k_Mo_match.code 167 = .ok (.isub, 1) := by decide +kernel
theorem d_Mo_match_168 : decode k_Mo_match.code 168 = .ok (.if_icmp .ge 124, 3) := by decide +kernel
theorem d_Mo_match_171 : decode k_Mo_match.code 171 = .ok (.iconst 1, 1) := by decide +kernel
theorem d_Mo_match_172 : decode k_Mo_match.code 172 = .ok (.istore 7, 2) := by decide +kernel
theorem d_Mo_match_174 : decode k_Mo_match.code 174 = .ok (.iload 7, 2) := by decide +kernel
theorem d_Mo_match_176 : decode k_Mo_match.code 176 = .ok (.aload_n 0, 1) := by decide +kernel
theorem g_Mo_match_177 : SiteG k_Mo_match 177 8 1 := ⟨62, 28, R_Mo, "PhotoModelsModel", F_Mo, by decide +kernel, tx4 46 rfl rfl, i_Mo, rfl, rfl, by decide⟩
theorem d_Mo_match_180 : decode k_Mo_match.code 180 = .ok (.iconst 1, 1) := by decide +kernel
theorem d_Mo_match_181 : decode k_Mo_match.code 181 = .ok (.isub, 1) := by decide +kernel
theorem d_Mo_match_182 : decode k_Mo_match.code 182 = .ok (.if_icmp .ge 104, 3) := by decide +kernel
theorem d_Mo_match_185 : decode k_Mo_match.code 185 = .ok (.aload_n 0, 1) := by decide +kernel
theorem d_Mo_match_186 : decode k_Mo_match.code 186 = .ok (.iload_n 1, 1) := by decide +kernel
theorem d_Mo_match_187 : decode k_Mo_match.code 187 = .ok (.iload_n 2, 1) := by decide +kernel
theorem d_Mo_match_188 : decode k_Mo_match.code 188 = .ok (.iload_n 3, 1) := by decide +kernel
theorem d_Mo_match_189 : decode k_Mo_match.code 189 = .ok (.iload 4, 2) := by decide +kernel
theorem d_Mo_match_191 : decode k_Mo_match.code 191 = .ok (.iload 7, 2) := by decide +kernel
theorem d_Mo_match_193 : decode k_Mo_match.code 193 = .ok (.iload 6, 2) := by decide +kernel
theorem s_Mo_match_195 : SiteV k_Mo_match k_Mo_missOf 195 8 6 := ⟨99, (R_Mo, F_Mo, 28), by decide +kernel, ⟨kw_Mo_missOf, tx1 10 rfl rfl, by decide, by decide⟩, tx4 160 rfl rfl, tx4 162 rfl rfl, twp 25 rfl rfl, rfl, ⟨by decide +kernel, by decide +kernel⟩, np_Mo_missOf⟩
theorem d_Mo_match_198 : decode k_Mo_match.code 198 = .ok (.istore 8, 2) := by decide +kernel
theorem d_Mo_match_200 : decode k_Mo_match.code 200 = .ok (.iload 7, 2) := by decide +kernel
theorem d_Mo_match_202 : decode k_Mo_match.code 202 = .ok (.aload_n 0, 1) := by decide +kernel
theorem g_Mo_match_203 : SiteG k_Mo_match 203 8 6 := ⟨13, 28, R_Mo, "PhotoModelsModel", F_Mo, by decide +kernel, tx4 51 rfl rfl, i_Mo, rfl, rfl, by decide⟩
theorem d_Mo_match_206 : decode k_Mo_match.code 206 = .ok (.iconst 0, 1) := by decide +kernel
theorem d_Mo_match_207 : decode k_Mo_match.code 207 = .ok (.iaload, 1) := by decide +kernel
theorem s_Mo_match_208 : SiteS k_Mo_match k_Mo_apart 208 2 := ⟨103, by decide +kernel, ⟨kw_Mo_apart, tx1 10 rfl rfl, by decide, by decide⟩, Or.inl (tx4 164 rfl rfl), tx4 165 rfl rfl, ⟨by decide +kernel, by decide +kernel⟩, np_Mo_apart⟩
theorem d_Mo_match_211 : decode k_Mo_match.code 211 = .ok (.iconst 1, 1) := by decide +kernel
theorem d_Mo_match_212 : decode k_Mo_match.code 212 = .ok (.if_icmp .gt 18, 3) := by decide +kernel
theorem d_Mo_match_215 : decode k_Mo_match.code 215 = .ok (.iload 6, 2) := by decide +kernel
theorem d_Mo_match_217 : decode k_Mo_match.code 217 = .ok (.aload_n 0, 1) := by decide +kernel
theorem g_Mo_match_218 : SiteG k_Mo_match 218 8 6 := ⟨13, 28, R_Mo, "PhotoModelsModel", F_Mo, by decide +kernel, tx4 51 rfl rfl, i_Mo, rfl, rfl, by decide⟩
theorem d_Mo_match_221 : decode k_Mo_match.code 221 = .ok (.iconst 1, 1) := by decide +kernel
theorem d_Mo_match_222 : decode k_Mo_match.code 222 = .ok (.iaload, 1) := by decide +kernel
theorem s_Mo_match_223 : SiteS k_Mo_match k_Mo_apart 223 2 := ⟨103, by decide +kernel, ⟨kw_Mo_apart, tx1 10 rfl rfl, by decide, by decide⟩, Or.inl (tx4 164 rfl rfl), tx4 165 rfl rfl, ⟨by decide +kernel, by decide +kernel⟩, np_Mo_apart⟩
theorem d_Mo_match_226 : decode k_Mo_match.code 226 = .ok (.iconst 1, 1) := by decide +kernel
theorem d_Mo_match_227 : decode k_Mo_match.code 227 = .ok (.if_icmp .le 7, 3) := by decide +kernel
theorem d_Mo_match_230 : decode k_Mo_match.code 230 = .ok (.iconst 1, 1) := by decide +kernel
theorem d_Mo_match_231 : decode k_Mo_match.code 231 = .ok (.goto 4, 3) := by decide +kernel
theorem d_Mo_match_234 : decode k_Mo_match.code 234 = .ok (.iconst 0, 1) := by decide +kernel
theorem d_Mo_match_235 : decode k_Mo_match.code 235 = .ok (.istore 9, 2) := by decide +kernel
theorem d_Mo_match_237 : decode k_Mo_match.code 237 = .ok (.aload_n 0, 1) := by decide +kernel
theorem g_Mo_match_238 : SiteG k_Mo_match 238 8 6 := ⟨13, 28, R_Mo, "PhotoModelsModel", F_Mo, by decide +kernel, tx4 51 rfl rfl, i_Mo, rfl, rfl, by decide⟩
theorem d_Mo_match_241 : decode k_Mo_match.code 241 = .ok (.iconst 2, 1) := by decide +kernel
theorem d_Mo_match_242 : decode k_Mo_match.code 242 = .ok (.iload 9, 2) := by decide +kernel
theorem d_Mo_match_244 : decode k_Mo_match.code 244 = .ok (.ifCond .eq 29, 3) := by decide +kernel
theorem d_Mo_match_247 : decode k_Mo_match.code 247 = .ok (.aload_n 0, 1) := by decide +kernel
theorem g_Mo_match_248 : SiteG k_Mo_match 248 8 6 := ⟨13, 28, R_Mo, "PhotoModelsModel", F_Mo, by decide +kernel, tx4 51 rfl rfl, i_Mo, rfl, rfl, by decide⟩
theorem d_Mo_match_251 : decode k_Mo_match.code 251 = .ok (.iconst 2, 1) := by decide +kernel
theorem d_Mo_match_252 : decode k_Mo_match.code 252 = .ok (.iaload, 1) := by decide +kernel
theorem d_Mo_match_253 : decode k_Mo_match.code 253 = .ok (.iconst (-1), 1) := by decide +kernel
theorem d_Mo_match_254 : decode k_Mo_match.code 254 = .ok (.if_icmp .eq 14, 3) := by decide +kernel
theorem d_Mo_match_257 : decode k_Mo_match.code 257 = .ok (.iload 8, 2) := by decide +kernel
theorem d_Mo_match_259 : decode k_Mo_match.code 259 = .ok (.aload_n 0, 1) := by decide +kernel
theorem g_Mo_match_260 : SiteG k_Mo_match 260 8 6 := ⟨13, 28, R_Mo, "PhotoModelsModel", F_Mo, by decide +kernel, tx4 51 rfl rfl, i_Mo, rfl, rfl, by decide⟩
theorem d_Mo_match_263 : decode k_Mo_match.code 263 = .ok (.iconst 2, 1) := by decide +kernel
theorem d_Mo_match_264 : decode k_Mo_match.code 264 = .ok (.iaload, 1) := by decide +kernel
theorem d_Mo_match_265 : decode k_Mo_match.code 265 = .ok (.if_icmp .ge 8, 3) := by decide +kernel
theorem d_Mo_match_268 : decode k_Mo_match.code 268 = .ok (.iload 8, 2) := by decide +kernel
theorem d_Mo_match_270 : decode k_Mo_match.code 270 = .ok (.goto 9, 3) := by decide +kernel
theorem d_Mo_match_273 : decode k_Mo_match.code 273 = .ok (.aload_n 0, 1) := by decide +kernel
theorem g_Mo_match_274 : SiteG k_Mo_match 274 8 6 := ⟨13, 28, R_Mo, "PhotoModelsModel", F_Mo, by decide +kernel, tx4 51 rfl rfl, i_Mo, rfl, rfl, by decide⟩
theorem d_Mo_match_277 : decode k_Mo_match.code 277 = .ok (.iconst 2, 1) := by decide +kernel
theorem d_Mo_match_278 : decode k_Mo_match.code 278 = .ok (.iaload, 1) := by decide +kernel
theorem d_Mo_match_279 : decode k_Mo_match.code 279 = .ok (.iastore, 1) := by decide +kernel
theorem d_Mo_match_280 : decode k_Mo_match.code 280 = .ok (.iinc 7 1, 3) := by decide +kernel
theorem d_Mo_match_283 : decode k_Mo_match.code 283 = .ok (.goto (-109), 3) := by decide +kernel
theorem d_Mo_match_286 : decode k_Mo_match.code 286 = .ok (.iinc 6 1, 3) := by decide +kernel
theorem d_Mo_match_289 : decode k_Mo_match.code 289 = .ok (.goto (-129), 3) := by decide +kernel
theorem d_Mo_match_292 : decode k_Mo_match.code 292 = .ok (.aload_n 0, 1) := by decide +kernel
theorem d_Mo_match_293 : decode k_Mo_match.code 293 = .ok (.iconst 1, 1) := by decide +kernel
theorem p_Mo_match_294 : SiteP k_Mo_match 294 8 5 .boolean := ⟨107, 28, R_Mo, "PhotoModelsModel", F_Mo, t_Mo, t_Mo_ok, n_Mo, by decide +kernel, tx4 50 rfl rfl, i_Mo, rfl, Or.inl rfl, rfl, by decide, rfl⟩
theorem d_Mo_match_297 : decode k_Mo_match.code 297 = .ok (.iload 5, 2) := by decide +kernel
theorem d_Mo_match_299 : decode k_Mo_match.code 299 = .ok (.ireturn, 1) := by decide +kernel
theorem d_Mo_missOf_0 : decode k_Mo_missOf.code 0 = .ok (.iconst 0, 1) := by decide +kernel
theorem d_Mo_missOf_1 : decode k_Mo_missOf.code 1 = .ok (.istore 7, 2) := by decide +kernel
theorem d_Mo_missOf_3 : decode k_Mo_missOf.code 3 = .ok (.iconst 0, 1) := by decide +kernel
theorem d_Mo_missOf_4 : decode k_Mo_missOf.code 4 = .ok (.istore 8, 2) := by decide +kernel
theorem d_Mo_missOf_6 : decode k_Mo_missOf.code 6 = .ok (.iload 8, 2) := by decide +kernel
theorem d_Mo_missOf_8 : decode k_Mo_missOf.code 8 = .ok (.bipush 9, 2) := by decide +kernel
theorem d_Mo_missOf_10 : decode k_Mo_missOf.code 10 = .ok (.if_icmp .ge 67, 3) := by decide +kernel
theorem d_Mo_missOf_13 : decode k_Mo_missOf.code 13 = .ok (.aload_n 0, 1) := by decide +kernel
theorem d_Mo_missOf_14 : decode k_Mo_missOf.code 14 = .ok (.iload_n 1, 1) := by decide +kernel
theorem d_Mo_missOf_15 : decode k_Mo_missOf.code 15 = .ok (.iload_n 3, 1) := by decide +kernel
theorem d_Mo_missOf_16 : decode k_Mo_missOf.code 16 = .ok (.iconst 1, 1) := by decide +kernel
theorem d_Mo_missOf_17 : decode k_Mo_missOf.code 17 = .ok (.isub, 1) := by decide +kernel
theorem d_Mo_missOf_18 : decode k_Mo_missOf.code 18 = .ok (.iload 8, 2) := by decide +kernel
theorem d_Mo_missOf_20 : decode k_Mo_missOf.code 20 = .ok (.iconst 3, 1) := by decide +kernel
theorem d_Mo_missOf_21 : decode k_Mo_missOf.code 21 = .ok (.irem, 1) := by decide +kernel
theorem d_Mo_missOf_22 : decode k_Mo_missOf.code 22 = .ok (.iadd, 1) := by decide +kernel
theorem d_Mo_missOf_23 : decode k_Mo_missOf.code 23 = .ok (.iload 4, 2) := by decide +kernel
theorem d_Mo_missOf_25 : decode k_Mo_missOf.code 25 = .ok (.iconst 1, 1) := by decide +kernel
theorem d_Mo_missOf_26 : decode k_Mo_missOf.code 26 = .ok (.isub, 1) := by decide +kernel
theorem d_Mo_missOf_27 : decode k_Mo_missOf.code 27 = .ok (.iload 8, 2) := by decide +kernel
theorem d_Mo_missOf_29 : decode k_Mo_missOf.code 29 = .ok (.iconst 3, 1) := by decide +kernel
theorem d_Mo_missOf_30 : decode k_Mo_missOf.code 30 = .ok (.idiv, 1) := by decide +kernel
theorem d_Mo_missOf_31 : decode k_Mo_missOf.code 31 = .ok (.iadd, 1) := by decide +kernel
theorem s_Mo_missOf_32 : SiteV k_Mo_missOf k_Mo_valueOf 32 8 3 := ⟨95, (R_Mo, F_Mo, 28), by decide +kernel, ⟨kw_Mo_valueOf, tx1 10 rfl rfl, by decide, by decide⟩, tx4 152 rfl rfl, tx4 154 rfl rfl, twp 24 rfl rfl, rfl, ⟨by decide +kernel, by decide +kernel⟩, np_Mo_valueOf⟩
theorem d_Mo_missOf_35 : decode k_Mo_missOf.code 35 = .ok (.aload_n 0, 1) := by decide +kernel
theorem d_Mo_missOf_36 : decode k_Mo_missOf.code 36 = .ok (.iload_n 2, 1) := by decide +kernel
theorem d_Mo_missOf_37 : decode k_Mo_missOf.code 37 = .ok (.iload 5, 2) := by decide +kernel
theorem d_Mo_missOf_39 : decode k_Mo_missOf.code 39 = .ok (.iconst 1, 1) := by decide +kernel
theorem d_Mo_missOf_40 : decode k_Mo_missOf.code 40 = .ok (.isub, 1) := by decide +kernel
theorem d_Mo_missOf_41 : decode k_Mo_missOf.code 41 = .ok (.iload 8, 2) := by decide +kernel
theorem d_Mo_missOf_43 : decode k_Mo_missOf.code 43 = .ok (.iconst 3, 1) := by decide +kernel
theorem d_Mo_missOf_44 : decode k_Mo_missOf.code 44 = .ok (.irem, 1) := by decide +kernel
theorem d_Mo_missOf_45 : decode k_Mo_missOf.code 45 = .ok (.iadd, 1) := by decide +kernel
theorem d_Mo_missOf_46 : decode k_Mo_missOf.code 46 = .ok (.iload 6, 2) := by decide +kernel
theorem d_Mo_missOf_48 : decode k_Mo_missOf.code 48 = .ok (.iconst 1, 1) := by decide +kernel
theorem d_Mo_missOf_49 : decode k_Mo_missOf.code 49 = .ok (.isub, 1) := by decide +kernel
theorem d_Mo_missOf_50 : decode k_Mo_missOf.code 50 = .ok (.iload 8, 2) := by decide +kernel
theorem d_Mo_missOf_52 : decode k_Mo_missOf.code 52 = .ok (.iconst 3, 1) := by decide +kernel
theorem d_Mo_missOf_53 : decode k_Mo_missOf.code 53 = .ok (.idiv, 1) := by decide +kernel
theorem d_Mo_missOf_54 : decode k_Mo_missOf.code 54 = .ok (.iadd, 1) := by decide +kernel
theorem s_Mo_missOf_55 : SiteV k_Mo_missOf k_Mo_valueOf 55 8 3 := ⟨95, (R_Mo, F_Mo, 28), by decide +kernel, ⟨kw_Mo_valueOf, tx1 10 rfl rfl, by decide, by decide⟩, tx4 152 rfl rfl, tx4 154 rfl rfl, twp 24 rfl rfl, rfl, ⟨by decide +kernel, by decide +kernel⟩, np_Mo_valueOf⟩
theorem d_Mo_missOf_58 : decode k_Mo_missOf.code 58 = .ok (.isub, 1) := by decide +kernel
theorem d_Mo_missOf_59 : decode k_Mo_missOf.code 59 = .ok (.istore 9, 2) := by decide +kernel
theorem d_Mo_missOf_61 : decode k_Mo_missOf.code 61 = .ok (.iload 7, 2) := by decide +kernel
theorem d_Mo_missOf_63 : decode k_Mo_missOf.code 63 = .ok (.iload 9, 2) := by decide +kernel
theorem d_Mo_missOf_65 : decode k_Mo_missOf.code 65 = .ok (.iload 9, 2) := by decide +kernel
theorem d_Mo_missOf_67 : decode k_Mo_missOf.code 67 = .ok (.imul, 1) := by decide +kernel
theorem d_Mo_missOf_68 : decode k_Mo_missOf.code 68 = .ok (.iadd, 1) := by decide +kernel
theorem d_Mo_missOf_69 : decode k_Mo_missOf.code 69 = .ok (.istore 7, 2) := by decide +kernel
theorem d_Mo_missOf_71 : decode k_Mo_missOf.code 71 = .ok (.iinc 8 1, 3) := by decide +kernel
theorem d_Mo_missOf_74 : decode k_Mo_missOf.code 74 = .ok (.goto (-68), 3) := by decide +kernel
theorem d_Mo_missOf_77 : decode k_Mo_missOf.code 77 = .ok (.iload 7, 2) := by decide +kernel
theorem d_Mo_missOf_79 : decode k_Mo_missOf.code 79 = .ok (.ireturn, 1) := by decide +kernel
theorem d_Mo_apart_0 : decode k_Mo_apart.code 0 = .ok (.iload_n 0, 1) := by decide +kernel
theorem d_Mo_apart_1 : decode k_Mo_apart.code 1 = .ok (.iload_n 1, 1) := by decide +kernel
theorem d_Mo_apart_2 : decode k_Mo_apart.code 2 = .ok (.if_icmp .le 9, 3) := by decide +kernel
theorem d_Mo_apart_5 : decode k_Mo_apart.code 5 = .ok (.iload_n 0, 1) := by decide +kernel
theorem d_Mo_apart_6 : decode k_Mo_apart.code 6 = .ok (.iload_n 1, 1) := by decide +kernel
theorem d_Mo_apart_7 : decode k_Mo_apart.code 7 = .ok (.isub, 1) := by decide +kernel
theorem d_Mo_apart_8 : decode k_Mo_apart.code 8 = .ok (.goto 6, 3) := by decide +kernel
theorem d_Mo_apart_11 : decode k_Mo_apart.code 11 = .ok (.iload_n 1, 1) := by decide +kernel
theorem d_Mo_apart_12 : decode k_Mo_apart.code 12 = .ok (.iload_n 0, 1) := by decide +kernel
theorem d_Mo_apart_13 : decode k_Mo_apart.code 13 = .ok (.isub, 1) := by decide +kernel
theorem d_Mo_apart_14 : decode k_Mo_apart.code 14 = .ok (.ireturn, 1) := by decide +kernel
theorem d_Mo_found_0 : decode k_Mo_found.code 0 = .ok (.aload_n 0, 1) := by decide +kernel
theorem d_Mo_found_1 : decode k_Mo_found.code 1 = .ok (.iload_n 1, 1) := by decide +kernel
theorem d_Mo_found_2 : decode k_Mo_found.code 2 = .ok (.iconst 0, 1) := by decide +kernel
theorem d_Mo_found_3 : decode k_Mo_found.code 3 = .ok (.iconst 2, 1) := by decide +kernel
theorem s_Mo_found_4 : SiteS k_Mo_found k_Mo_within 4 3 := ⟨76, by decide +kernel, ⟨kw_Mo_within, tx1 10 rfl rfl, by decide, by decide⟩, Or.inl (tx4 141 rfl rfl), tx4 142 rfl rfl, ⟨by decide +kernel, by decide +kernel⟩, np_Mo_within⟩
theorem d_Mo_found_7 : decode k_Mo_found.code 7 = .ok (.aload_n 0, 1) := by decide +kernel
theorem g_Mo_found_8 : SiteG k_Mo_found 8 8 5 := ⟨107, 28, R_Mo, "PhotoModelsModel", F_Mo, by decide +kernel, tx4 50 rfl rfl, i_Mo, rfl, rfl, by decide⟩
theorem d_Mo_found_11 : decode k_Mo_found.code 11 = .ok (.iconst 1, 1) := by decide +kernel
theorem s_Mo_found_12 : SiteV k_Mo_found k_Mo_goes 12 8 3 := ⟨91, (R_Mo, F_Mo, 28), by decide +kernel, ⟨kw_Mo_goes, tx1 10 rfl rfl, by decide, by decide⟩, tx4 148 rfl rfl, tx4 150 rfl rfl, twp 23 rfl rfl, rfl, ⟨by decide +kernel, by decide +kernel⟩, np_Mo_goes⟩
theorem d_Mo_found_15 : decode k_Mo_found.code 15 = .ok (.ifCond .eq 12, 3) := by decide +kernel
theorem d_Mo_found_18 : decode k_Mo_found.code 18 = .ok (.aload_n 0, 1) := by decide +kernel
theorem g_Mo_found_19 : SiteG k_Mo_found 19 8 6 := ⟨13, 28, R_Mo, "PhotoModelsModel", F_Mo, by decide +kernel, tx4 51 rfl rfl, i_Mo, rfl, rfl, by decide⟩
theorem d_Mo_found_22 : decode k_Mo_found.code 22 = .ok (.iload_n 1, 1) := by decide +kernel
theorem d_Mo_found_23 : decode k_Mo_found.code 23 = .ok (.iaload, 1) := by decide +kernel
theorem d_Mo_found_24 : decode k_Mo_found.code 24 = .ok (.goto 4, 3) := by decide +kernel
theorem d_Mo_found_27 : decode k_Mo_found.code 27 = .ok (.iconst 0, 1) := by decide +kernel
theorem d_Mo_found_28 : decode k_Mo_found.code 28 = .ok (.ireturn, 1) := by decide +kernel
theorem d_Mo_place_0 : decode k_Mo_place.code 0 = .ok (.aload_n 0, 1) := by decide +kernel
theorem d_Mo_place_1 : decode k_Mo_place.code 1 = .ok (.aload_n 0, 1) := by decide +kernel
theorem g_Mo_place_2 : SiteG k_Mo_place 2 8 7 := ⟨80, 28, R_Mo, "PhotoModelsModel", F_Mo, by decide +kernel, tx4 52 rfl rfl, i_Mo, rfl, rfl, by decide⟩
theorem d_Mo_place_5 : decode k_Mo_place.code 5 = .ok (.bipush 12, 2) := by decide +kernel
theorem d_Mo_place_7 : decode k_Mo_place.code 7 = .ok (.if_icmp .ge 7, 3) := by decide +kernel
theorem d_Mo_place_10 : decode k_Mo_place.code 10 = .ok (.iconst 1, 1) := by decide +kernel
theorem d_Mo_place_11 : decode k_Mo_place.code 11 = .ok (.goto 4, 3) := by decide +kernel
theorem d_Mo_place_14 : decode k_Mo_place.code 14 = .ok (.iconst 0, 1) := by decide +kernel
theorem d_Mo_place_15 : decode k_Mo_place.code 15 = .ok (.iconst 1, 1) := by decide +kernel
theorem d_Mo_place_16 : decode k_Mo_place.code 16 = .ok (.iconst 1, 1) := by decide +kernel
theorem s_Mo_place_17 : SiteV k_Mo_place k_Mo_goes 17 8 3 := ⟨91, (R_Mo, F_Mo, 28), by decide +kernel, ⟨kw_Mo_goes, tx1 10 rfl rfl, by decide, by decide⟩, tx4 148 rfl rfl, tx4 150 rfl rfl, twp 23 rfl rfl, rfl, ⟨by decide +kernel, by decide +kernel⟩, np_Mo_goes⟩
theorem d_Mo_place_20 : decode k_Mo_place.code 20 = .ok (.ifCond .ne 5, 3) := by decide +kernel
theorem d_Mo_place_23 : decode k_Mo_place.code 23 = .ok (.iconst 0, 1) := by decide +kernel
theorem d_Mo_place_24 : decode k_Mo_place.code 24 = .ok (.ireturn, 1) := by decide +kernel
theorem d_Mo_place_25 : decode k_Mo_place.code 25 = .ok (.aload_n 0, 1) := by decide +kernel
theorem d_Mo_place_26 : decode k_Mo_place.code 26 = .ok (.dup, 1) := by decide +kernel
theorem g_Mo_place_27 : SiteG k_Mo_place 27 8 7 := ⟨80, 28, R_Mo, "PhotoModelsModel", F_Mo, by decide +kernel, tx4 52 rfl rfl, i_Mo, rfl, rfl, by decide⟩
theorem d_Mo_place_30 : decode k_Mo_place.code 30 = .ok (.iconst 1, 1) := by decide +kernel
theorem d_Mo_place_31 : decode k_Mo_place.code 31 = .ok (.iadd, 1) := by decide +kernel
theorem p_Mo_place_32 : SiteP k_Mo_place 32 8 7 .int := ⟨80, 28, R_Mo, "PhotoModelsModel", F_Mo, t_Mo, t_Mo_ok, n_Mo, by decide +kernel, tx4 52 rfl rfl, i_Mo, rfl, Or.inl rfl, rfl, by decide, rfl⟩
theorem d_Mo_place_35 : decode k_Mo_place.code 35 = .ok (.aload_n 0, 1) := by decide +kernel
theorem g_Mo_place_36 : SiteG k_Mo_place 36 8 7 := ⟨80, 28, R_Mo, "PhotoModelsModel", F_Mo, by decide +kernel, tx4 52 rfl rfl, i_Mo, rfl, rfl, by decide⟩
theorem d_Mo_place_39 : decode k_Mo_place.code 39 = .ok (.iconst 1, 1) := by decide +kernel
theorem d_Mo_place_40 : decode k_Mo_place.code 40 = .ok (.isub, 1) := by decide +kernel
theorem d_Mo_place_41 : decode k_Mo_place.code 41 = .ok (.ireturn, 1) := by decide +kernel
theorem d_Mo_seen_0 : decode k_Mo_seen.code 0 = .ok (.aload_n 0, 1) := by decide +kernel
theorem d_Mo_seen_1 : decode k_Mo_seen.code 1 = .ok (.aload_n 0, 1) := by decide +kernel
theorem d_Mo_seen_2 : decode k_Mo_seen.code 2 = .ok (.iload_n 1, 1) := by decide +kernel
theorem s_Mo_seen_3 : SiteV k_Mo_seen k_Mo_isPlace 3 8 1 := ⟨111, (R_Mo, F_Mo, 28), by decide +kernel, ⟨kw_Mo_isPlace, tx1 10 rfl rfl, by decide, by decide⟩, tx4 179 rfl rfl, tx4 181 rfl rfl, twp 26 rfl rfl, rfl, ⟨by decide +kernel, by decide +kernel⟩, np_Mo_isPlace⟩
theorem d_Mo_seen_6 : decode k_Mo_seen.code 6 = .ok (.ifCond .eq 14, 3) := by decide +kernel
theorem d_Mo_seen_9 : decode k_Mo_seen.code 9 = .ok (.iload_n 2, 1) := by decide +kernel
theorem s_Mo_seen_10 : SiteS k_Mo_seen k_Mo_isPhoto 10 1 := ⟨83, by decide +kernel, ⟨kw_Mo_isPhoto, tx1 10 rfl rfl, by decide, by decide⟩, Or.inl (tx4 138 rfl rfl), tx4 139 rfl rfl, ⟨by decide +kernel, by decide +kernel⟩, np_Mo_isPhoto⟩
theorem d_Mo_seen_13 : decode k_Mo_seen.code 13 = .ok (.ifCond .eq 7, 3) := by decide +kernel
theorem d_Mo_seen_16 : decode k_Mo_seen.code 16 = .ok (.iconst 1, 1) := by decide +kernel
theorem d_Mo_seen_17 : decode k_Mo_seen.code 17 = .ok (.goto 4, 3) := by decide +kernel
theorem d_Mo_seen_20 : decode k_Mo_seen.code 20 = .ok (.iconst 0, 1) := by decide +kernel
theorem d_Mo_seen_21 : decode k_Mo_seen.code 21 = .ok (.iload_n 3, 1) := by decide +kernel
theorem d_Mo_seen_22 : decode k_Mo_seen.code 22 = .ok (.sipush 999, 3) := by decide +kernel
theorem d_Mo_seen_25 : decode k_Mo_seen.code 25 = .ok (.if_icmp .gt 23, 3) := by decide +kernel
theorem d_Mo_seen_28 : decode k_Mo_seen.code 28 = .ok (.iload_n 3, 1) := by decide +kernel
theorem d_Mo_seen_29 : decode k_Mo_seen.code 29 = .ok (.ifCond .lt 15, 3) := by decide +kernel
theorem d_Mo_seen_32 : decode k_Mo_seen.code 32 = .ok (.iload 4, 2) := by decide +kernel
theorem d_Mo_seen_34 : decode k_Mo_seen.code 34 = .ok (.iconst 0, 1) := by decide +kernel
theorem d_Mo_seen_35 : decode k_Mo_seen.code 35 = .ok (.sipush 999, 3) := by decide +kernel
theorem s_Mo_seen_38 : SiteS k_Mo_seen k_Mo_within 38 3 := ⟨76, by decide +kernel, ⟨kw_Mo_within, tx1 10 rfl rfl, by decide, by decide⟩, Or.inl (tx4 141 rfl rfl), tx4 142 rfl rfl, ⟨by decide +kernel, by decide +kernel⟩, np_Mo_within⟩
theorem d_Mo_seen_41 : decode k_Mo_seen.code 41 = .ok (.ifCond .eq 7, 3) := by decide +kernel
theorem d_Mo_seen_44 : decode k_Mo_seen.code 44 = .ok (.iconst 1, 1) := by decide +kernel
theorem d_Mo_seen_45 : decode k_Mo_seen.code 45 = .ok (.goto 4, 3) := by decide +kernel
theorem d_Mo_seen_48 : decode k_Mo_seen.code 48 = .ok (.iconst 0, 1) := by decide +kernel
theorem d_Mo_seen_49 : decode k_Mo_seen.code 49 = .ok (.iconst 1, 1) := by decide +kernel
theorem s_Mo_seen_50 : SiteV k_Mo_seen k_Mo_goes 50 8 3 := ⟨91, (R_Mo, F_Mo, 28), by decide +kernel, ⟨kw_Mo_goes, tx1 10 rfl rfl, by decide, by decide⟩, tx4 148 rfl rfl, tx4 150 rfl rfl, twp 23 rfl rfl, rfl, ⟨by decide +kernel, by decide +kernel⟩, np_Mo_goes⟩
theorem d_Mo_seen_53 : decode k_Mo_seen.code 53 = .ok (.ifCond .ne 5, 3) := by decide +kernel
theorem d_Mo_seen_56 : decode k_Mo_seen.code 56 = .ok (.iconst 0, 1) := by decide +kernel
theorem d_Mo_seen_57 : decode k_Mo_seen.code 57 = .ok (.ireturn, 1) := by decide +kernel
theorem d_Mo_seen_58 : decode k_Mo_seen.code 58 = .ok (.aload_n 0, 1) := by decide +kernel
theorem g_Mo_seen_59 : SiteG k_Mo_seen 59 8 8 := ⟨16, 28, R_Mo, "PhotoModelsModel", F_Mo, by decide +kernel, tx4 53 rfl rfl, i_Mo, rfl, rfl, by decide⟩
theorem d_Mo_seen_62 : decode k_Mo_seen.code 62 = .ok (.iconst 4, 1) := by decide +kernel
theorem d_Mo_seen_63 : decode k_Mo_seen.code 63 = .ok (.iload_n 1, 1) := by decide +kernel
theorem d_Mo_seen_64 : decode k_Mo_seen.code 64 = .ok (.imul, 1) := by decide +kernel
theorem d_Mo_seen_65 : decode k_Mo_seen.code 65 = .ok (.iload_n 2, 1) := by decide +kernel
theorem d_Mo_seen_66 : decode k_Mo_seen.code 66 = .ok (.iadd, 1) := by decide +kernel
theorem d_Mo_seen_67 : decode k_Mo_seen.code 67 = .ok (.iaload, 1) := by decide +kernel
theorem d_Mo_seen_68 : decode k_Mo_seen.code 68 = .ok (.iconst (-1), 1) := by decide +kernel
theorem d_Mo_seen_69 : decode k_Mo_seen.code 69 = .ok (.if_icmp .eq 7, 3) := by decide +kernel
theorem d_Mo_seen_72 : decode k_Mo_seen.code 72 = .ok (.iconst 1, 1) := by decide +kernel
theorem d_Mo_seen_73 : decode k_Mo_seen.code 73 = .ok (.goto 4, 3) := by decide +kernel
theorem d_Mo_seen_76 : decode k_Mo_seen.code 76 = .ok (.iconst 0, 1) := by decide +kernel
theorem d_Mo_seen_77 : decode k_Mo_seen.code 77 = .ok (.istore 5, 2) := by decide +kernel
theorem d_Mo_seen_79 : decode k_Mo_seen.code 79 = .ok (.aload_n 0, 1) := by decide +kernel
theorem g_Mo_seen_80 : SiteG k_Mo_seen 80 8 8 := ⟨16, 28, R_Mo, "PhotoModelsModel", F_Mo, by decide +kernel, tx4 53 rfl rfl, i_Mo, rfl, rfl, by decide⟩
theorem d_Mo_seen_83 : decode k_Mo_seen.code 83 = .ok (.iconst 4, 1) := by decide +kernel
theorem d_Mo_seen_84 : decode k_Mo_seen.code 84 = .ok (.iload_n 1, 1) := by decide +kernel
theorem d_Mo_seen_85 : decode k_Mo_seen.code 85 = .ok (.imul, 1) := by decide +kernel
theorem d_Mo_seen_86 : decode k_Mo_seen.code 86 = .ok (.iload_n 2, 1) := by decide +kernel
theorem d_Mo_seen_87 : decode k_Mo_seen.code 87 = .ok (.iadd, 1) := by decide +kernel
theorem d_Mo_seen_88 : decode k_Mo_seen.code 88 = .ok (.iload_n 3, 1) := by decide +kernel
theorem d_Mo_seen_89 : decode k_Mo_seen.code 89 = .ok (.ifCond .ge 7, 3) := by decide +kernel
theorem d_Mo_seen_92 : decode k_Mo_seen.code 92 = .ok (.iconst (-1), 1) := by decide +kernel
theorem d_Mo_seen_93 : decode k_Mo_seen.code 93 = .ok (.goto 4, 3) := by decide +kernel
theorem d_Mo_seen_96 : decode k_Mo_seen.code 96 = .ok (.iload_n 3, 1) := by decide +kernel
theorem d_Mo_seen_97 : decode k_Mo_seen.code 97 = .ok (.iastore, 1) := by decide +kernel
theorem d_Mo_seen_98 : decode k_Mo_seen.code 98 = .ok (.aload_n 0, 1) := by decide +kernel
theorem g_Mo_seen_99 : SiteG k_Mo_seen 99 8 9 := ⟨19, 28, R_Mo, "PhotoModelsModel", F_Mo, by decide +kernel, tx4 54 rfl rfl, i_Mo, rfl, rfl, by decide⟩
theorem d_Mo_seen_102 : decode k_Mo_seen.code 102 = .ok (.iconst 4, 1) := by decide +kernel
theorem d_Mo_seen_103 : decode k_Mo_seen.code 103 = .ok (.iload_n 1, 1) := by decide +kernel
theorem d_Mo_seen_104 : decode k_Mo_seen.code 104 = .ok (.imul, 1) := by decide +kernel
theorem d_Mo_seen_105 : decode k_Mo_seen.code 105 = .ok (.iload_n 2, 1) := by decide +kernel
theorem d_Mo_seen_106 : decode k_Mo_seen.code 106 = .ok (.iadd, 1) := by decide +kernel
theorem d_Mo_seen_107 : decode k_Mo_seen.code 107 = .ok (.iload 4, 2) := by decide +kernel
theorem d_Mo_seen_109 : decode k_Mo_seen.code 109 = .ok (.iastore, 1) := by decide +kernel
theorem d_Mo_seen_110 : decode k_Mo_seen.code 110 = .ok (.iload 5, 2) := by decide +kernel
theorem d_Mo_seen_112 : decode k_Mo_seen.code 112 = .ok (.ireturn, 1) := by decide +kernel
theorem d_Mo_isPlace_0 : decode k_Mo_isPlace.code 0 = .ok (.iload_n 1, 1) := by decide +kernel
theorem d_Mo_isPlace_1 : decode k_Mo_isPlace.code 1 = .ok (.iconst 0, 1) := by decide +kernel
theorem d_Mo_isPlace_2 : decode k_Mo_isPlace.code 2 = .ok (.aload_n 0, 1) := by decide +kernel
theorem g_Mo_isPlace_3 : SiteG k_Mo_isPlace 3 8 7 := ⟨80, 28, R_Mo, "PhotoModelsModel", F_Mo, by decide +kernel, tx4 52 rfl rfl, i_Mo, rfl, rfl, by decide⟩
theorem d_Mo_isPlace_6 : decode k_Mo_isPlace.code 6 = .ok (.iconst 1, 1) := by decide +kernel
theorem d_Mo_isPlace_7 : decode k_Mo_isPlace.code 7 = .ok (.isub, 1) := by decide +kernel
theorem s_Mo_isPlace_8 : SiteS k_Mo_isPlace k_Mo_within 8 3 := ⟨76, by decide +kernel, ⟨kw_Mo_within, tx1 10 rfl rfl, by decide, by decide⟩, Or.inl (tx4 141 rfl rfl), tx4 142 rfl rfl, ⟨by decide +kernel, by decide +kernel⟩, np_Mo_within⟩
theorem d_Mo_isPlace_11 : decode k_Mo_isPlace.code 11 = .ok (.ireturn, 1) := by decide +kernel
theorem d_Mo_relative_0 : decode k_Mo_relative.code 0 = .ok (.aload_n 0, 1) := by decide +kernel
theorem d_Mo_relative_1 : decode k_Mo_relative.code 1 = .ok (.iload_n 1, 1) := by decide +kernel
theorem s_Mo_relative_2 : SiteS k_Mo_relative k_Mo_isPhoto 2 1 := ⟨83, by decide +kernel, ⟨kw_Mo_isPhoto, tx1 10 rfl rfl, by decide, by decide⟩, Or.inl (tx4 138 rfl rfl), tx4 139 rfl rfl, ⟨by decide +kernel, by decide +kernel⟩, np_Mo_isPhoto⟩
theorem d_Mo_relative_5 : decode k_Mo_relative.code 5 = .ok (.ifCond .eq 14, 3) := by decide +kernel
theorem d_Mo_relative_8 : decode k_Mo_relative.code 8 = .ok (.iload_n 2, 1) := by decide +kernel
theorem s_Mo_relative_9 : SiteS k_Mo_relative k_Mo_isPhoto 9 1 := ⟨83, by decide +kernel, ⟨kw_Mo_isPhoto, tx1 10 rfl rfl, by decide, by decide⟩, Or.inl (tx4 138 rfl rfl), tx4 139 rfl rfl, ⟨by decide +kernel, by decide +kernel⟩, np_Mo_isPhoto⟩
theorem d_Mo_relative_12 : decode k_Mo_relative.code 12 = .ok (.ifCond .eq 7, 3) := by decide +kernel
theorem d_Mo_relative_15 : decode k_Mo_relative.code 15 = .ok (.iconst 1, 1) := by decide +kernel
theorem d_Mo_relative_16 : decode k_Mo_relative.code 16 = .ok (.goto 4, 3) := by decide +kernel
theorem d_Mo_relative_19 : decode k_Mo_relative.code 19 = .ok (.iconst 0, 1) := by decide +kernel
theorem d_Mo_relative_20 : decode k_Mo_relative.code 20 = .ok (.iload_n 3, 1) := by decide +kernel
theorem d_Mo_relative_21 : decode k_Mo_relative.code 21 = .ok (.iconst 1, 1) := by decide +kernel
theorem d_Mo_relative_22 : decode k_Mo_relative.code 22 = .ok (.bipush 20, 2) := by decide +kernel
theorem s_Mo_relative_24 : SiteS k_Mo_relative k_Mo_within 24 3 := ⟨76, by decide +kernel, ⟨kw_Mo_within, tx1 10 rfl rfl, by decide, by decide⟩, Or.inl (tx4 141 rfl rfl), tx4 142 rfl rfl, ⟨by decide +kernel, by decide +kernel⟩, np_Mo_within⟩
theorem d_Mo_relative_27 : decode k_Mo_relative.code 27 = .ok (.ifCond .eq 18, 3) := by decide +kernel
theorem d_Mo_relative_30 : decode k_Mo_relative.code 30 = .ok (.iload 4, 2) := by decide +kernel
theorem d_Mo_relative_32 : decode k_Mo_relative.code 32 = .ok (.iconst 0, 1) := by decide +kernel
theorem d_Mo_relative_33 : decode k_Mo_relative.code 33 = .ok (.bipush 100, 2) := by decide +kernel
theorem s_Mo_relative_35 : SiteS k_Mo_relative k_Mo_within 35 3 := ⟨76, by decide +kernel, ⟨kw_Mo_within, tx1 10 rfl rfl, by decide, by decide⟩, Or.inl (tx4 141 rfl rfl), tx4 142 rfl rfl, ⟨by decide +kernel, by decide +kernel⟩, np_Mo_within⟩
theorem d_Mo_relative_38 : decode k_Mo_relative.code 38 = .ok (.ifCond .eq 7, 3) := by decide +kernel
theorem d_Mo_relative_41 : decode k_Mo_relative.code 41 = .ok (.iconst 1, 1) := by decide +kernel
theorem d_Mo_relative_42 : decode k_Mo_relative.code 42 = .ok (.goto 4, 3) := by decide +kernel
theorem d_Mo_relative_45 : decode k_Mo_relative.code 45 = .ok (.iconst 0, 1) := by decide +kernel
theorem d_Mo_relative_46 : decode k_Mo_relative.code 46 = .ok (.iconst 1, 1) := by decide +kernel
theorem s_Mo_relative_47 : SiteV k_Mo_relative k_Mo_goes 47 8 3 := ⟨91, (R_Mo, F_Mo, 28), by decide +kernel, ⟨kw_Mo_goes, tx1 10 rfl rfl, by decide, by decide⟩, tx4 148 rfl rfl, tx4 150 rfl rfl, twp 23 rfl rfl, rfl, ⟨by decide +kernel, by decide +kernel⟩, np_Mo_goes⟩
theorem d_Mo_relative_50 : decode k_Mo_relative.code 50 = .ok (.ifCond .ne 5, 3) := by decide +kernel
theorem d_Mo_relative_53 : decode k_Mo_relative.code 53 = .ok (.iconst 0, 1) := by decide +kernel
theorem d_Mo_relative_54 : decode k_Mo_relative.code 54 = .ok (.ireturn, 1) := by decide +kernel
theorem d_Mo_relative_55 : decode k_Mo_relative.code 55 = .ok (.iconst 0, 1) := by decide +kernel
theorem d_Mo_relative_56 : decode k_Mo_relative.code 56 = .ok (.istore 5, 2) := by decide +kernel
theorem d_Mo_relative_58 : decode k_Mo_relative.code 58 = .ok (.iconst 0, 1) := by decide +kernel
theorem d_Mo_relative_59 : decode k_Mo_relative.code 59 = .ok (.istore 6, 2) := by decide +kernel
theorem d_Mo_relative_61 : decode k_Mo_relative.code 61 = .ok (.iload 6, 2) := by decide +kernel
theorem d_Mo_relative_63 : decode k_Mo_relative.code 63 = .ok (.aload_n 0, 1) := by decide +kernel
theorem g_Mo_relative_64 : SiteG k_Mo_relative 64 8 7 := ⟨80, 28, R_Mo, "PhotoModelsModel", F_Mo, by decide +kernel, tx4 52 rfl rfl, i_Mo, rfl, rfl, by decide⟩
theorem d_Mo_relative_67 : decode k_Mo_relative.code 67 = .ok (.if_icmp .ge 31, 3) := by decide +kernel
theorem d_Mo_relative_70 : decode k_Mo_relative.code 70 = .ok (.aload_n 0, 1) := by decide +kernel
theorem d_Mo_relative_71 : decode k_Mo_relative.code 71 = .ok (.iload 6, 2) := by decide +kernel
theorem d_Mo_relative_73 : decode k_Mo_relative.code 73 = .ok (.iload_n 1, 1) := by decide +kernel
theorem d_Mo_relative_74 : decode k_Mo_relative.code 74 = .ok (.iload_n 2, 1) := by decide +kernel
theorem s_Mo_relative_75 : SiteV k_Mo_relative k_Mo_isBoth 75 8 3 := ⟨121, (R_Mo, F_Mo, 28), by decide +kernel, ⟨kw_Mo_isBoth, tx1 10 rfl rfl, by decide, by decide⟩, tx4 187 rfl rfl, tx4 189 rfl rfl, twp 27 rfl rfl, rfl, ⟨by decide +kernel, by decide +kernel⟩, np_Mo_isBoth⟩
theorem d_Mo_relative_78 : decode k_Mo_relative.code 78 = .ok (.ifCond .eq 10, 3) := by decide +kernel
theorem d_Mo_relative_81 : decode k_Mo_relative.code 81 = .ok (.iload 5, 2) := by decide +kernel
theorem d_Mo_relative_83 : decode k_Mo_relative.code 83 = .ok (.iconst 1, 1) := by decide +kernel
theorem d_Mo_relative_84 : decode k_Mo_relative.code 84 = .ok (.iadd, 1) := by decide +kernel
theorem d_Mo_relative_85 : decode k_Mo_relative.code 85 = .ok (.goto 5, 3) := by decide +kernel
theorem d_Mo_relative_88 : decode k_Mo_relative.code 88 = .ok (.iload 5, 2) := by decide +kernel
theorem d_Mo_relative_90 : decode k_Mo_relative.code 90 = .ok (.istore 5, 2) := by decide +kernel
theorem d_Mo_relative_92 : decode k_Mo_relative.code 92 = .ok (.iinc 6 1, 3) := by decide +kernel
theorem d_Mo_relative_95 : decode k_Mo_relative.code 95 = .ok (.goto (-34), 3) := by decide +kernel
theorem d_Mo_relative_98 : decode k_Mo_relative.code 98 = .ok (.aload_n 0, 1) := by decide +kernel
theorem d_Mo_relative_99 : decode k_Mo_relative.code 99 = .ok (.iload 5, 2) := by decide +kernel
theorem d_Mo_relative_101 : decode k_Mo_relative.code 101 = .ok (.ifCond .le 7, 3) := by decide +kernel
theorem d_Mo_relative_104 : decode k_Mo_relative.code 104 = .ok (.iconst 1, 1) := by decide +kernel
theorem d_Mo_relative_105 : decode k_Mo_relative.code 105 = .ok (.goto 4, 3) := by decide +kernel
theorem d_Mo_relative_108 : decode k_Mo_relative.code 108 = .ok (.iconst 0, 1) := by decide +kernel
theorem p_Mo_relative_109 : SiteP k_Mo_relative 109 8 15 .boolean := ⟨128, 28, R_Mo, "PhotoModelsModel", F_Mo, t_Mo, t_Mo_ok, n_Mo, by decide +kernel, tx4 60 rfl rfl, i_Mo, rfl, Or.inl rfl, rfl, by decide, rfl⟩
theorem d_Mo_relative_112 : decode k_Mo_relative.code 112 = .ok (.iconst 0, 1) := by decide +kernel
theorem d_Mo_relative_113 : decode k_Mo_relative.code 113 = .ok (.istore 6, 2) := by decide +kernel
theorem d_Mo_relative_115 : decode k_Mo_relative.code 115 = .ok (.iconst 0, 1) := by decide +kernel
theorem d_Mo_relative_116 : decode k_Mo_relative.code 116 = .ok (.istore 7, 2) := by decide +kernel
theorem d_Mo_relative_118 : decode k_Mo_relative.code 118 = .ok (.iload 7, 2) := by decide +kernel
theorem d_Mo_relative_120 : decode k_Mo_relative.code 120 = .ok (.iload_n 3, 1) := by decide +kernel
theorem d_Mo_relative_121 : decode k_Mo_relative.code 121 = .ok (.if_icmp .ge 154, 3) := by decide +kernel
theorem d_Mo_relative_124 : decode k_Mo_relative.code 124 = .ok (.iload 5, 2) := by decide +kernel
theorem d_Mo_relative_126 : decode k_Mo_relative.code 126 = .ok (.ifCond .le 149, 3) := by decide +kernel
theorem d_Mo_relative_129 : decode k_Mo_relative.code 129 = .ok (.aload_n 0, 1) := by decide +kernel
theorem d_Mo_relative_130 : decode k_Mo_relative.code 130 = .ok (.iload 7, 2) := by decide +kernel
theorem s_Mo_relative_132 : SiteV k_Mo_relative k_Mo_drawn 132 8 1 := ⟨131, (R_Mo, F_Mo, 28), by decide +kernel, ⟨kw_Mo_drawn, tx1 10 rfl rfl, by decide, by decide⟩, tx4 195 rfl rfl, tx4 197 rfl rfl, twp 29 rfl rfl, rfl, ⟨by decide +kernel, by decide +kernel⟩, np_Mo_drawn⟩
theorem d_Mo_relative_135 : decode k_Mo_relative.code 135 = .ok (.iload 5, 2) := by decide +kernel
theorem d_Mo_relative_137 : decode k_Mo_relative.code 137 = .ok (.irem, 1) := by decide +kernel
theorem d_Mo_relative_138 : decode k_Mo_relative.code 138 = .ok (.istore 8, 2) := by decide +kernel
theorem d_Mo_relative_140 : decode k_Mo_relative.code 140 = .ok (.iconst 0, 1) := by decide +kernel
theorem d_Mo_relative_141 : decode k_Mo_relative.code 141 = .ok (.istore 9, 2) := by decide +kernel
theorem d_Mo_relative_143 : decode k_Mo_relative.code 143 = .ok (.aload_n 0, 1) := by decide +kernel
theorem d_Mo_relative_144 : decode k_Mo_relative.code 144 = .ok (.iload 9, 2) := by decide +kernel
theorem d_Mo_relative_146 : decode k_Mo_relative.code 146 = .ok (.iload_n 1, 1) := by decide +kernel
theorem d_Mo_relative_147 : decode k_Mo_relative.code 147 = .ok (.iload_n 2, 1) := by decide +kernel
theorem s_Mo_relative_148 : SiteV k_Mo_relative k_Mo_isBoth 148 8 3 := ⟨121, (R_Mo, F_Mo, 28), by decide +kernel, ⟨kw_Mo_isBoth, tx1 10 rfl rfl, by decide, by decide⟩, tx4 187 rfl rfl, tx4 189 rfl rfl, twp 27 rfl rfl, rfl, ⟨by decide +kernel, by decide +kernel⟩, np_Mo_isBoth⟩
theorem d_Mo_relative_151 : decode k_Mo_relative.code 151 = .ok (.ifCond .eq 8, 3) := by decide +kernel
theorem d_Mo_relative_154 : decode k_Mo_relative.code 154 = .ok (.iload 8, 2) := by decide +kernel
theorem d_Mo_relative_156 : decode k_Mo_relative.code 156 = .ok (.ifCond .le 31, 3) := by decide +kernel
theorem d_Mo_relative_159 : decode k_Mo_relative.code 159 = .ok (.aload_n 0, 1) := by decide +kernel
theorem d_Mo_relative_160 : decode k_Mo_relative.code 160 = .ok (.iload 9, 2) := by decide +kernel
theorem d_Mo_relative_162 : decode k_Mo_relative.code 162 = .ok (.iload_n 1, 1) := by decide +kernel
theorem d_Mo_relative_163 : decode k_Mo_relative.code 163 = .ok (.iload_n 2, 1) := by decide +kernel
theorem s_Mo_relative_164 : SiteV k_Mo_relative k_Mo_isBoth 164 8 3 := ⟨121, (R_Mo, F_Mo, 28), by decide +kernel, ⟨kw_Mo_isBoth, tx1 10 rfl rfl, by decide, by decide⟩, tx4 187 rfl rfl, tx4 189 rfl rfl, twp 27 rfl rfl, rfl, ⟨by decide +kernel, by decide +kernel⟩, np_Mo_isBoth⟩
theorem d_Mo_relative_167 : decode k_Mo_relative.code 167 = .ok (.ifCond .eq 10, 3) := by decide +kernel
theorem d_Mo_relative_170 : decode k_Mo_relative.code 170 = .ok (.iload 8, 2) := by decide +kernel
theorem d_Mo_relative_172 : decode k_Mo_relative.code 172 = .ok (.iconst 1, 1) := by decide +kernel
theorem d_Mo_relative_173 : decode k_Mo_relative.code 173 = .ok (.isub, 1) := by decide +kernel
theorem d_Mo_relative_174 : decode k_Mo_relative.code 174 = .ok (.goto 5, 3) := by decide +kernel
theorem d_Mo_relative_177 : decode k_Mo_relative.code 177 = .ok (.iload 8, 2) := by decide +kernel
theorem d_Mo_relative_179 : decode k_Mo_relative.code 179 = .ok (.istore 8, 2) := by decide +kernel
theorem d_Mo_relative_181 : decode k_Mo_relative.code 181 = .ok (.iinc 9 1, 3) := by decide +kernel
theorem d_Mo_relative_184 : decode k_Mo_relative.code 184 = .ok (.goto (-41), 3) := by decide +kernel
theorem d_Mo_relative_187 : decode k_Mo_relative.code 187 = .ok (.aload_n 0, 1) := by decide +kernel
theorem d_Mo_relative_188 : decode k_Mo_relative.code 188 = .ok (.iload 9, 2) := by decide +kernel
theorem d_Mo_relative_190 : decode k_Mo_relative.code 190 = .ok (.iload_n 1, 1) := by decide +kernel
theorem d_Mo_relative_191 : decode k_Mo_relative.code 191 = .ok (.iload_n 2, 1) := by decide +kernel
theorem d_Mo_relative_192 : decode k_Mo_relative.code 192 = .ok (.iload 4, 2) := by decide +kernel
theorem s_Mo_relative_194 : SiteV k_Mo_relative k_Mo_agreeing 194 8 4 := ⟨135, (R_Mo, F_Mo, 28), by decide +kernel, ⟨kw_Mo_agreeing, tx1 10 rfl rfl, by decide, by decide⟩, tx4 200 rfl rfl, tx4 202 rfl rfl, twp 30 rfl rfl, rfl, ⟨by decide +kernel, by decide +kernel⟩, np_Mo_agreeing⟩
theorem d_Mo_relative_197 : decode k_Mo_relative.code 197 = .ok (.istore 10, 2) := by decide +kernel
theorem d_Mo_relative_199 : decode k_Mo_relative.code 199 = .ok (.aload_n 0, 1) := by decide +kernel
theorem d_Mo_relative_200 : decode k_Mo_relative.code 200 = .ok (.iload 10, 2) := by decide +kernel
theorem d_Mo_relative_202 : decode k_Mo_relative.code 202 = .ok (.iload 6, 2) := by decide +kernel
theorem d_Mo_relative_204 : decode k_Mo_relative.code 204 = .ok (.if_icmp .le 15, 3) := by decide +kernel
theorem d_Mo_relative_207 : decode k_Mo_relative.code 207 = .ok (.aload_n 0, 1) := by decide +kernel
theorem d_Mo_relative_208 : decode k_Mo_relative.code 208 = .ok (.iload 9, 2) := by decide +kernel
theorem d_Mo_relative_210 : decode k_Mo_relative.code 210 = .ok (.iload_n 1, 1) := by decide +kernel
theorem d_Mo_relative_211 : decode k_Mo_relative.code 211 = .ok (.iload_n 2, 1) := by decide +kernel
theorem d_Mo_relative_212 : decode k_Mo_relative.code 212 = .ok (.iconst 0, 1) := by decide +kernel
theorem s_Mo_relative_213 : SiteV k_Mo_relative k_Mo_between 213 8 4 := ⟨124, (R_Mo, F_Mo, 28), by decide +kernel, ⟨kw_Mo_between, tx1 10 rfl rfl, by decide, by decide⟩, tx4 204 rfl rfl, tx4 206 rfl rfl, twp 31 rfl rfl, rfl, ⟨by decide +kernel, by decide +kernel⟩, np_Mo_between⟩
theorem d_Mo_relative_216 : decode k_Mo_relative.code 216 = .ok (.goto 7, 3) := by decide +kernel
theorem d_Mo_relative_219 : decode k_Mo_relative.code 219 = .ok (.aload_n 0, 1) := by decide +kernel
theorem g_Mo_relative_220 : SiteG k_Mo_relative 220 8 16 := ⟨138, 28, R_Mo, "PhotoModelsModel", F_Mo, by decide +kernel, tx4 61 rfl rfl, i_Mo, rfl, rfl, by decide⟩
theorem p_Mo_relative_223 : SiteP k_Mo_relative 223 8 16 .int := ⟨138, 28, R_Mo, "PhotoModelsModel", F_Mo, t_Mo, t_Mo_ok, n_Mo, by decide +kernel, tx4 61 rfl rfl, i_Mo, rfl, Or.inl rfl, rfl, by decide, rfl⟩
theorem d_Mo_relative_226 : decode k_Mo_relative.code 226 = .ok (.aload_n 0, 1) := by decide +kernel
theorem d_Mo_relative_227 : decode k_Mo_relative.code 227 = .ok (.iload 10, 2) := by decide +kernel
theorem d_Mo_relative_229 : decode k_Mo_relative.code 229 = .ok (.iload 6, 2) := by decide +kernel
theorem d_Mo_relative_231 : decode k_Mo_relative.code 231 = .ok (.if_icmp .le 15, 3) := by decide +kernel
theorem d_Mo_relative_234 : decode k_Mo_relative.code 234 = .ok (.aload_n 0, 1) := by decide +kernel
theorem d_Mo_relative_235 : decode k_Mo_relative.code 235 = .ok (.iload 9, 2) := by decide +kernel
theorem d_Mo_relative_237 : decode k_Mo_relative.code 237 = .ok (.iload_n 1, 1) := by decide +kernel
theorem d_Mo_relative_238 : decode k_Mo_relative.code 238 = .ok (.iload_n 2, 1) := by decide +kernel
theorem d_Mo_relative_239 : decode k_Mo_relative.code 239 = .ok (.iconst 1, 1) := by decide +kernel
theorem s_Mo_relative_240 : SiteV k_Mo_relative k_Mo_between 240 8 4 := ⟨124, (R_Mo, F_Mo, 28), by decide +kernel, ⟨kw_Mo_between, tx1 10 rfl rfl, by decide, by decide⟩, tx4 204 rfl rfl, tx4 206 rfl rfl, twp 31 rfl rfl, rfl, ⟨by decide +kernel, by decide +kernel⟩, np_Mo_between⟩
theorem d_Mo_relative_243 : decode k_Mo_relative.code 243 = .ok (.goto 7, 3) := by decide +kernel
theorem d_Mo_relative_246 : decode k_Mo_relative.code 246 = .ok (.aload_n 0, 1) := by decide +kernel
theorem g_Mo_relative_247 : SiteG k_Mo_relative 247 8 17 := ⟨141, 28, R_Mo, "PhotoModelsModel", F_Mo, by decide +kernel, tx4 62 rfl rfl, i_Mo, rfl, rfl, by decide⟩
theorem p_Mo_relative_250 : SiteP k_Mo_relative 250 8 17 .int := ⟨141, 28, R_Mo, "PhotoModelsModel", F_Mo, t_Mo, t_Mo_ok, n_Mo, by decide +kernel, tx4 62 rfl rfl, i_Mo, rfl, Or.inl rfl, rfl, by decide, rfl⟩
theorem d_Mo_relative_253 : decode k_Mo_relative.code 253 = .ok (.iload 10, 2) := by decide +kernel
theorem d_Mo_relative_255 : decode k_Mo_relative.code 255 = .ok (.iload 6, 2) := by decide +kernel
theorem d_Mo_relative_257 : decode k_Mo_relative.code 257 = .ok (.if_icmp .le 8, 3) := by decide +kernel
theorem d_Mo_relative_260 : decode k_Mo_relative.code 260 = .ok (.iload 10, 2) := by decide +kernel
theorem d_Mo_relative_262 : decode k_Mo_relative.code 262 = .ok (.goto 5, 3) := by decide +kernel
theorem d_Mo_relative_265 : decode k_Mo_relative.code 265 = .ok (.iload 6, 2) := by decide +kernel
theorem d_Mo_relative_267 : decode k_Mo_relative.code 267 = .ok (.istore 6, 2) := by decide +kernel
theorem d_Mo_relative_269 : decode k_Mo_relative.code 269 = .ok (.iinc 7 1, 3) := by decide +kernel
theorem d_Mo_relative_272 : decode k_Mo_relative.code 272 = .ok (.goto (-154), 3) := by decide +kernel
theorem d_Mo_relative_275 : decode k_Mo_relative.code 275 = .ok (.iload 6, 2) := by decide +kernel
theorem d_Mo_relative_277 : decode k_Mo_relative.code 277 = .ok (.ireturn, 1) := by decide +kernel
theorem d_Mo_isBoth_0 : decode k_Mo_isBoth.code 0 = .ok (.aload_n 0, 1) := by decide +kernel
theorem d_Mo_isBoth_1 : decode k_Mo_isBoth.code 1 = .ok (.iload_n 1, 1) := by decide +kernel
theorem d_Mo_isBoth_2 : decode k_Mo_isBoth.code 2 = .ok (.iload_n 2, 1) := by decide +kernel
theorem s_Mo_isBoth_3 : SiteV k_Mo_isBoth k_Mo_isSeen 3 8 2 := ⟨115, (R_Mo, F_Mo, 28), by decide +kernel, ⟨kw_Mo_isSeen, tx1 10 rfl rfl, by decide, by decide⟩, tx4 191 rfl rfl, tx4 193 rfl rfl, twp 28 rfl rfl, rfl, ⟨by decide +kernel, by decide +kernel⟩, np_Mo_isSeen⟩
theorem d_Mo_isBoth_6 : decode k_Mo_isBoth.code 6 = .ok (.ifCond .eq 16, 3) := by decide +kernel
theorem d_Mo_isBoth_9 : decode k_Mo_isBoth.code 9 = .ok (.aload_n 0, 1) := by decide +kernel
theorem d_Mo_isBoth_10 : decode k_Mo_isBoth.code 10 = .ok (.iload_n 1, 1) := by decide +kernel
theorem d_Mo_isBoth_11 : decode k_Mo_isBoth.code 11 = .ok (.iload_n 3, 1) := by decide +kernel
theorem s_Mo_isBoth_12 : SiteV k_Mo_isBoth k_Mo_isSeen 12 8 2 := ⟨115, (R_Mo, F_Mo, 28), by decide +kernel, ⟨kw_Mo_isSeen, tx1 10 rfl rfl, by decide, by decide⟩, tx4 191 rfl rfl, tx4 193 rfl rfl, twp 28 rfl rfl, rfl, ⟨by decide +kernel, by decide +kernel⟩, np_Mo_isSeen⟩
theorem d_Mo_isBoth_15 : decode k_Mo_isBoth.code 15 = .ok (.ifCond .eq 7, 3) := by decide +kernel
theorem d_Mo_isBoth_18 : decode k_Mo_isBoth.code 18 = .ok (.iconst 1, 1) := by decide +kernel
theorem d_Mo_isBoth_19 : decode k_Mo_isBoth.code 19 = .ok (.goto 4, 3) := by decide +kernel
theorem d_Mo_isBoth_22 : decode k_Mo_isBoth.code 22 = .ok (.iconst 0, 1) := by decide +kernel
theorem d_Mo_isBoth_23 : decode k_Mo_isBoth.code 23 = .ok (.ireturn, 1) := by decide +kernel
