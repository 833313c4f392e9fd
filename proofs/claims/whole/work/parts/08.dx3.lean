theorem d_Pm_init_0 : decode k_Pm_init.code 0 = .ok (.aload_n 0, 1) := by decide +kernel
theorem s_Pm_init_1 : SiteO k_Pm_init 1 := ⟨1, by decide +kernel, tx1 24 rfl rfl, tx1 25 rfl rfl, tx1 26 rfl rfl, by decide, by decide⟩
theorem d_Pm_init_4 : decode k_Pm_init.code 4 = .ok (.iload_n 1, 1) := by decide +kernel
theorem d_Pm_init_5 : decode k_Pm_init.code 5 = .ok (.bipush 6, 2) := by decide +kernel
theorem d_Pm_init_7 : decode k_Pm_init.code 7 = .ok (.bipush 20, 2) := by decide +kernel
theorem s_Pm_init_9 : SiteS k_Pm_init k_Pm_within 9 3 := ⟨9, by decide +kernel, ⟨kw_Pm_within, tx1 1 rfl rfl, by decide, by decide⟩, Or.inl (tx1 27 rfl rfl), tx1 28 rfl rfl, ⟨by decide +kernel, by decide +kernel⟩, np_Pm_within⟩
theorem d_Pm_init_12 : decode k_Pm_init.code 12 = .ok (.istore 4, 2) := by decide +kernel
theorem d_Pm_init_14 : decode k_Pm_init.code 14 = .ok (.iload_n 2, 1) := by decide +kernel
theorem d_Pm_init_15 : decode k_Pm_init.code 15 = .ok (.bipush 6, 2) := by decide +kernel
theorem d_Pm_init_17 : decode k_Pm_init.code 17 = .ok (.bipush 20, 2) := by decide +kernel
theorem s_Pm_init_19 : SiteS k_Pm_init k_Pm_within 19 3 := ⟨9, by decide +kernel, ⟨kw_Pm_within, tx1 1 rfl rfl, by decide, by decide⟩, Or.inl (tx1 27 rfl rfl), tx1 28 rfl rfl, ⟨by decide +kernel, by decide +kernel⟩, np_Pm_within⟩
theorem d_Pm_init_22 : decode k_Pm_init.code 22 = .ok (.istore 5, 2) := by decide +kernel
theorem d_Pm_init_24 : decode k_Pm_init.code 24 = .ok (.aload_n 0, 1) := by decide +kernel
theorem n_Pm_init_25 : SiteN k_Pm_init 25 3 [.int 0, .int 0, .null] := ⟨13, 3, R_Ph, F_Ph, t_Ph, t_Ph_ok, by decide +kernel, tx1 36 rfl rfl, tx1 37 rfl rfl, tx1 3 rfl rfl, i_Ph, rfl, rfl⟩
theorem d_Pm_init_28 : decode k_Pm_init.code 28 = .ok (.dup, 1) := by decide +kernel
theorem d_Pm_init_29 : decode k_Pm_init.code 29 = .ok (.iload 4, 2) := by decide +kernel
theorem d_Pm_init_31 : decode k_Pm_init.code 31 = .ok (.iload 5, 2) := by decide +kernel
theorem s_Pm_init_33 : SiteI k_Pm_init k_Ph_init 33 2 := ⟨15, by decide +kernel, ⟨kw_Ph_init, tx1 3 rfl rfl, by decide, by decide⟩, rfl, rfl, rfl, Or.inl (tx1 38 rfl rfl), tx1 39 rfl rfl, ⟨by decide +kernel, by decide +kernel⟩, np_Ph_init⟩
theorem p_Pm_init_36 : SiteP k_Pm_init 36 7 0 (.object "PhotoModels$Photos") := ⟨18, 7, R_Pm, "PhotoModels", F_Pm, t_Pm, t_Pm_ok, n_Pm, by decide +kernel, tx1 208 rfl rfl, i_Pm, rfl, Or.inr ⟨rfl, rfl, rfl⟩, rfl, by decide, rfl⟩
theorem d_Pm_init_39 : decode k_Pm_init.code 39 = .ok (.aload_n 0, 1) := by decide +kernel
theorem n_Pm_init_40 : SiteN k_Pm_init 40 6 [.int 0, .int 0, .null, .int 0, .int 0, .int 0, .int 0] := ⟨22, 7, R_Se, F_Se, t_Se, t_Se_ok, by decide +kernel, tx1 53 rfl rfl, tx1 54 rfl rfl, tx1 4 rfl rfl, i_Se, rfl, rfl⟩
theorem d_Pm_init_43 : decode k_Pm_init.code 43 = .ok (.dup, 1) := by decide +kernel
theorem d_Pm_init_44 : decode k_Pm_init.code 44 = .ok (.iload 4, 2) := by decide +kernel
theorem d_Pm_init_46 : decode k_Pm_init.code 46 = .ok (.iload 5, 2) := by decide +kernel
theorem s_Pm_init_48 : SiteI k_Pm_init k_Se_init 48 2 := ⟨24, by decide +kernel, ⟨kw_Se_init, tx1 4 rfl rfl, by decide, by decide⟩, rfl, rfl, rfl, Or.inl (tx1 55 rfl rfl), tx1 56 rfl rfl, ⟨by decide +kernel, by decide +kernel⟩, np_Se_init⟩
theorem p_Pm_init_51 : SiteP k_Pm_init 51 7 1 (.object "PhotoModels$Search") := ⟨25, 7, R_Pm, "PhotoModels", F_Pm, t_Pm, t_Pm_ok, n_Pm, by decide +kernel, tx1 209 rfl rfl, i_Pm, rfl, Or.inr ⟨rfl, rfl, rfl⟩, rfl, by decide, rfl⟩
theorem d_Pm_init_54 : decode k_Pm_init.code 54 = .ok (.aload_n 0, 1) := by decide +kernel
theorem n_Pm_init_55 : SiteN k_Pm_init 55 4 [.null, .null, .null, .int 0, .int 0] := ⟨29, 5, R_Pl, F_Pl, t_Pl, t_Pl_ok, by decide +kernel, tx1 81 rfl rfl, tx1 82 rfl rfl, tx1 5 rfl rfl, i_Pl, rfl, rfl⟩
theorem d_Pm_init_58 : decode k_Pm_init.code 58 = .ok (.dup, 1) := by decide +kernel
theorem s_Pm_init_59 : SiteI k_Pm_init k_Pl_init 59 0 := ⟨31, by decide +kernel, ⟨kw_Pl_init, tx1 5 rfl rfl, by decide, by decide⟩, rfl, rfl, rfl, Or.inr ⟨"PhotoModels", tx1 83 rfl rfl⟩, tx1 84 rfl rfl, ⟨by decide +kernel, by decide +kernel⟩, np_Pl_init⟩
theorem p_Pm_init_62 : SiteP k_Pm_init 62 7 2 (.object "PhotoModels$Places") := ⟨32, 7, R_Pm, "PhotoModels", F_Pm, t_Pm, t_Pm_ok, n_Pm, by decide +kernel, tx1 210 rfl rfl, i_Pm, rfl, Or.inr ⟨rfl, rfl, rfl⟩, rfl, by decide, rfl⟩
theorem d_Pm_init_65 : decode k_Pm_init.code 65 = .ok (.aload_n 0, 1) := by decide +kernel
theorem n_Pm_init_66 : SiteN k_Pm_init 66 1 [.int 0, .null, .null, .int 0, .int 0, .int 0, .int 0] := ⟨36, 7, R_Ag, F_Ag, t_Ag, t_Ag_ok, by decide +kernel, tx1 104 rfl rfl, tx1 105 rfl rfl, tx1 6 rfl rfl, i_Ag, rfl, rfl⟩
theorem d_Pm_init_69 : decode k_Pm_init.code 69 = .ok (.dup, 1) := by decide +kernel
theorem d_Pm_init_70 : decode k_Pm_init.code 70 = .ok (.iload_n 3, 1) := by decide +kernel
theorem d_Pm_init_71 : decode k_Pm_init.code 71 = .ok (.iconst 0, 1) := by decide +kernel
theorem d_Pm_init_72 : decode k_Pm_init.code 72 = .ok (.ldc 38, 2) := by decide +kernel
theorem c_Pm_init_72 : Cond.constant k_Pm_init.y.cls 38 65536 ∈ tw := tx1 106 rfl rfl
theorem s_Pm_init_74 : SiteS k_Pm_init k_Pm_within 74 3 := ⟨9, by decide +kernel, ⟨kw_Pm_within, tx1 1 rfl rfl, by decide, by decide⟩, Or.inl (tx1 27 rfl rfl), tx1 28 rfl rfl, ⟨by decide +kernel, by decide +kernel⟩, np_Pm_within⟩
theorem s_Pm_init_77 : SiteI k_Pm_init k_Ag_init 77 1 := ⟨39, by decide +kernel, ⟨kw_Ag_init, tx1 6 rfl rfl, by decide, by decide⟩, rfl, rfl, rfl, Or.inl (tx1 107 rfl rfl), tx1 108 rfl rfl, ⟨by decide +kernel, by decide +kernel⟩, np_Ag_init⟩
theorem p_Pm_init_80 : SiteP k_Pm_init 80 7 3 (.object "PhotoModels$Agreement") := ⟨42, 7, R_Pm, "PhotoModels", F_Pm, t_Pm, t_Pm_ok, n_Pm, by decide +kernel, tx1 211 rfl rfl, i_Pm, rfl, Or.inr ⟨rfl, rfl, rfl⟩, rfl, by decide, rfl⟩
theorem d_Pm_init_83 : decode k_Pm_init.code 83 = .ok (.aload_n 0, 1) := by decide +kernel
theorem n_Pm_init_84 : SiteN k_Pm_init 84 0 [.null, .null, .null, .null] := ⟨46, 4, R_Ad, F_Ad, t_Ad, t_Ad_ok, by decide +kernel, tx1 133 rfl rfl, tx1 134 rfl rfl, tx1 7 rfl rfl, i_Ad, rfl, rfl⟩
theorem d_Pm_init_87 : decode k_Pm_init.code 87 = .ok (.dup, 1) := by decide +kernel
theorem s_Pm_init_88 : SiteI k_Pm_init k_Ad_init 88 0 := ⟨48, by decide +kernel, ⟨kw_Ad_init, tx1 7 rfl rfl, by decide, by decide⟩, rfl, rfl, rfl, Or.inr ⟨"PhotoModels", tx1 135 rfl rfl⟩, tx1 136 rfl rfl, ⟨by decide +kernel, by decide +kernel⟩, np_Ad_init⟩
theorem p_Pm_init_91 : SiteP k_Pm_init 91 7 4 (.object "PhotoModels$Adjustment") := ⟨49, 7, R_Pm, "PhotoModels", F_Pm, t_Pm, t_Pm_ok, n_Pm, by decide +kernel, tx1 212 rfl rfl, i_Pm, rfl, Or.inr ⟨rfl, rfl, rfl⟩, rfl, by decide, rfl⟩
theorem d_Pm_init_94 : decode k_Pm_init.code 94 = .ok (.aload_n 0, 1) := by decide +kernel
theorem n_Pm_init_95 : SiteN k_Pm_init 95 2 [.null, .null, .null, .int 0] := ⟨53, 4, R_Le, F_Le, t_Le, t_Le_ok, by decide +kernel, tx1 152 rfl rfl, tx1 153 rfl rfl, tx1 8 rfl rfl, i_Le, rfl, rfl⟩
theorem d_Pm_init_98 : decode k_Pm_init.code 98 = .ok (.dup, 1) := by decide +kernel
theorem s_Pm_init_99 : SiteI k_Pm_init k_Le_init 99 0 := ⟨55, by decide +kernel, ⟨kw_Le_init, tx1 8 rfl rfl, by decide, by decide⟩, rfl, rfl, rfl, Or.inr ⟨"PhotoModels", tx1 154 rfl rfl⟩, tx1 155 rfl rfl, ⟨by decide +kernel, by decide +kernel⟩, np_Le_init⟩
theorem p_Pm_init_102 : SiteP k_Pm_init 102 7 5 (.object "PhotoModels$Lengths") := ⟨56, 7, R_Pm, "PhotoModels", F_Pm, t_Pm, t_Pm_ok, n_Pm, by decide +kernel, tx1 213 rfl rfl, i_Pm, rfl, Or.inr ⟨rfl, rfl, rfl⟩, rfl, by decide, rfl⟩
theorem d_Pm_init_105 : decode k_Pm_init.code 105 = .ok (.aload_n 0, 1) := by decide +kernel
theorem n_Pm_init_106 : SiteN k_Pm_init 106 5 [.int 0, .int 0, .null, .null, .null, .int 0, .null, .null, .int 0, .int 0] := ⟨60, 10, R_Re, F_Re, t_Re, t_Re_ok, by decide +kernel, tx1 171 rfl rfl, tx1 172 rfl rfl, tx1 9 rfl rfl, i_Re, rfl, rfl⟩
theorem d_Pm_init_109 : decode k_Pm_init.code 109 = .ok (.dup, 1) := by decide +kernel
theorem d_Pm_init_110 : decode k_Pm_init.code 110 = .ok (.iload 4, 2) := by decide +kernel
theorem d_Pm_init_112 : decode k_Pm_init.code 112 = .ok (.iload 5, 2) := by decide +kernel
theorem s_Pm_init_114 : SiteI k_Pm_init k_Re_init 114 2 := ⟨62, by decide +kernel, ⟨kw_Re_init, tx1 9 rfl rfl, by decide, by decide⟩, rfl, rfl, rfl, Or.inl (tx1 173 rfl rfl), tx1 174 rfl rfl, ⟨by decide +kernel, by decide +kernel⟩, np_Re_init⟩
theorem p_Pm_init_117 : SiteP k_Pm_init 117 7 6 (.object "PhotoModels$Relief") := ⟨63, 7, R_Pm, "PhotoModels", F_Pm, t_Pm, t_Pm_ok, n_Pm, by decide +kernel, tx1 214 rfl rfl, i_Pm, rfl, Or.inr ⟨rfl, rfl, rfl⟩, rfl, by decide, rfl⟩
theorem d_Pm_init_120 : decode k_Pm_init.code 120 = .ok (.return_, 1) := by decide +kernel
theorem d_Pm_within_0 : decode k_Pm_within.code 0 = .ok (.iload_n 1, 1) := by decide +kernel
theorem d_Pm_within_1 : decode k_Pm_within.code 1 = .ok (.iload_n 2, 1) := by decide +kernel
theorem d_Pm_within_2 : decode k_Pm_within.code 2 = .ok (.iload_n 0, 1) := by decide +kernel
theorem s_Pm_within_3 : SiteM k_Pm_within 3 Lib.Math.min.name Lib.Math.min.code 2 := ⟨197, by decide +kernel, tx1 30 rfl rfl, tx1 31 rfl rfl, tx1 2 rfl rfl, tx1 32 rfl rfl, by decide, by decide⟩
theorem s_Pm_within_6 : SiteM k_Pm_within 6 Lib.Math.max.name Lib.Math.max.code 2 := ⟨202, by decide +kernel, tx1 33 rfl rfl, tx1 34 rfl rfl, tx1 2 rfl rfl, tx1 35 rfl rfl, by decide, by decide⟩
theorem d_Pm_within_9 : decode k_Pm_within.code 9 = .ok (.ireturn, 1) := by decide +kernel
theorem d_Pm_sum_0 : decode k_Pm_sum.code 0 = .ok (.aload_n 0, 1) := by decide +kernel
theorem g_Pm_sum_1 : SiteG k_Pm_sum 1 7 4 := ⟨49, 7, R_Pm, "PhotoModels", F_Pm, by decide +kernel, tx1 212 rfl rfl, i_Pm, rfl, rfl, by decide⟩
theorem d_Pm_sum_4 : decode k_Pm_sum.code 4 = .ok (.aload_n 0, 1) := by decide +kernel
theorem g_Pm_sum_5 : SiteG k_Pm_sum 5 7 2 := ⟨32, 7, R_Pm, "PhotoModels", F_Pm, by decide +kernel, tx1 210 rfl rfl, i_Pm, rfl, rfl, by decide⟩
theorem s_Pm_sum_8 : SiteV k_Pm_sum k_Ad_total 8 0 1 := ⟨146, (R_Ad, F_Ad, 4), by decide +kernel, ⟨kw_Ad_total, tx1 7 rfl rfl, by decide, by decide⟩, tx1 234 rfl rfl, tx1 235 rfl rfl, tx1 236 rfl rfl, rfl, ⟨by decide +kernel, by decide +kernel⟩, np_Ad_total⟩
theorem d_Pm_sum_11 : decode k_Pm_sum.code 11 = .ok (.lreturn, 1) := by decide +kernel
theorem d_Pm_pixel_0 : decode k_Pm_pixel.code 0 = .ok (.iload_n 1, 1) := by decide +kernel
theorem s_Pm_pixel_1 : SiteS k_Pm_pixel k_Pm_isPhoto 1 1 := ⟨67, by decide +kernel, ⟨kw_Pm_isPhoto, tx1 1 rfl rfl, by decide, by decide⟩, Or.inl (tx2 39 rfl rfl), tx2 40 rfl rfl, ⟨by decide +kernel, by decide +kernel⟩, np_Pm_isPhoto⟩
theorem d_Pm_pixel_4 : decode k_Pm_pixel.code 4 = .ok (.ifCond .eq 19, 3) := by decide +kernel
theorem d_Pm_pixel_7 : decode k_Pm_pixel.code 7 = .ok (.aload_n 0, 1) := by decide +kernel
theorem g_Pm_pixel_8 : SiteG k_Pm_pixel 8 7 0 := ⟨18, 7, R_Pm, "PhotoModels", F_Pm, by decide +kernel, tx1 208 rfl rfl, i_Pm, rfl, rfl, by decide⟩
theorem d_Pm_pixel_11 : decode k_Pm_pixel.code 11 = .ok (.iload_n 2, 1) := by decide +kernel
theorem d_Pm_pixel_12 : decode k_Pm_pixel.code 12 = .ok (.iload_n 3, 1) := by decide +kernel
theorem s_Pm_pixel_13 : SiteV k_Pm_pixel k_Ph_hasCell 13 3 2 := ⟨71, (R_Ph, F_Ph, 3), by decide +kernel, ⟨kw_Ph_hasCell, tx1 3 rfl rfl, by decide, by decide⟩, tx2 45 rfl rfl, tx2 46 rfl rfl, tx2 47 rfl rfl, rfl, ⟨by decide +kernel, by decide +kernel⟩, np_Ph_hasCell⟩
theorem d_Pm_pixel_16 : decode k_Pm_pixel.code 16 = .ok (.ifCond .eq 7, 3) := by decide +kernel
theorem d_Pm_pixel_19 : decode k_Pm_pixel.code 19 = .ok (.iconst 1, 1) := by decide +kernel
theorem d_Pm_pixel_20 : decode k_Pm_pixel.code 20 = .ok (.goto 4, 3) := by decide +kernel
theorem d_Pm_pixel_23 : decode k_Pm_pixel.code 23 = .ok (.iconst 0, 1) := by decide +kernel
theorem s_Pm_pixel_24 : SiteS k_Pm_pixel k_Pm_needIndex 24 1 := ⟨75, by decide +kernel, ⟨kw_Pm_needIndex, tx1 1 rfl rfl, by decide, by decide⟩, Or.inl (tx2 50 rfl rfl), tx2 51 rfl rfl, ⟨by decide +kernel, by decide +kernel⟩, np_Pm_needIndex⟩
theorem d_Pm_pixel_27 : decode k_Pm_pixel.code 27 = .ok (.iload 4, 2) := by decide +kernel
theorem d_Pm_pixel_29 : decode k_Pm_pixel.code 29 = .ok (.iconst 0, 1) := by decide +kernel
theorem d_Pm_pixel_30 : decode k_Pm_pixel.code 30 = .ok (.sipush 255, 3) := by decide +kernel
theorem s_Pm_pixel_33 : SiteS k_Pm_pixel k_Pm_isWithin 33 3 := ⟨79, by decide +kernel, ⟨kw_Pm_isWithin, tx1 1 rfl rfl, by decide, by decide⟩, Or.inl (tx2 42 rfl rfl), tx2 43 rfl rfl, ⟨by decide +kernel, by decide +kernel⟩, np_Pm_isWithin⟩
theorem s_Pm_pixel_36 : SiteS k_Pm_pixel k_Pm_needArgument 36 1 := ⟨83, by decide +kernel, ⟨kw_Pm_needArgument, tx1 1 rfl rfl, by decide, by decide⟩, Or.inl (tx2 121 rfl rfl), tx2 122 rfl rfl, ⟨by decide +kernel, by decide +kernel⟩, np_Pm_needArgument⟩
theorem d_Pm_pixel_39 : decode k_Pm_pixel.code 39 = .ok (.aload_n 0, 1) := by decide +kernel
theorem g_Pm_pixel_40 : SiteG k_Pm_pixel 40 7 0 := ⟨18, 7, R_Pm, "PhotoModels", F_Pm, by decide +kernel, tx1 208 rfl rfl, i_Pm, rfl, rfl, by decide⟩
theorem d_Pm_pixel_43 : decode k_Pm_pixel.code 43 = .ok (.iload_n 1, 1) := by decide +kernel
theorem d_Pm_pixel_44 : decode k_Pm_pixel.code 44 = .ok (.iload_n 2, 1) := by decide +kernel
theorem d_Pm_pixel_45 : decode k_Pm_pixel.code 45 = .ok (.iload_n 3, 1) := by decide +kernel
theorem d_Pm_pixel_46 : decode k_Pm_pixel.code 46 = .ok (.iload 4, 2) := by decide +kernel
theorem s_Pm_pixel_48 : SiteV k_Pm_pixel k_Ph_change 48 3 4 := ⟨86, (R_Ph, F_Ph, 3), by decide +kernel, ⟨kw_Ph_change, tx1 3 rfl rfl, by decide, by decide⟩, tx2 140 rfl rfl, tx2 141 rfl rfl, tx2 142 rfl rfl, rfl, ⟨by decide +kernel, by decide +kernel⟩, np_Ph_change⟩
theorem d_Pm_pixel_51 : decode k_Pm_pixel.code 51 = .ok (.ireturn, 1) := by decide +kernel
theorem d_Pm_isPhoto_0 : decode k_Pm_isPhoto.code 0 = .ok (.iload_n 0, 1) := by decide +kernel
theorem d_Pm_isPhoto_1 : decode k_Pm_isPhoto.code 1 = .ok (.iconst 0, 1) := by decide +kernel
theorem d_Pm_isPhoto_2 : decode k_Pm_isPhoto.code 2 = .ok (.iconst 3, 1) := by decide +kernel
theorem s_Pm_isPhoto_3 : SiteS k_Pm_isPhoto k_Pm_isWithin 3 3 := ⟨79, by decide +kernel, ⟨kw_Pm_isWithin, tx1 1 rfl rfl, by decide, by decide⟩, Or.inl (tx2 42 rfl rfl), tx2 43 rfl rfl, ⟨by decide +kernel, by decide +kernel⟩, np_Pm_isWithin⟩
theorem d_Pm_isPhoto_6 : decode k_Pm_isPhoto.code 6 = .ok (.ireturn, 1) := by decide +kernel
theorem d_Pm_isWithin_0 : decode k_Pm_isWithin.code 0 = .ok (.iload_n 0, 1) := by decide +kernel
theorem d_Pm_isWithin_1 : decode k_Pm_isWithin.code 1 = .ok (.iload_n 1, 1) := by decide +kernel
theorem d_Pm_isWithin_2 : decode k_Pm_isWithin.code 2 = .ok (.if_icmp .lt 12, 3) := by decide +kernel
theorem d_Pm_isWithin_5 : decode k_Pm_isWithin.code 5 = .ok (.iload_n 0, 1) := by decide +kernel
theorem d_Pm_isWithin_6 : decode k_Pm_isWithin.code 6 = .ok (.iload_n 2, 1) := by decide +kernel
theorem d_Pm_isWithin_7 : decode k_Pm_isWithin.code 7 = .ok (.if_icmp .gt 7, 3) := by decide +kernel
theorem d_Pm_isWithin_10 : decode k_Pm_isWithin.code 10 = .ok (.iconst 1, 1) := by decide +kernel
theorem d_Pm_isWithin_11 : decode k_Pm_isWithin.code 11 = .ok (.goto 4, 3) := by decide +kernel
theorem d_Pm_isWithin_14 : decode k_Pm_isWithin.code 14 = .ok (.iconst 0, 1) := by decide +kernel
theorem d_Pm_isWithin_15 : decode k_Pm_isWithin.code 15 = .ok (.ireturn, 1) := by decide +kernel
theorem d_Pm_needIndex_0 : decode k_Pm_needIndex.code 0 = .ok (.iload_n 0, 1) := by decide +kernel
theorem d_Pm_needIndex_1 : decode k_Pm_needIndex.code 1 = .ok (.ifCond .ne 13, 3) := by decide +kernel
theorem d_Pm_needIndex_4 : decode k_Pm_needIndex.code 4 = .ok (.new 190, 3) := by decide +kernel
theorem d_Pm_needIndex_7 : decode k_Pm_needIndex.code 7 = .ok (.dup, 1) := by decide +kernel
theorem d_Pm_needIndex_8 : decode k_Pm_needIndex.code 8 = .ok (.ldc 205, 2) := by decide +kernel
theorem d_Pm_needIndex_10 : decode k_Pm_needIndex.code 10 = .ok (.invokespecial 194, 3) := by decide +kernel
theorem d_Pm_needIndex_13 : decode k_Pm_needIndex.code 13 = .ok (.athrow, 1) := by decide +kernel
theorem d_Pm_needIndex_14 : decode k_Pm_needIndex.code 14 = .ok (.return_, 1) := by decide +kernel
theorem d_Pm_needArgument_0 : decode k_Pm_needArgument.code 0 = .ok (.iload_n 0, 1) := by decide +kernel
theorem d_Pm_needArgument_1 : decode k_Pm_needArgument.code 1 = .ok (.ifCond .ne 13, 3) := by decide +kernel
theorem d_Pm_needArgument_4 : decode k_Pm_needArgument.code 4 = .ok (.new 207, 3) := by decide +kernel
theorem d_Pm_needArgument_7 : decode k_Pm_needArgument.code 7 = .ok (.dup, 1) := by decide +kernel
theorem d_Pm_needArgument_8 : decode k_Pm_needArgument.code 8 = .ok (.ldc 209, 2) := by decide +kernel
theorem d_Pm_needArgument_10 : decode k_Pm_needArgument.code 10 = .ok (.invokespecial 211, 3) := by decide +kernel
theorem d_Pm_needArgument_13 : decode k_Pm_needArgument.code 13 = .ok (.athrow, 1) := by decide +kernel
theorem d_Pm_needArgument_14 : decode k_Pm_needArgument.code 14 = .ok (.return_, 1) := by decide +kernel
theorem d_Pm_match_0 : decode k_Pm_match.code 0 = .ok (.iload_n 1, 1) := by decide +kernel
theorem s_Pm_match_1 : SiteS k_Pm_match k_Pm_isPhoto 1 1 := ⟨67, by decide +kernel, ⟨kw_Pm_isPhoto, tx1 1 rfl rfl, by decide, by decide⟩, Or.inl (tx2 39 rfl rfl), tx2 40 rfl rfl, ⟨by decide +kernel, by decide +kernel⟩, np_Pm_isPhoto⟩
theorem d_Pm_match_4 : decode k_Pm_match.code 4 = .ok (.ifCond .eq 27, 3) := by decide +kernel
theorem d_Pm_match_7 : decode k_Pm_match.code 7 = .ok (.iload_n 2, 1) := by decide +kernel
theorem s_Pm_match_8 : SiteS k_Pm_match k_Pm_isPhoto 8 1 := ⟨67, by decide +kernel, ⟨kw_Pm_isPhoto, tx1 1 rfl rfl, by decide, by decide⟩, Or.inl (tx2 39 rfl rfl), tx2 40 rfl rfl, ⟨by decide +kernel, by decide +kernel⟩, np_Pm_isPhoto⟩
theorem d_Pm_match_11 : decode k_Pm_match.code 11 = .ok (.ifCond .eq 20, 3) := by decide +kernel
theorem d_Pm_match_14 : decode k_Pm_match.code 14 = .ok (.aload_n 0, 1) := by decide +kernel
theorem g_Pm_match_15 : SiteG k_Pm_match 15 7 0 := ⟨18, 7, R_Pm, "PhotoModels", F_Pm, by decide +kernel, tx1 208 rfl rfl, i_Pm, rfl, rfl, by decide⟩
theorem d_Pm_match_18 : decode k_Pm_match.code 18 = .ok (.iload_n 3, 1) := by decide +kernel
theorem d_Pm_match_19 : decode k_Pm_match.code 19 = .ok (.iload 4, 2) := by decide +kernel
theorem s_Pm_match_21 : SiteV k_Pm_match k_Ph_hasWindow 21 3 2 := ⟨90, (R_Ph, F_Ph, 3), by decide +kernel, ⟨kw_Ph_hasWindow, tx1 3 rfl rfl, by decide, by decide⟩, tx2 155 rfl rfl, tx2 156 rfl rfl, tx2 157 rfl rfl, rfl, ⟨by decide +kernel, by decide +kernel⟩, np_Ph_hasWindow⟩
theorem d_Pm_match_24 : decode k_Pm_match.code 24 = .ok (.ifCond .eq 7, 3) := by decide +kernel
theorem d_Pm_match_27 : decode k_Pm_match.code 27 = .ok (.iconst 1, 1) := by decide +kernel
theorem d_Pm_match_28 : decode k_Pm_match.code 28 = .ok (.goto 4, 3) := by decide +kernel
theorem d_Pm_match_31 : decode k_Pm_match.code 31 = .ok (.iconst 0, 1) := by decide +kernel
theorem s_Pm_match_32 : SiteS k_Pm_match k_Pm_needIndex 32 1 := ⟨75, by decide +kernel, ⟨kw_Pm_needIndex, tx1 1 rfl rfl, by decide, by decide⟩, Or.inl (tx2 50 rfl rfl), tx2 51 rfl rfl, ⟨by decide +kernel, by decide +kernel⟩, np_Pm_needIndex⟩
theorem d_Pm_match_35 : decode k_Pm_match.code 35 = .ok (.aload_n 0, 1) := by decide +kernel
theorem g_Pm_match_36 : SiteG k_Pm_match 36 7 1 := ⟨25, 7, R_Pm, "PhotoModels", F_Pm, by decide +kernel, tx1 209 rfl rfl, i_Pm, rfl, rfl, by decide⟩
theorem d_Pm_match_39 : decode k_Pm_match.code 39 = .ok (.aload_n 0, 1) := by decide +kernel
theorem g_Pm_match_40 : SiteG k_Pm_match 40 7 0 := ⟨18, 7, R_Pm, "PhotoModels", F_Pm, by decide +kernel, tx1 208 rfl rfl, i_Pm, rfl, rfl, by decide⟩
theorem d_Pm_match_43 : decode k_Pm_match.code 43 = .ok (.iload_n 1, 1) := by decide +kernel
theorem d_Pm_match_44 : decode k_Pm_match.code 44 = .ok (.iload_n 2, 1) := by decide +kernel
theorem d_Pm_match_45 : decode k_Pm_match.code 45 = .ok (.iload_n 3, 1) := by decide +kernel
theorem d_Pm_match_46 : decode k_Pm_match.code 46 = .ok (.iload 4, 2) := by decide +kernel
theorem s_Pm_match_48 : SiteV k_Pm_match k_Se_look 48 6 5 := ⟨93, (R_Se, F_Se, 7), by decide +kernel, ⟨kw_Se_look, tx1 4 rfl rfl, by decide, by decide⟩, tx2 159 rfl rfl, tx2 160 rfl rfl, tx2 161 rfl rfl, rfl, ⟨by decide +kernel, by decide +kernel⟩, np_Se_look⟩
theorem d_Pm_match_51 : decode k_Pm_match.code 51 = .ok (.ireturn, 1) := by decide +kernel
theorem d_Pm_found_0 : decode k_Pm_found.code 0 = .ok (.iload_n 1, 1) := by decide +kernel
theorem d_Pm_found_1 : decode k_Pm_found.code 1 = .ok (.iconst 0, 1) := by decide +kernel
theorem d_Pm_found_2 : decode k_Pm_found.code 2 = .ok (.iconst 2, 1) := by decide +kernel
theorem s_Pm_found_3 : SiteS k_Pm_found k_Pm_isWithin 3 3 := ⟨79, by decide +kernel, ⟨kw_Pm_isWithin, tx1 1 rfl rfl, by decide, by decide⟩, Or.inl (tx2 42 rfl rfl), tx2 43 rfl rfl, ⟨by decide +kernel, by decide +kernel⟩, np_Pm_isWithin⟩
theorem s_Pm_found_6 : SiteS k_Pm_found k_Pm_needIndex 6 1 := ⟨75, by decide +kernel, ⟨kw_Pm_needIndex, tx1 1 rfl rfl, by decide, by decide⟩, Or.inl (tx2 50 rfl rfl), tx2 51 rfl rfl, ⟨by decide +kernel, by decide +kernel⟩, np_Pm_needIndex⟩
theorem d_Pm_found_9 : decode k_Pm_found.code 9 = .ok (.aload_n 0, 1) := by decide +kernel
theorem g_Pm_found_10 : SiteG k_Pm_found 10 7 1 := ⟨25, 7, R_Pm, "PhotoModels", F_Pm, by decide +kernel, tx1 209 rfl rfl, i_Pm, rfl, rfl, by decide⟩
theorem s_Pm_found_13 : SiteV k_Pm_found k_Se_isDone 13 6 0 := ⟨97, (R_Se, F_Se, 7), by decide +kernel, ⟨kw_Se_isDone, tx1 4 rfl rfl, by decide, by decide⟩, tx2 189 rfl rfl, tx2 190 rfl rfl, tx2 191 rfl rfl, rfl, ⟨by decide +kernel, by decide +kernel⟩, np_Se_isDone⟩
theorem s_Pm_found_16 : SiteS k_Pm_found k_Pm_needState 16 1 := ⟨101, by decide +kernel, ⟨kw_Pm_needState, tx1 1 rfl rfl, by decide, by decide⟩, Or.inl (tx2 193 rfl rfl), tx2 194 rfl rfl, ⟨by decide +kernel, by decide +kernel⟩, np_Pm_needState⟩
theorem d_Pm_found_19 : decode k_Pm_found.code 19 = .ok (.aload_n 0, 1) := by decide +kernel
theorem g_Pm_found_20 : SiteG k_Pm_found 20 7 1 := ⟨25, 7, R_Pm, "PhotoModels", F_Pm, by decide +kernel, tx1 209 rfl rfl, i_Pm, rfl, rfl, by decide⟩
theorem d_Pm_found_23 : decode k_Pm_found.code 23 = .ok (.iload_n 1, 1) := by decide +kernel
theorem s_Pm_found_24 : SiteV k_Pm_found k_Se_answer 24 6 1 := ⟨104, (R_Se, F_Se, 7), by decide +kernel, ⟨kw_Se_answer, tx1 4 rfl rfl, by decide, by decide⟩, tx2 212 rfl rfl, tx2 213 rfl rfl, tx2 214 rfl rfl, rfl, ⟨by decide +kernel, by decide +kernel⟩, np_Se_answer⟩
theorem d_Pm_found_27 : decode k_Pm_found.code 27 = .ok (.ireturn, 1) := by decide +kernel
theorem d_Pm_needState_0 : decode k_Pm_needState.code 0 = .ok (.iload_n 0, 1) := by decide +kernel
theorem d_Pm_needState_1 : decode k_Pm_needState.code 1 = .ok (.ifCond .ne 13, 3) := by decide +kernel
theorem d_Pm_needState_4 : decode k_Pm_needState.code 4 = .ok (.new 212, 3) := by decide +kernel
theorem d_Pm_needState_7 : decode k_Pm_needState.code 7 = .ok (.dup, 1) := by decide +kernel
theorem d_Pm_needState_8 : decode k_Pm_needState.code 8 = .ok (.ldc 214, 2) := by decide +kernel
theorem d_Pm_needState_10 : decode k_Pm_needState.code 10 = .ok (.invokespecial 216, 3) := by decide +kernel
theorem d_Pm_needState_13 : decode k_Pm_needState.code 13 = .ok (.athrow, 1) := by decide +kernel
theorem d_Pm_needState_14 : decode k_Pm_needState.code 14 = .ok (.return_, 1) := by decide +kernel
theorem d_Pm_place_0 : decode k_Pm_place.code 0 = .ok (.aload_n 0, 1) := by decide +kernel
theorem g_Pm_place_1 : SiteG k_Pm_place 1 7 2 := ⟨32, 7, R_Pm, "PhotoModels", F_Pm, by decide +kernel, tx1 210 rfl rfl, i_Pm, rfl, rfl, by decide⟩
theorem s_Pm_place_4 : SiteV k_Pm_place k_Pl_number 4 4 0 := ⟨108, (R_Pl, F_Pl, 5), by decide +kernel, ⟨kw_Pl_number, tx1 5 rfl rfl, by decide, by decide⟩, tx2 223 rfl rfl, tx1 239 rfl rfl, tx2 0 rfl rfl, rfl, ⟨by decide +kernel, by decide +kernel⟩, np_Pl_number⟩
theorem d_Pm_place_7 : decode k_Pm_place.code 7 = .ok (.bipush 12, 2) := by decide +kernel
theorem d_Pm_place_9 : decode k_Pm_place.code 9 = .ok (.if_icmp .ge 7, 3) := by decide +kernel
theorem d_Pm_place_12 : decode k_Pm_place.code 12 = .ok (.iconst 1, 1) := by decide +kernel
theorem d_Pm_place_13 : decode k_Pm_place.code 13 = .ok (.goto 4, 3) := by decide +kernel
theorem d_Pm_place_16 : decode k_Pm_place.code 16 = .ok (.iconst 0, 1) := by decide +kernel
theorem s_Pm_place_17 : SiteS k_Pm_place k_Pm_needState 17 1 := ⟨101, by decide +kernel, ⟨kw_Pm_needState, tx1 1 rfl rfl, by decide, by decide⟩, Or.inl (tx2 193 rfl rfl), tx2 194 rfl rfl, ⟨by decide +kernel, by decide +kernel⟩, np_Pm_needState⟩
theorem d_Pm_place_20 : decode k_Pm_place.code 20 = .ok (.aload_n 0, 1) := by decide +kernel
theorem g_Pm_place_21 : SiteG k_Pm_place 21 7 2 := ⟨32, 7, R_Pm, "PhotoModels", F_Pm, by decide +kernel, tx1 210 rfl rfl, i_Pm, rfl, rfl, by decide⟩
theorem s_Pm_place_24 : SiteV k_Pm_place k_Pl_add 24 4 0 := ⟨112, (R_Pl, F_Pl, 5), by decide +kernel, ⟨kw_Pl_add, tx1 5 rfl rfl, by decide, by decide⟩, tx2 224 rfl rfl, tx2 225 rfl rfl, tx2 226 rfl rfl, rfl, ⟨by decide +kernel, by decide +kernel⟩, np_Pl_add⟩
theorem d_Pm_place_27 : decode k_Pm_place.code 27 = .ok (.ireturn, 1) := by decide +kernel
theorem d_Pm_seen_0 : decode k_Pm_seen.code 0 = .ok (.aload_n 0, 1) := by decide +kernel
theorem g_Pm_seen_1 : SiteG k_Pm_seen 1 7 2 := ⟨32, 7, R_Pm, "PhotoModels", F_Pm, by decide +kernel, tx1 210 rfl rfl, i_Pm, rfl, rfl, by decide⟩
theorem d_Pm_seen_4 : decode k_Pm_seen.code 4 = .ok (.iload_n 1, 1) := by decide +kernel
theorem s_Pm_seen_5 : SiteV k_Pm_seen k_Pl_has 5 4 1 := ⟨115, (R_Pl, F_Pl, 5), by decide +kernel, ⟨kw_Pl_has, tx1 5 rfl rfl, by decide, by decide⟩, tx2 235 rfl rfl, tx2 236 rfl rfl, tx2 237 rfl rfl, rfl, ⟨by decide +kernel, by decide +kernel⟩, np_Pl_has⟩
theorem d_Pm_seen_8 : decode k_Pm_seen.code 8 = .ok (.ifCond .eq 14, 3) := by decide +kernel
theorem d_Pm_seen_11 : decode k_Pm_seen.code 11 = .ok (.iload_n 2, 1) := by decide +kernel
theorem s_Pm_seen_12 : SiteS k_Pm_seen k_Pm_isPhoto 12 1 := ⟨67, by decide +kernel, ⟨kw_Pm_isPhoto, tx1 1 rfl rfl, by decide, by decide⟩, Or.inl (tx2 39 rfl rfl), tx2 40 rfl rfl, ⟨by decide +kernel, by decide +kernel⟩, np_Pm_isPhoto⟩
theorem d_Pm_seen_15 : decode k_Pm_seen.code 15 = .ok (.ifCond .eq 7, 3) := by decide +kernel
theorem d_Pm_seen_18 : decode k_Pm_seen.code 18 = .ok (.iconst 1, 1) := by decide +kernel
theorem d_Pm_seen_19 : decode k_Pm_seen.code 19 = .ok (.goto 4, 3) := by decide +kernel
theorem d_Pm_seen_22 : decode k_Pm_seen.code 22 = .ok (.iconst 0, 1) := by decide +kernel
theorem s_Pm_seen_23 : SiteS k_Pm_seen k_Pm_needIndex 23 1 := ⟨75, by decide +kernel, ⟨kw_Pm_needIndex, tx1 1 rfl rfl, by decide, by decide⟩, Or.inl (tx2 50 rfl rfl), tx2 51 rfl rfl, ⟨by decide +kernel, by decide +kernel⟩, np_Pm_needIndex⟩
theorem d_Pm_seen_26 : decode k_Pm_seen.code 26 = .ok (.iload_n 3, 1) := by decide +kernel
theorem d_Pm_seen_27 : decode k_Pm_seen.code 27 = .ok (.ifCond .lt 22, 3) := by decide +kernel
theorem d_Pm_seen_30 : decode k_Pm_seen.code 30 = .ok (.iload_n 3, 1) := by decide +kernel
theorem d_Pm_seen_31 : decode k_Pm_seen.code 31 = .ok (.sipush 999, 3) := by decide +kernel
theorem d_Pm_seen_34 : decode k_Pm_seen.code 34 = .ok (.if_icmp .gt 19, 3) := by decide +kernel
theorem d_Pm_seen_37 : decode k_Pm_seen.code 37 = .ok (.iload 4, 2) := by decide +kernel
theorem d_Pm_seen_39 : decode k_Pm_seen.code 39 = .ok (.iconst 0, 1) := by decide +kernel
theorem d_Pm_seen_40 : decode k_Pm_seen.code 40 = .ok (.sipush 999, 3) := by decide +kernel
theorem s_Pm_seen_43 : SiteS k_Pm_seen k_Pm_isWithin 43 3 := ⟨79, by decide +kernel, ⟨kw_Pm_isWithin, tx1 1 rfl rfl, by decide, by decide⟩, Or.inl (tx2 42 rfl rfl), tx2 43 rfl rfl, ⟨by decide +kernel, by decide +kernel⟩, np_Pm_isWithin⟩
theorem d_Pm_seen_46 : decode k_Pm_seen.code 46 = .ok (.ifCond .eq 7, 3) := by decide +kernel
theorem d_Pm_seen_49 : decode k_Pm_seen.code 49 = .ok (.iconst 1, 1) := by decide +kernel
theorem d_Pm_seen_50 : decode k_Pm_seen.code 50 = .ok (.goto 4, 3) := by decide +kernel
theorem d_Pm_seen_53 : decode k_Pm_seen.code 53 = .ok (.iconst 0, 1) := by decide +kernel
theorem s_Pm_seen_54 : SiteS k_Pm_seen k_Pm_needArgument 54 1 := ⟨83, by decide +kernel, ⟨kw_Pm_needArgument, tx1 1 rfl rfl, by decide, by decide⟩, Or.inl (tx2 121 rfl rfl), tx2 122 rfl rfl, ⟨by decide +kernel, by decide +kernel⟩, np_Pm_needArgument⟩
theorem d_Pm_seen_57 : decode k_Pm_seen.code 57 = .ok (.iload_n 3, 1) := by decide +kernel
theorem d_Pm_seen_58 : decode k_Pm_seen.code 58 = .ok (.ifCond .ge 15, 3) := by decide +kernel
theorem d_Pm_seen_61 : decode k_Pm_seen.code 61 = .ok (.aload_n 0, 1) := by decide +kernel
theorem g_Pm_seen_62 : SiteG k_Pm_seen 62 7 2 := ⟨32, 7, R_Pm, "PhotoModels", F_Pm, by decide +kernel, tx1 210 rfl rfl, i_Pm, rfl, rfl, by decide⟩
theorem d_Pm_seen_65 : decode k_Pm_seen.code 65 = .ok (.iload_n 1, 1) := by decide +kernel
theorem d_Pm_seen_66 : decode k_Pm_seen.code 66 = .ok (.iload_n 2, 1) := by decide +kernel
theorem s_Pm_seen_67 : SiteV k_Pm_seen k_Pl_forget 67 4 2 := ⟨118, (R_Pl, F_Pl, 5), by decide +kernel, ⟨kw_Pl_forget, tx1 5 rfl rfl, by decide, by decide⟩, tx2 239 rfl rfl, tx3 0 rfl rfl, tx3 1 rfl rfl, rfl, ⟨by decide +kernel, by decide +kernel⟩, np_Pl_forget⟩
theorem d_Pm_seen_70 : decode k_Pm_seen.code 70 = .ok (.goto 15, 3) := by decide +kernel
theorem d_Pm_seen_73 : decode k_Pm_seen.code 73 = .ok (.aload_n 0, 1) := by decide +kernel
theorem g_Pm_seen_74 : SiteG k_Pm_seen 74 7 2 := ⟨32, 7, R_Pm, "PhotoModels", F_Pm, by decide +kernel, tx1 210 rfl rfl, i_Pm, rfl, rfl, by decide⟩
theorem d_Pm_seen_77 : decode k_Pm_seen.code 77 = .ok (.iload_n 1, 1) := by decide +kernel
theorem d_Pm_seen_78 : decode k_Pm_seen.code 78 = .ok (.iload_n 2, 1) := by decide +kernel
theorem d_Pm_seen_79 : decode k_Pm_seen.code 79 = .ok (.iload_n 3, 1) := by decide +kernel
theorem d_Pm_seen_80 : decode k_Pm_seen.code 80 = .ok (.iload 4, 2) := by decide +kernel
theorem s_Pm_seen_82 : SiteV k_Pm_seen k_Pl_note 82 4 4 := ⟨121, (R_Pl, F_Pl, 5), by decide +kernel, ⟨kw_Pl_note, tx1 5 rfl rfl, by decide, by decide⟩, tx3 4 rfl rfl, tx3 5 rfl rfl, tx3 6 rfl rfl, rfl, ⟨by decide +kernel, by decide +kernel⟩, np_Pl_note⟩
theorem d_Pm_seen_85 : decode k_Pm_seen.code 85 = .ok (.ireturn, 1) := by decide +kernel
theorem d_Pm_relative_0 : decode k_Pm_relative.code 0 = .ok (.iload_n 1, 1) := by decide +kernel
theorem s_Pm_relative_1 : SiteS k_Pm_relative k_Pm_isPhoto 1 1 := ⟨67, by decide +kernel, ⟨kw_Pm_isPhoto, tx1 1 rfl rfl, by decide, by decide⟩, Or.inl (tx2 39 rfl rfl), tx2 40 rfl rfl, ⟨by decide +kernel, by decide +kernel⟩, np_Pm_isPhoto⟩
theorem d_Pm_relative_4 : decode k_Pm_relative.code 4 = .ok (.ifCond .eq 14, 3) := by decide +kernel
theorem d_Pm_relative_7 : decode k_Pm_relative.code 7 = .ok (.iload_n 2, 1) := by decide +kernel
theorem s_Pm_relative_8 : SiteS k_Pm_relative k_Pm_isPhoto 8 1 := ⟨67, by decide +kernel, ⟨kw_Pm_isPhoto, tx1 1 rfl rfl, by decide, by decide⟩, Or.inl (tx2 39 rfl rfl), tx2 40 rfl rfl, ⟨by decide +kernel, by decide +kernel⟩, np_Pm_isPhoto⟩
theorem d_Pm_relative_11 : decode k_Pm_relative.code 11 = .ok (.ifCond .eq 7, 3) := by decide +kernel
theorem d_Pm_relative_14 : decode k_Pm_relative.code 14 = .ok (.iconst 1, 1) := by decide +kernel
theorem d_Pm_relative_15 : decode k_Pm_relative.code 15 = .ok (.goto 4, 3) := by decide +kernel
theorem d_Pm_relative_18 : decode k_Pm_relative.code 18 = .ok (.iconst 0, 1) := by decide +kernel
theorem s_Pm_relative_19 : SiteS k_Pm_relative k_Pm_needIndex 19 1 := ⟨75, by decide +kernel, ⟨kw_Pm_needIndex, tx1 1 rfl rfl, by decide, by decide⟩, Or.inl (tx2 50 rfl rfl), tx2 51 rfl rfl, ⟨by decide +kernel, by decide +kernel⟩, np_Pm_needIndex⟩
theorem d_Pm_relative_22 : decode k_Pm_relative.code 22 = .ok (.iload_n 3, 1) := by decide +kernel
theorem d_Pm_relative_23 : decode k_Pm_relative.code 23 = .ok (.iconst 1, 1) := by decide +kernel
theorem d_Pm_relative_24 : decode k_Pm_relative.code 24 = .ok (.bipush 20, 2) := by decide +kernel
theorem s_Pm_relative_26 : SiteS k_Pm_relative k_Pm_isWithin 26 3 := ⟨79, by decide +kernel, ⟨kw_Pm_isWithin, tx1 1 rfl rfl, by decide, by decide⟩, Or.inl (tx2 42 rfl rfl), tx2 43 rfl rfl, ⟨by decide +kernel, by decide +kernel⟩, np_Pm_isWithin⟩
theorem s_Pm_relative_29 : SiteS k_Pm_relative k_Pm_needArgument 29 1 := ⟨83, by decide +kernel, ⟨kw_Pm_needArgument, tx1 1 rfl rfl, by decide, by decide⟩, Or.inl (tx2 121 rfl rfl), tx2 122 rfl rfl, ⟨by decide +kernel, by decide +kernel⟩, np_Pm_needArgument⟩
theorem d_Pm_relative_32 : decode k_Pm_relative.code 32 = .ok (.iload 4, 2) := by decide +kernel
theorem d_Pm_relative_34 : decode k_Pm_relative.code 34 = .ok (.iconst 0, 1) := by decide +kernel
theorem d_Pm_relative_35 : decode k_Pm_relative.code 35 = .ok (.bipush 100, 2) := by decide +kernel
theorem s_Pm_relative_37 : SiteS k_Pm_relative k_Pm_isWithin 37 3 := ⟨79, by decide +kernel, ⟨kw_Pm_isWithin, tx1 1 rfl rfl, by decide, by decide⟩, Or.inl (tx2 42 rfl rfl), tx2 43 rfl rfl, ⟨by decide +kernel, by decide +kernel⟩, np_Pm_isWithin⟩
theorem s_Pm_relative_40 : SiteS k_Pm_relative k_Pm_needArgument 40 1 := ⟨83, by decide +kernel, ⟨kw_Pm_needArgument, tx1 1 rfl rfl, by decide, by decide⟩, Or.inl (tx2 121 rfl rfl), tx2 122 rfl rfl, ⟨by decide +kernel, by decide +kernel⟩, np_Pm_needArgument⟩
theorem d_Pm_relative_43 : decode k_Pm_relative.code 43 = .ok (.aload_n 0, 1) := by decide +kernel
theorem g_Pm_relative_44 : SiteG k_Pm_relative 44 7 3 := ⟨42, 7, R_Pm, "PhotoModels", F_Pm, by decide +kernel, tx1 211 rfl rfl, i_Pm, rfl, rfl, by decide⟩
theorem d_Pm_relative_47 : decode k_Pm_relative.code 47 = .ok (.aload_n 0, 1) := by decide +kernel
theorem g_Pm_relative_48 : SiteG k_Pm_relative 48 7 2 := ⟨32, 7, R_Pm, "PhotoModels", F_Pm, by decide +kernel, tx1 210 rfl rfl, i_Pm, rfl, rfl, by decide⟩
theorem d_Pm_relative_51 : decode k_Pm_relative.code 51 = .ok (.iload_n 1, 1) := by decide +kernel
theorem d_Pm_relative_52 : decode k_Pm_relative.code 52 = .ok (.iload_n 2, 1) := by decide +kernel
theorem d_Pm_relative_53 : decode k_Pm_relative.code 53 = .ok (.iload_n 3, 1) := by decide +kernel
theorem d_Pm_relative_54 : decode k_Pm_relative.code 54 = .ok (.iload 4, 2) := by decide +kernel
theorem s_Pm_relative_56 : SiteV k_Pm_relative k_Ag_draw 56 1 5 := ⟨125, (R_Ag, F_Ag, 7), by decide +kernel, ⟨kw_Ag_draw, tx1 6 rfl rfl, by decide, by decide⟩, tx3 15 rfl rfl, tx3 16 rfl rfl, tx3 17 rfl rfl, rfl, ⟨by decide +kernel, by decide +kernel⟩, np_Ag_draw⟩
theorem d_Pm_relative_59 : decode k_Pm_relative.code 59 = .ok (.ireturn, 1) := by decide +kernel
theorem d_Pm_shift_0 : decode k_Pm_shift.code 0 = .ok (.iload_n 1, 1) := by decide +kernel
theorem s_Pm_shift_1 : SiteS k_Pm_shift k_Pm_isAxis 1 1 := ⟨129, by decide +kernel, ⟨kw_Pm_isAxis, tx1 1 rfl rfl, by decide, by decide⟩, Or.inl (tx3 43 rfl rfl), tx3 44 rfl rfl, ⟨by decide +kernel, by decide +kernel⟩, np_Pm_isAxis⟩
theorem s_Pm_shift_4 : SiteS k_Pm_shift k_Pm_needIndex 4 1 := ⟨75, by decide +kernel, ⟨kw_Pm_needIndex, tx1 1 rfl rfl, by decide, by decide⟩, Or.inl (tx2 50 rfl rfl), tx2 51 rfl rfl, ⟨by decide +kernel, by decide +kernel⟩, np_Pm_needIndex⟩
theorem d_Pm_shift_7 : decode k_Pm_shift.code 7 = .ok (.aload_n 0, 1) := by decide +kernel
theorem g_Pm_shift_8 : SiteG k_Pm_shift 8 7 3 := ⟨42, 7, R_Pm, "PhotoModels", F_Pm, by decide +kernel, tx1 211 rfl rfl, i_Pm, rfl, rfl, by decide⟩
theorem s_Pm_shift_11 : SiteV k_Pm_shift k_Ag_isReached 11 1 0 := ⟨132, (R_Ag, F_Ag, 7), by decide +kernel, ⟨kw_Ag_isReached, tx1 6 rfl rfl, by decide, by decide⟩, tx3 46 rfl rfl, tx3 47 rfl rfl, tx3 48 rfl rfl, rfl, ⟨by decide +kernel, by decide +kernel⟩, np_Ag_isReached⟩
theorem s_Pm_shift_14 : SiteS k_Pm_shift k_Pm_needState 14 1 := ⟨101, by decide +kernel, ⟨kw_Pm_needState, tx1 1 rfl rfl, by decide, by decide⟩, Or.inl (tx2 193 rfl rfl), tx2 194 rfl rfl, ⟨by decide +kernel, by decide +kernel⟩, np_Pm_needState⟩
theorem d_Pm_shift_17 : decode k_Pm_shift.code 17 = .ok (.aload_n 0, 1) := by decide +kernel
theorem g_Pm_shift_18 : SiteG k_Pm_shift 18 7 3 := ⟨42, 7, R_Pm, "PhotoModels", F_Pm, by decide +kernel, tx1 211 rfl rfl, i_Pm, rfl, rfl, by decide⟩
theorem d_Pm_shift_21 : decode k_Pm_shift.code 21 = .ok (.iload_n 1, 1) := by decide +kernel
theorem s_Pm_shift_22 : SiteV k_Pm_shift k_Ag_along 22 1 1 := ⟨135, (R_Ag, F_Ag, 7), by decide +kernel, ⟨kw_Ag_along, tx1 6 rfl rfl, by decide, by decide⟩, tx3 50 rfl rfl, tx3 51 rfl rfl, tx3 52 rfl rfl, rfl, ⟨by decide +kernel, by decide +kernel⟩, np_Ag_along⟩
theorem d_Pm_shift_25 : decode k_Pm_shift.code 25 = .ok (.ireturn, 1) := by decide +kernel
theorem d_Pm_isAxis_0 : decode k_Pm_isAxis.code 0 = .ok (.iload_n 0, 1) := by decide +kernel
theorem d_Pm_isAxis_1 : decode k_Pm_isAxis.code 1 = .ok (.iconst 0, 1) := by decide +kernel
theorem d_Pm_isAxis_2 : decode k_Pm_isAxis.code 2 = .ok (.iconst 1, 1) := by decide +kernel
theorem s_Pm_isAxis_3 : SiteS k_Pm_isAxis k_Pm_isWithin 3 3 := ⟨79, by decide +kernel, ⟨kw_Pm_isWithin, tx1 1 rfl rfl, by decide, by decide⟩, Or.inl (tx2 42 rfl rfl), tx2 43 rfl rfl, ⟨by decide +kernel, by decide +kernel⟩, np_Pm_isWithin⟩
theorem d_Pm_isAxis_6 : decode k_Pm_isAxis.code 6 = .ok (.ireturn, 1) := by decide +kernel
theorem d_Pm_spare_0 : decode k_Pm_spare.code 0 = .ok (.aload_n 0, 1) := by decide +kernel
theorem g_Pm_spare_1 : SiteG k_Pm_spare 1 7 2 := ⟨32, 7, R_Pm, "PhotoModels", F_Pm, by decide +kernel, tx1 210 rfl rfl, i_Pm, rfl, rfl, by decide⟩
theorem d_Pm_spare_4 : decode k_Pm_spare.code 4 = .ok (.iload_n 1, 1) := by decide +kernel
theorem s_Pm_spare_5 : SiteV k_Pm_spare k_Pl_has 5 4 1 := ⟨115, (R_Pl, F_Pl, 5), by decide +kernel, ⟨kw_Pl_has, tx1 5 rfl rfl, by decide, by decide⟩, tx2 235 rfl rfl, tx2 236 rfl rfl, tx2 237 rfl rfl, rfl, ⟨by decide +kernel, by decide +kernel⟩, np_Pl_has⟩
theorem s_Pm_spare_8 : SiteS k_Pm_spare k_Pm_needIndex 8 1 := ⟨75, by decide +kernel, ⟨kw_Pm_needIndex, tx1 1 rfl rfl, by decide, by decide⟩, Or.inl (tx2 50 rfl rfl), tx2 51 rfl rfl, ⟨by decide +kernel, by decide +kernel⟩, np_Pm_needIndex⟩
theorem d_Pm_spare_11 : decode k_Pm_spare.code 11 = .ok (.aload_n 0, 1) := by decide +kernel
theorem g_Pm_spare_12 : SiteG k_Pm_spare 12 7 2 := ⟨32, 7, R_Pm, "PhotoModels", F_Pm, by decide +kernel, tx1 210 rfl rfl, i_Pm, rfl, rfl, by decide⟩
theorem d_Pm_spare_15 : decode k_Pm_spare.code 15 = .ok (.iload_n 1, 1) := by decide +kernel
theorem d_Pm_spare_16 : decode k_Pm_spare.code 16 = .ok (.iload_n 2, 1) := by decide +kernel
theorem s_Pm_spare_17 : SiteV k_Pm_spare k_Pl_setAside 17 4 2 := ⟨138, (R_Pl, F_Pl, 5), by decide +kernel, ⟨kw_Pl_setAside, tx1 5 rfl rfl, by decide, by decide⟩, tx3 61 rfl rfl, tx3 62 rfl rfl, tx3 63 rfl rfl, rfl, ⟨by decide +kernel, by decide +kernel⟩, np_Pl_setAside⟩
theorem d_Pm_spare_20 : decode k_Pm_spare.code 20 = .ok (.ireturn, 1) := by decide +kernel
theorem d_Pm_run_0 : decode k_Pm_run.code 0 = .ok (.iload_n 1, 1) := by decide +kernel
theorem d_Pm_run_1 : decode k_Pm_run.code 1 = .ok (.iconst 0, 1) := by decide +kernel
theorem d_Pm_run_2 : decode k_Pm_run.code 2 = .ok (.bipush 20, 2) := by decide +kernel
theorem s_Pm_run_4 : SiteS k_Pm_run k_Pm_isWithin 4 3 := ⟨79, by decide +kernel, ⟨kw_Pm_isWithin, tx1 1 rfl rfl, by decide, by decide⟩, Or.inl (tx2 42 rfl rfl), tx2 43 rfl rfl, ⟨by decide +kernel, by decide +kernel⟩, np_Pm_isWithin⟩
theorem s_Pm_run_7 : SiteS k_Pm_run k_Pm_needArgument 7 1 := ⟨83, by decide +kernel, ⟨kw_Pm_needArgument, tx1 1 rfl rfl, by decide, by decide⟩, Or.inl (tx2 121 rfl rfl), tx2 122 rfl rfl, ⟨by decide +kernel, by decide +kernel⟩, np_Pm_needArgument⟩
theorem d_Pm_run_10 : decode k_Pm_run.code 10 = .ok (.aload_n 0, 1) := by decide +kernel
theorem g_Pm_run_11 : SiteG k_Pm_run 11 7 4 := ⟨49, 7, R_Pm, "PhotoModels", F_Pm, by decide +kernel, tx1 212 rfl rfl, i_Pm, rfl, rfl, by decide⟩
theorem d_Pm_run_14 : decode k_Pm_run.code 14 = .ok (.aload_n 0, 1) := by decide +kernel
theorem g_Pm_run_15 : SiteG k_Pm_run 15 7 2 := ⟨32, 7, R_Pm, "PhotoModels", F_Pm, by decide +kernel, tx1 210 rfl rfl, i_Pm, rfl, rfl, by decide⟩
theorem d_Pm_run_18 : decode k_Pm_run.code 18 = .ok (.iload_n 1, 1) := by decide +kernel
theorem s_Pm_run_19 : SiteV k_Pm_run k_Ad_adjust 19 0 2 := ⟨142, (R_Ad, F_Ad, 4), by decide +kernel, ⟨kw_Ad_adjust, tx1 7 rfl rfl, by decide, by decide⟩, tx3 72 rfl rfl, tx3 73 rfl rfl, tx3 74 rfl rfl, rfl, ⟨by decide +kernel, by decide +kernel⟩, np_Ad_adjust⟩
theorem d_Pm_run_22 : decode k_Pm_run.code 22 = .ok (.ireturn, 1) := by decide +kernel
theorem d_Pm_at_0 : decode k_Pm_at.code 0 = .ok (.aload_n 0, 1) := by decide +kernel
theorem g_Pm_at_1 : SiteG k_Pm_at 1 7 2 := ⟨32, 7, R_Pm, "PhotoModels", F_Pm, by decide +kernel, tx1 210 rfl rfl, i_Pm, rfl, rfl, by decide⟩
theorem d_Pm_at_4 : decode k_Pm_at.code 4 = .ok (.iload_n 1, 1) := by decide +kernel
theorem s_Pm_at_5 : SiteV k_Pm_at k_Pl_has 5 4 1 := ⟨115, (R_Pl, F_Pl, 5), by decide +kernel, ⟨kw_Pl_has, tx1 5 rfl rfl, by decide, by decide⟩, tx2 235 rfl rfl, tx2 236 rfl rfl, tx2 237 rfl rfl, rfl, ⟨by decide +kernel, by decide +kernel⟩, np_Pl_has⟩
theorem d_Pm_at_8 : decode k_Pm_at.code 8 = .ok (.ifCond .eq 14, 3) := by decide +kernel
theorem d_Pm_at_11 : decode k_Pm_at.code 11 = .ok (.iload_n 2, 1) := by decide +kernel
theorem s_Pm_at_12 : SiteS k_Pm_at k_Pm_isAxis 12 1 := ⟨129, by decide +kernel, ⟨kw_Pm_isAxis, tx1 1 rfl rfl, by decide, by decide⟩, Or.inl (tx3 43 rfl rfl), tx3 44 rfl rfl, ⟨by decide +kernel, by decide +kernel⟩, np_Pm_isAxis⟩
theorem d_Pm_at_15 : decode k_Pm_at.code 15 = .ok (.ifCond .eq 7, 3) := by decide +kernel
theorem d_Pm_at_18 : decode k_Pm_at.code 18 = .ok (.iconst 1, 1) := by decide +kernel
theorem d_Pm_at_19 : decode k_Pm_at.code 19 = .ok (.goto 4, 3) := by decide +kernel
theorem d_Pm_at_22 : decode k_Pm_at.code 22 = .ok (.iconst 0, 1) := by decide +kernel
theorem s_Pm_at_23 : SiteS k_Pm_at k_Pm_needIndex 23 1 := ⟨75, by decide +kernel, ⟨kw_Pm_needIndex, tx1 1 rfl rfl, by decide, by decide⟩, Or.inl (tx2 50 rfl rfl), tx2 51 rfl rfl, ⟨by decide +kernel, by decide +kernel⟩, np_Pm_needIndex⟩
theorem d_Pm_at_26 : decode k_Pm_at.code 26 = .ok (.aload_n 0, 1) := by decide +kernel
theorem g_Pm_at_27 : SiteG k_Pm_at 27 7 4 := ⟨49, 7, R_Pm, "PhotoModels", F_Pm, by decide +kernel, tx1 212 rfl rfl, i_Pm, rfl, rfl, by decide⟩
theorem d_Pm_at_30 : decode k_Pm_at.code 30 = .ok (.iload_n 1, 1) := by decide +kernel
theorem d_Pm_at_31 : decode k_Pm_at.code 31 = .ok (.iload_n 2, 1) := by decide +kernel
theorem s_Pm_at_32 : SiteV k_Pm_at k_Ad_position 32 0 2 := ⟨150, (R_Ad, F_Ad, 4), by decide +kernel, ⟨kw_Ad_position, tx1 7 rfl rfl, by decide, by decide⟩, tx3 124 rfl rfl, tx2 20 rfl rfl, tx2 21 rfl rfl, rfl, ⟨by decide +kernel, by decide +kernel⟩, np_Ad_position⟩
theorem d_Pm_at_35 : decode k_Pm_at.code 35 = .ok (.ireturn, 1) := by decide +kernel
theorem d_Pm_offset_0 : decode k_Pm_offset.code 0 = .ok (.iload_n 1, 1) := by decide +kernel
theorem s_Pm_offset_1 : SiteS k_Pm_offset k_Pm_isPhoto 1 1 := ⟨67, by decide +kernel, ⟨kw_Pm_isPhoto, tx1 1 rfl rfl, by decide, by decide⟩, Or.inl (tx2 39 rfl rfl), tx2 40 rfl rfl, ⟨by decide +kernel, by decide +kernel⟩, np_Pm_isPhoto⟩
theorem d_Pm_offset_4 : decode k_Pm_offset.code 4 = .ok (.ifCond .eq 14, 3) := by decide +kernel
theorem d_Pm_offset_7 : decode k_Pm_offset.code 7 = .ok (.iload_n 2, 1) := by decide +kernel
theorem s_Pm_offset_8 : SiteS k_Pm_offset k_Pm_isAxis 8 1 := ⟨129, by decide +kernel, ⟨kw_Pm_isAxis, tx1 1 rfl rfl, by decide, by decide⟩, Or.inl (tx3 43 rfl rfl), tx3 44 rfl rfl, ⟨by decide +kernel, by decide +kernel⟩, np_Pm_isAxis⟩
theorem d_Pm_offset_11 : decode k_Pm_offset.code 11 = .ok (.ifCond .eq 7, 3) := by decide +kernel
theorem d_Pm_offset_14 : decode k_Pm_offset.code 14 = .ok (.iconst 1, 1) := by decide +kernel
theorem d_Pm_offset_15 : decode k_Pm_offset.code 15 = .ok (.goto 4, 3) := by decide +kernel
theorem d_Pm_offset_18 : decode k_Pm_offset.code 18 = .ok (.iconst 0, 1) := by decide +kernel
theorem s_Pm_offset_19 : SiteS k_Pm_offset k_Pm_needIndex 19 1 := ⟨75, by decide +kernel, ⟨kw_Pm_needIndex, tx1 1 rfl rfl, by decide, by decide⟩, Or.inl (tx2 50 rfl rfl), tx2 51 rfl rfl, ⟨by decide +kernel, by decide +kernel⟩, np_Pm_needIndex⟩
theorem d_Pm_offset_22 : decode k_Pm_offset.code 22 = .ok (.aload_n 0, 1) := by decide +kernel
theorem g_Pm_offset_23 : SiteG k_Pm_offset 23 7 4 := ⟨49, 7, R_Pm, "PhotoModels", F_Pm, by decide +kernel, tx1 212 rfl rfl, i_Pm, rfl, rfl, by decide⟩
theorem d_Pm_offset_26 : decode k_Pm_offset.code 26 = .ok (.iload_n 1, 1) := by decide +kernel
theorem d_Pm_offset_27 : decode k_Pm_offset.code 27 = .ok (.iload_n 2, 1) := by decide +kernel
theorem s_Pm_offset_28 : SiteV k_Pm_offset k_Ad_moved 28 0 2 := ⟨154, (R_Ad, F_Ad, 4), by decide +kernel, ⟨kw_Ad_moved, tx1 7 rfl rfl, by decide, by decide⟩, tx3 132 rfl rfl, tx2 24 rfl rfl, tx2 25 rfl rfl, rfl, ⟨by decide +kernel, by decide +kernel⟩, np_Ad_moved⟩
theorem d_Pm_offset_31 : decode k_Pm_offset.code 31 = .ok (.ireturn, 1) := by decide +kernel
theorem d_Pm_miss_0 : decode k_Pm_miss.code 0 = .ok (.aload_n 0, 1) := by decide +kernel
theorem g_Pm_miss_1 : SiteG k_Pm_miss 1 7 2 := ⟨32, 7, R_Pm, "PhotoModels", F_Pm, by decide +kernel, tx1 210 rfl rfl, i_Pm, rfl, rfl, by decide⟩
theorem d_Pm_miss_4 : decode k_Pm_miss.code 4 = .ok (.iload_n 1, 1) := by decide +kernel
theorem s_Pm_miss_5 : SiteV k_Pm_miss k_Pl_has 5 4 1 := ⟨115, (R_Pl, F_Pl, 5), by decide +kernel, ⟨kw_Pl_has, tx1 5 rfl rfl, by decide, by decide⟩, tx2 235 rfl rfl, tx2 236 rfl rfl, tx2 237 rfl rfl, rfl, ⟨by decide +kernel, by decide +kernel⟩, np_Pl_has⟩
theorem s_Pm_miss_8 : SiteS k_Pm_miss k_Pm_needIndex 8 1 := ⟨75, by decide +kernel, ⟨kw_Pm_needIndex, tx1 1 rfl rfl, by decide, by decide⟩, Or.inl (tx2 50 rfl rfl), tx2 51 rfl rfl, ⟨by decide +kernel, by decide +kernel⟩, np_Pm_needIndex⟩
theorem d_Pm_miss_11 : decode k_Pm_miss.code 11 = .ok (.aload_n 0, 1) := by decide +kernel
theorem g_Pm_miss_12 : SiteG k_Pm_miss 12 7 4 := ⟨49, 7, R_Pm, "PhotoModels", F_Pm, by decide +kernel, tx1 212 rfl rfl, i_Pm, rfl, rfl, by decide⟩
theorem d_Pm_miss_15 : decode k_Pm_miss.code 15 = .ok (.aload_n 0, 1) := by decide +kernel
theorem g_Pm_miss_16 : SiteG k_Pm_miss 16 7 2 := ⟨32, 7, R_Pm, "PhotoModels", F_Pm, by decide +kernel, tx1 210 rfl rfl, i_Pm, rfl, rfl, by decide⟩
theorem d_Pm_miss_19 : decode k_Pm_miss.code 19 = .ok (.iload_n 1, 1) := by decide +kernel
theorem s_Pm_miss_20 : SiteV k_Pm_miss k_Ad_share 20 0 2 := ⟨157, (R_Ad, F_Ad, 4), by decide +kernel, ⟨kw_Ad_share, tx1 7 rfl rfl, by decide, by decide⟩, tx3 140 rfl rfl, tx2 7 rfl rfl, tx2 8 rfl rfl, rfl, ⟨by decide +kernel, by decide +kernel⟩, np_Ad_share⟩
theorem d_Pm_miss_23 : decode k_Pm_miss.code 23 = .ok (.lreturn, 1) := by decide +kernel
theorem d_Pm_known_0 : decode k_Pm_known.code 0 = .ok (.aload_n 0, 1) := by decide +kernel
theorem g_Pm_known_1 : SiteG k_Pm_known 1 7 2 := ⟨32, 7, R_Pm, "PhotoModels", F_Pm, by decide +kernel, tx1 210 rfl rfl, i_Pm, rfl, rfl, by decide⟩
theorem d_Pm_known_4 : decode k_Pm_known.code 4 = .ok (.iload_n 1, 1) := by decide +kernel
theorem s_Pm_known_5 : SiteV k_Pm_known k_Pl_has 5 4 1 := ⟨115, (R_Pl, F_Pl, 5), by decide +kernel, ⟨kw_Pl_has, tx1 5 rfl rfl, by decide, by decide⟩, tx2 235 rfl rfl, tx2 236 rfl rfl, tx2 237 rfl rfl, rfl, ⟨by decide +kernel, by decide +kernel⟩, np_Pl_has⟩
theorem d_Pm_known_8 : decode k_Pm_known.code 8 = .ok (.ifCond .eq 18, 3) := by decide +kernel
theorem d_Pm_known_11 : decode k_Pm_known.code 11 = .ok (.aload_n 0, 1) := by decide +kernel
theorem g_Pm_known_12 : SiteG k_Pm_known 12 7 2 := ⟨32, 7, R_Pm, "PhotoModels", F_Pm, by decide +kernel, tx1 210 rfl rfl, i_Pm, rfl, rfl, by decide⟩
theorem d_Pm_known_15 : decode k_Pm_known.code 15 = .ok (.iload_n 2, 1) := by decide +kernel
theorem s_Pm_known_16 : SiteV k_Pm_known k_Pl_has 16 4 1 := ⟨115, (R_Pl, F_Pl, 5), by decide +kernel, ⟨kw_Pl_has, tx1 5 rfl rfl, by decide, by decide⟩, tx2 235 rfl rfl, tx2 236 rfl rfl, tx2 237 rfl rfl, rfl, ⟨by decide +kernel, by decide +kernel⟩, np_Pl_has⟩
theorem d_Pm_known_19 : decode k_Pm_known.code 19 = .ok (.ifCond .eq 7, 3) := by decide +kernel
theorem d_Pm_known_22 : decode k_Pm_known.code 22 = .ok (.iconst 1, 1) := by decide +kernel
theorem d_Pm_known_23 : decode k_Pm_known.code 23 = .ok (.goto 4, 3) := by decide +kernel
theorem d_Pm_known_26 : decode k_Pm_known.code 26 = .ok (.iconst 0, 1) := by decide +kernel
theorem s_Pm_known_27 : SiteS k_Pm_known k_Pm_needIndex 27 1 := ⟨75, by decide +kernel, ⟨kw_Pm_needIndex, tx1 1 rfl rfl, by decide, by decide⟩, Or.inl (tx2 50 rfl rfl), tx2 51 rfl rfl, ⟨by decide +kernel, by decide +kernel⟩, np_Pm_needIndex⟩
theorem d_Pm_known_30 : decode k_Pm_known.code 30 = .ok (.iload_n 1, 1) := by decide +kernel
theorem d_Pm_known_31 : decode k_Pm_known.code 31 = .ok (.iload_n 2, 1) := by decide +kernel
theorem d_Pm_known_32 : decode k_Pm_known.code 32 = .ok (.if_icmp .eq 18, 3) := by decide +kernel
theorem d_Pm_known_35 : decode k_Pm_known.code 35 = .ok (.iload_n 3, 1) := by decide +kernel
theorem d_Pm_known_36 : decode k_Pm_known.code 36 = .ok (.iconst 1, 1) := by decide +kernel
theorem d_Pm_known_37 : decode k_Pm_known.code 37 = .ok (.sipush 10000, 3) := by decide +kernel
theorem s_Pm_known_40 : SiteS k_Pm_known k_Pm_isWithin 40 3 := ⟨79, by decide +kernel, ⟨kw_Pm_isWithin, tx1 1 rfl rfl, by decide, by decide⟩, Or.inl (tx2 42 rfl rfl), tx2 43 rfl rfl, ⟨by decide +kernel, by decide +kernel⟩, np_Pm_isWithin⟩
theorem d_Pm_known_43 : decode k_Pm_known.code 43 = .ok (.ifCond .eq 7, 3) := by decide +kernel
theorem d_Pm_known_46 : decode k_Pm_known.code 46 = .ok (.iconst 1, 1) := by decide +kernel
theorem d_Pm_known_47 : decode k_Pm_known.code 47 = .ok (.goto 4, 3) := by decide +kernel
theorem d_Pm_known_50 : decode k_Pm_known.code 50 = .ok (.iconst 0, 1) := by decide +kernel
theorem s_Pm_known_51 : SiteS k_Pm_known k_Pm_needArgument 51 1 := ⟨83, by decide +kernel, ⟨kw_Pm_needArgument, tx1 1 rfl rfl, by decide, by decide⟩, Or.inl (tx2 121 rfl rfl), tx2 122 rfl rfl, ⟨by decide +kernel, by decide +kernel⟩, np_Pm_needArgument⟩
theorem d_Pm_known_54 : decode k_Pm_known.code 54 = .ok (.aload_n 0, 1) := by decide +kernel
theorem g_Pm_known_55 : SiteG k_Pm_known 55 7 5 := ⟨56, 7, R_Pm, "PhotoModels", F_Pm, by decide +kernel, tx1 213 rfl rfl, i_Pm, rfl, rfl, by decide⟩
theorem s_Pm_known_58 : SiteV k_Pm_known k_Le_number 58 2 0 := ⟨161, (R_Le, F_Le, 4), by decide +kernel, ⟨kw_Le_number, tx1 8 rfl rfl, by decide, by decide⟩, tx3 148 rfl rfl, tx3 149 rfl rfl, tx3 150 rfl rfl, rfl, ⟨by decide +kernel, by decide +kernel⟩, np_Le_number⟩
theorem d_Pm_known_61 : decode k_Pm_known.code 61 = .ok (.bipush 10, 2) := by decide +kernel
theorem d_Pm_known_63 : decode k_Pm_known.code 63 = .ok (.if_icmp .ge 7, 3) := by decide +kernel
theorem d_Pm_known_66 : decode k_Pm_known.code 66 = .ok (.iconst 1, 1) := by decide +kernel
theorem d_Pm_known_67 : decode k_Pm_known.code 67 = .ok (.goto 4, 3) := by decide +kernel
theorem d_Pm_known_70 : decode k_Pm_known.code 70 = .ok (.iconst 0, 1) := by decide +kernel
theorem s_Pm_known_71 : SiteS k_Pm_known k_Pm_needState 71 1 := ⟨101, by decide +kernel, ⟨kw_Pm_needState, tx1 1 rfl rfl, by decide, by decide⟩, Or.inl (tx2 193 rfl rfl), tx2 194 rfl rfl, ⟨by decide +kernel, by decide +kernel⟩, np_Pm_needState⟩
theorem d_Pm_known_74 : decode k_Pm_known.code 74 = .ok (.aload_n 0, 1) := by decide +kernel
theorem g_Pm_known_75 : SiteG k_Pm_known 75 7 5 := ⟨56, 7, R_Pm, "PhotoModels", F_Pm, by decide +kernel, tx1 213 rfl rfl, i_Pm, rfl, rfl, by decide⟩
theorem d_Pm_known_78 : decode k_Pm_known.code 78 = .ok (.iload_n 1, 1) := by decide +kernel
theorem d_Pm_known_79 : decode k_Pm_known.code 79 = .ok (.iload_n 2, 1) := by decide +kernel
theorem d_Pm_known_80 : decode k_Pm_known.code 80 = .ok (.iload_n 3, 1) := by decide +kernel
theorem s_Pm_known_81 : SiteV k_Pm_known k_Le_add 81 2 3 := ⟨162, (R_Le, F_Le, 4), by decide +kernel, ⟨kw_Le_add, tx1 8 rfl rfl, by decide, by decide⟩, tx3 152 rfl rfl, tx3 153 rfl rfl, tx3 154 rfl rfl, rfl, ⟨by decide +kernel, by decide +kernel⟩, np_Le_add⟩
theorem d_Pm_known_84 : decode k_Pm_known.code 84 = .ok (.ireturn, 1) := by decide +kernel
theorem d_Pm_scale_0 : decode k_Pm_scale.code 0 = .ok (.iload_n 1, 1) := by decide +kernel
theorem d_Pm_scale_1 : decode k_Pm_scale.code 1 = .ok (.iconst 0, 1) := by decide +kernel
theorem d_Pm_scale_2 : decode k_Pm_scale.code 2 = .ok (.iconst 1, 1) := by decide +kernel
theorem s_Pm_scale_3 : SiteS k_Pm_scale k_Pm_isWithin 3 3 := ⟨79, by decide +kernel, ⟨kw_Pm_isWithin, tx1 1 rfl rfl, by decide, by decide⟩, Or.inl (tx2 42 rfl rfl), tx2 43 rfl rfl, ⟨by decide +kernel, by decide +kernel⟩, np_Pm_isWithin⟩
theorem s_Pm_scale_6 : SiteS k_Pm_scale k_Pm_needIndex 6 1 := ⟨75, by decide +kernel, ⟨kw_Pm_needIndex, tx1 1 rfl rfl, by decide, by decide⟩, Or.inl (tx2 50 rfl rfl), tx2 51 rfl rfl, ⟨by decide +kernel, by decide +kernel⟩, np_Pm_needIndex⟩
theorem d_Pm_scale_9 : decode k_Pm_scale.code 9 = .ok (.aload_n 0, 1) := by decide +kernel
theorem g_Pm_scale_10 : SiteG k_Pm_scale 10 7 5 := ⟨56, 7, R_Pm, "PhotoModels", F_Pm, by decide +kernel, tx1 213 rfl rfl, i_Pm, rfl, rfl, by decide⟩
theorem d_Pm_scale_13 : decode k_Pm_scale.code 13 = .ok (.aload_n 0, 1) := by decide +kernel
theorem g_Pm_scale_14 : SiteG k_Pm_scale 14 7 4 := ⟨49, 7, R_Pm, "PhotoModels", F_Pm, by decide +kernel, tx1 212 rfl rfl, i_Pm, rfl, rfl, by decide⟩
theorem d_Pm_scale_17 : decode k_Pm_scale.code 17 = .ok (.iload_n 1, 1) := by decide +kernel
theorem s_Pm_scale_18 : SiteV k_Pm_scale k_Le_fraction 18 2 2 := ⟨164, (R_Le, F_Le, 4), by decide +kernel, ⟨kw_Le_fraction, tx1 8 rfl rfl, by decide, by decide⟩, tx3 163 rfl rfl, tx3 164 rfl rfl, tx3 165 rfl rfl, rfl, ⟨by decide +kernel, by decide +kernel⟩, np_Le_fraction⟩
theorem d_Pm_scale_21 : decode k_Pm_scale.code 21 = .ok (.lreturn, 1) := by decide +kernel
theorem d_Pm_heights_0 : decode k_Pm_heights.code 0 = .ok (.iload_n 1, 1) := by decide +kernel
theorem s_Pm_heights_1 : SiteS k_Pm_heights k_Pm_isPhoto 1 1 := ⟨67, by decide +kernel, ⟨kw_Pm_isPhoto, tx1 1 rfl rfl, by decide, by decide⟩, Or.inl (tx2 39 rfl rfl), tx2 40 rfl rfl, ⟨by decide +kernel, by decide +kernel⟩, np_Pm_isPhoto⟩
theorem d_Pm_heights_4 : decode k_Pm_heights.code 4 = .ok (.ifCond .eq 14, 3) := by decide +kernel
theorem d_Pm_heights_7 : decode k_Pm_heights.code 7 = .ok (.iload_n 2, 1) := by decide +kernel
theorem s_Pm_heights_8 : SiteS k_Pm_heights k_Pm_isPhoto 8 1 := ⟨67, by decide +kernel, ⟨kw_Pm_isPhoto, tx1 1 rfl rfl, by decide, by decide⟩, Or.inl (tx2 39 rfl rfl), tx2 40 rfl rfl, ⟨by decide +kernel, by decide +kernel⟩, np_Pm_isPhoto⟩
theorem d_Pm_heights_11 : decode k_Pm_heights.code 11 = .ok (.ifCond .eq 7, 3) := by decide +kernel
theorem d_Pm_heights_14 : decode k_Pm_heights.code 14 = .ok (.iconst 1, 1) := by decide +kernel
theorem d_Pm_heights_15 : decode k_Pm_heights.code 15 = .ok (.goto 4, 3) := by decide +kernel
theorem d_Pm_heights_18 : decode k_Pm_heights.code 18 = .ok (.iconst 0, 1) := by decide +kernel
theorem s_Pm_heights_19 : SiteS k_Pm_heights k_Pm_needIndex 19 1 := ⟨75, by decide +kernel, ⟨kw_Pm_needIndex, tx1 1 rfl rfl, by decide, by decide⟩, Or.inl (tx2 50 rfl rfl), tx2 51 rfl rfl, ⟨by decide +kernel, by decide +kernel⟩, np_Pm_needIndex⟩
theorem d_Pm_heights_22 : decode k_Pm_heights.code 22 = .ok (.iload_n 3, 1) := by decide +kernel
theorem d_Pm_heights_23 : decode k_Pm_heights.code 23 = .ok (.iconst 0, 1) := by decide +kernel
theorem d_Pm_heights_24 : decode k_Pm_heights.code 24 = .ok (.bipush 100, 2) := by decide +kernel
theorem s_Pm_heights_26 : SiteS k_Pm_heights k_Pm_isWithin 26 3 := ⟨79, by decide +kernel, ⟨kw_Pm_isWithin, tx1 1 rfl rfl, by decide, by decide⟩, Or.inl (tx2 42 rfl rfl), tx2 43 rfl rfl, ⟨by decide +kernel, by decide +kernel⟩, np_Pm_isWithin⟩
theorem s_Pm_heights_29 : SiteS k_Pm_heights k_Pm_needArgument 29 1 := ⟨83, by decide +kernel, ⟨kw_Pm_needArgument, tx1 1 rfl rfl, by decide, by decide⟩, Or.inl (tx2 121 rfl rfl), tx2 122 rfl rfl, ⟨by decide +kernel, by decide +kernel⟩, np_Pm_needArgument⟩
theorem d_Pm_heights_32 : decode k_Pm_heights.code 32 = .ok (.aload_n 0, 1) := by decide +kernel
theorem g_Pm_heights_33 : SiteG k_Pm_heights 33 7 6 := ⟨63, 7, R_Pm, "PhotoModels", F_Pm, by decide +kernel, tx1 214 rfl rfl, i_Pm, rfl, rfl, by decide⟩
theorem d_Pm_heights_36 : decode k_Pm_heights.code 36 = .ok (.aload_n 0, 1) := by decide +kernel
theorem g_Pm_heights_37 : SiteG k_Pm_heights 37 7 0 := ⟨18, 7, R_Pm, "PhotoModels", F_Pm, by decide +kernel, tx1 208 rfl rfl, i_Pm, rfl, rfl, by decide⟩
theorem d_Pm_heights_40 : decode k_Pm_heights.code 40 = .ok (.iload_n 1, 1) := by decide +kernel
theorem d_Pm_heights_41 : decode k_Pm_heights.code 41 = .ok (.iload_n 2, 1) := by decide +kernel
theorem d_Pm_heights_42 : decode k_Pm_heights.code 42 = .ok (.iload_n 3, 1) := by decide +kernel
theorem s_Pm_heights_43 : SiteV k_Pm_heights k_Re_raise 43 5 4 := ⟨168, (R_Re, F_Re, 10), by decide +kernel, ⟨kw_Re_raise, tx1 9 rfl rfl, by decide, by decide⟩, tx3 184 rfl rfl, tx3 185 rfl rfl, tx3 186 rfl rfl, rfl, ⟨by decide +kernel, by decide +kernel⟩, np_Re_raise⟩
theorem d_Pm_heights_46 : decode k_Pm_heights.code 46 = .ok (.ireturn, 1) := by decide +kernel
theorem d_Pm_depth_0 : decode k_Pm_depth.code 0 = .ok (.aload_n 0, 1) := by decide +kernel
theorem g_Pm_depth_1 : SiteG k_Pm_depth 1 7 0 := ⟨18, 7, R_Pm, "PhotoModels", F_Pm, by decide +kernel, tx1 208 rfl rfl, i_Pm, rfl, rfl, by decide⟩
theorem d_Pm_depth_4 : decode k_Pm_depth.code 4 = .ok (.iload_n 1, 1) := by decide +kernel
theorem d_Pm_depth_5 : decode k_Pm_depth.code 5 = .ok (.iload_n 2, 1) := by decide +kernel
theorem s_Pm_depth_6 : SiteV k_Pm_depth k_Ph_hasCell 6 3 2 := ⟨71, (R_Ph, F_Ph, 3), by decide +kernel, ⟨kw_Ph_hasCell, tx1 3 rfl rfl, by decide, by decide⟩, tx2 45 rfl rfl, tx2 46 rfl rfl, tx2 47 rfl rfl, rfl, ⟨by decide +kernel, by decide +kernel⟩, np_Ph_hasCell⟩
theorem s_Pm_depth_9 : SiteS k_Pm_depth k_Pm_needIndex 9 1 := ⟨75, by decide +kernel, ⟨kw_Pm_needIndex, tx1 1 rfl rfl, by decide, by decide⟩, Or.inl (tx2 50 rfl rfl), tx2 51 rfl rfl, ⟨by decide +kernel, by decide +kernel⟩, np_Pm_needIndex⟩
theorem d_Pm_depth_12 : decode k_Pm_depth.code 12 = .ok (.aload_n 0, 1) := by decide +kernel
theorem g_Pm_depth_13 : SiteG k_Pm_depth 13 7 6 := ⟨63, 7, R_Pm, "PhotoModels", F_Pm, by decide +kernel, tx1 214 rfl rfl, i_Pm, rfl, rfl, by decide⟩
theorem s_Pm_depth_16 : SiteV k_Pm_depth k_Re_isRaised 16 5 0 := ⟨172, (R_Re, F_Re, 10), by decide +kernel, ⟨kw_Re_isRaised, tx1 9 rfl rfl, by decide, by decide⟩, tx3 223 rfl rfl, tx3 224 rfl rfl, tx3 225 rfl rfl, rfl, ⟨by decide +kernel, by decide +kernel⟩, np_Re_isRaised⟩
theorem s_Pm_depth_19 : SiteS k_Pm_depth k_Pm_needState 19 1 := ⟨101, by decide +kernel, ⟨kw_Pm_needState, tx1 1 rfl rfl, by decide, by decide⟩, Or.inl (tx2 193 rfl rfl), tx2 194 rfl rfl, ⟨by decide +kernel, by decide +kernel⟩, np_Pm_needState⟩
theorem d_Pm_depth_22 : decode k_Pm_depth.code 22 = .ok (.aload_n 0, 1) := by decide +kernel
theorem g_Pm_depth_23 : SiteG k_Pm_depth 23 7 6 := ⟨63, 7, R_Pm, "PhotoModels", F_Pm, by decide +kernel, tx1 214 rfl rfl, i_Pm, rfl, rfl, by decide⟩
theorem d_Pm_depth_26 : decode k_Pm_depth.code 26 = .ok (.iload_n 1, 1) := by decide +kernel
theorem d_Pm_depth_27 : decode k_Pm_depth.code 27 = .ok (.iload_n 2, 1) := by decide +kernel
theorem s_Pm_depth_28 : SiteV k_Pm_depth k_Re_depthOf 28 5 2 := ⟨175, (R_Re, F_Re, 10), by decide +kernel, ⟨kw_Re_depthOf, tx1 9 rfl rfl, by decide, by decide⟩, tx3 227 rfl rfl, tx3 228 rfl rfl, tx3 229 rfl rfl, rfl, ⟨by decide +kernel, by decide +kernel⟩, np_Re_depthOf⟩
theorem d_Pm_depth_31 : decode k_Pm_depth.code 31 = .ok (.ireturn, 1) := by decide +kernel
theorem d_Pm_holes_0 : decode k_Pm_holes.code 0 = .ok (.aload_n 0, 1) := by decide +kernel
theorem g_Pm_holes_1 : SiteG k_Pm_holes 1 7 6 := ⟨63, 7, R_Pm, "PhotoModels", F_Pm, by decide +kernel, tx1 214 rfl rfl, i_Pm, rfl, rfl, by decide⟩
theorem s_Pm_holes_4 : SiteV k_Pm_holes k_Re_isRaised 4 5 0 := ⟨172, (R_Re, F_Re, 10), by decide +kernel, ⟨kw_Re_isRaised, tx1 9 rfl rfl, by decide, by decide⟩, tx3 223 rfl rfl, tx3 224 rfl rfl, tx3 225 rfl rfl, rfl, ⟨by decide +kernel, by decide +kernel⟩, np_Re_isRaised⟩
theorem s_Pm_holes_7 : SiteS k_Pm_holes k_Pm_needState 7 1 := ⟨101, by decide +kernel, ⟨kw_Pm_needState, tx1 1 rfl rfl, by decide, by decide⟩, Or.inl (tx2 193 rfl rfl), tx2 194 rfl rfl, ⟨by decide +kernel, by decide +kernel⟩, np_Pm_needState⟩
theorem d_Pm_holes_10 : decode k_Pm_holes.code 10 = .ok (.aload_n 0, 1) := by decide +kernel
theorem g_Pm_holes_11 : SiteG k_Pm_holes 11 7 6 := ⟨63, 7, R_Pm, "PhotoModels", F_Pm, by decide +kernel, tx1 214 rfl rfl, i_Pm, rfl, rfl, by decide⟩
theorem d_Pm_holes_14 : decode k_Pm_holes.code 14 = .ok (.iload_n 1, 1) := by decide +kernel
theorem s_Pm_holes_15 : SiteV k_Pm_holes k_Re_holesAbove 15 5 1 := ⟨178, (R_Re, F_Re, 10), by decide +kernel, ⟨kw_Re_holesAbove, tx1 9 rfl rfl, by decide, by decide⟩, tx3 238 rfl rfl, tx3 239 rfl rfl, tx4 0 rfl rfl, rfl, ⟨by decide +kernel, by decide +kernel⟩, np_Re_holesAbove⟩
theorem d_Pm_holes_18 : decode k_Pm_holes.code 18 = .ok (.ireturn, 1) := by decide +kernel
theorem d_Pm_count_0 : decode k_Pm_count.code 0 = .ok (.iload_n 1, 1) := by decide +kernel
theorem d_Pm_count_1 : decode k_Pm_count.code 1 = .ok (.tableswitch 75 0 4 #[35, 43, 51, 59, 67], 35) := by decide +kernel
theorem d_Pm_count_36 : decode k_Pm_count.code 36 = .ok (.aload_n 0, 1) := by decide +kernel
theorem g_Pm_count_37 : SiteG k_Pm_count 37 7 0 := ⟨18, 7, R_Pm, "PhotoModels", F_Pm, by decide +kernel, tx1 208 rfl rfl, i_Pm, rfl, rfl, by decide⟩
theorem s_Pm_count_40 : SiteV k_Pm_count k_Ph_width 40 3 0 := ⟨181, (R_Ph, F_Ph, 3), by decide +kernel, ⟨kw_Ph_width, tx1 3 rfl rfl, by decide, by decide⟩, tx4 25 rfl rfl, tx4 26 rfl rfl, tx4 27 rfl rfl, rfl, ⟨by decide +kernel, by decide +kernel⟩, np_Ph_width⟩
theorem d_Pm_count_43 : decode k_Pm_count.code 43 = .ok (.ireturn, 1) := by decide +kernel
theorem d_Pm_count_44 : decode k_Pm_count.code 44 = .ok (.aload_n 0, 1) := by decide +kernel
theorem g_Pm_count_45 : SiteG k_Pm_count 45 7 0 := ⟨18, 7, R_Pm, "PhotoModels", F_Pm, by decide +kernel, tx1 208 rfl rfl, i_Pm, rfl, rfl, by decide⟩
theorem s_Pm_count_48 : SiteV k_Pm_count k_Ph_height 48 3 0 := ⟨184, (R_Ph, F_Ph, 3), by decide +kernel, ⟨kw_Ph_height, tx1 3 rfl rfl, by decide, by decide⟩, tx4 29 rfl rfl, tx4 30 rfl rfl, tx4 31 rfl rfl, rfl, ⟨by decide +kernel, by decide +kernel⟩, np_Ph_height⟩
theorem d_Pm_count_51 : decode k_Pm_count.code 51 = .ok (.ireturn, 1) := by decide +kernel
theorem d_Pm_count_52 : decode k_Pm_count.code 52 = .ok (.aload_n 0, 1) := by decide +kernel
theorem g_Pm_count_53 : SiteG k_Pm_count 53 7 2 := ⟨32, 7, R_Pm, "PhotoModels", F_Pm, by decide +kernel, tx1 210 rfl rfl, i_Pm, rfl, rfl, by decide⟩
theorem s_Pm_count_56 : SiteV k_Pm_count k_Pl_number 56 4 0 := ⟨108, (R_Pl, F_Pl, 5), by decide +kernel, ⟨kw_Pl_number, tx1 5 rfl rfl, by decide, by decide⟩, tx2 223 rfl rfl, tx1 239 rfl rfl, tx2 0 rfl rfl, rfl, ⟨by decide +kernel, by decide +kernel⟩, np_Pl_number⟩
theorem d_Pm_count_59 : decode k_Pm_count.code 59 = .ok (.ireturn, 1) := by decide +kernel
theorem d_Pm_count_60 : decode k_Pm_count.code 60 = .ok (.aload_n 0, 1) := by decide +kernel
theorem g_Pm_count_61 : SiteG k_Pm_count 61 7 5 := ⟨56, 7, R_Pm, "PhotoModels", F_Pm, by decide +kernel, tx1 213 rfl rfl, i_Pm, rfl, rfl, by decide⟩
theorem s_Pm_count_64 : SiteV k_Pm_count k_Le_number 64 2 0 := ⟨161, (R_Le, F_Le, 4), by decide +kernel, ⟨kw_Le_number, tx1 8 rfl rfl, by decide, by decide⟩, tx3 148 rfl rfl, tx3 149 rfl rfl, tx3 150 rfl rfl, rfl, ⟨by decide +kernel, by decide +kernel⟩, np_Le_number⟩
theorem d_Pm_count_67 : decode k_Pm_count.code 67 = .ok (.ireturn, 1) := by decide +kernel
theorem d_Pm_count_68 : decode k_Pm_count.code 68 = .ok (.aload_n 0, 1) := by decide +kernel
theorem g_Pm_count_69 : SiteG k_Pm_count 69 7 2 := ⟨32, 7, R_Pm, "PhotoModels", F_Pm, by decide +kernel, tx1 210 rfl rfl, i_Pm, rfl, rfl, by decide⟩
theorem s_Pm_count_72 : SiteV k_Pm_count k_Pl_spares 72 4 0 := ⟨187, (R_Pl, F_Pl, 5), by decide +kernel, ⟨kw_Pl_spares, tx1 5 rfl rfl, by decide, by decide⟩, tx4 33 rfl rfl, tx4 34 rfl rfl, tx4 35 rfl rfl, rfl, ⟨by decide +kernel, by decide +kernel⟩, np_Pl_spares⟩
theorem d_Pm_count_75 : decode k_Pm_count.code 75 = .ok (.ireturn, 1) := by decide +kernel
theorem d_Pm_count_76 : decode k_Pm_count.code 76 = .ok (.new 190, 3) := by decide +kernel
theorem d_Pm_count_79 : decode k_Pm_count.code 79 = .ok (.dup, 1) := by decide +kernel
theorem d_Pm_count_80 : decode k_Pm_count.code 80 = .ok (.ldc 192, 2) := by decide +kernel
theorem d_Pm_count_82 : decode k_Pm_count.code 82 = .ok (.invokespecial 194, 3) := by decide +kernel
theorem d_Pm_count_85 : decode k_Pm_count.code 85 = .ok (.athrow, 1) := by decide +kernel
