theorem d_Mo_isSeen_0 : decode k_Mo_isSeen.code 0 = .ok (.aload_n 0, 1) := by decide +kernel
theorem g_Mo_isSeen_1 : SiteG k_Mo_isSeen 1 8 8 := ⟨16, 28, R_Mo, "PhotoModelsModel", F_Mo, by decide +kernel, tx4 53 rfl rfl, i_Mo, rfl, rfl, by decide⟩
theorem d_Mo_isSeen_4 : decode k_Mo_isSeen.code 4 = .ok (.iconst 4, 1) := by decide +kernel
theorem d_Mo_isSeen_5 : decode k_Mo_isSeen.code 5 = .ok (.iload_n 1, 1) := by decide +kernel
theorem d_Mo_isSeen_6 : decode k_Mo_isSeen.code 6 = .ok (.imul, 1) := by decide +kernel
theorem d_Mo_isSeen_7 : decode k_Mo_isSeen.code 7 = .ok (.iload_n 2, 1) := by decide +kernel
theorem d_Mo_isSeen_8 : decode k_Mo_isSeen.code 8 = .ok (.iadd, 1) := by decide +kernel
theorem d_Mo_isSeen_9 : decode k_Mo_isSeen.code 9 = .ok (.iaload, 1) := by decide +kernel
theorem d_Mo_isSeen_10 : decode k_Mo_isSeen.code 10 = .ok (.iconst (-1), 1) := by decide +kernel
theorem d_Mo_isSeen_11 : decode k_Mo_isSeen.code 11 = .ok (.if_icmp .eq 7, 3) := by decide +kernel
theorem d_Mo_isSeen_14 : decode k_Mo_isSeen.code 14 = .ok (.iconst 1, 1) := by decide +kernel
theorem d_Mo_isSeen_15 : decode k_Mo_isSeen.code 15 = .ok (.goto 4, 3) := by decide +kernel
theorem d_Mo_isSeen_18 : decode k_Mo_isSeen.code 18 = .ok (.iconst 0, 1) := by decide +kernel
theorem d_Mo_isSeen_19 : decode k_Mo_isSeen.code 19 = .ok (.ireturn, 1) := by decide +kernel
theorem d_Mo_drawn_0 : decode k_Mo_drawn.code 0 = .ok (.aload_n 0, 1) := by decide +kernel
theorem g_Mo_drawn_1 : SiteG k_Mo_drawn 1 8 3 := ⟨70, 28, R_Mo, "PhotoModelsModel", F_Mo, by decide +kernel, tx4 48 rfl rfl, i_Mo, rfl, rfl, by decide⟩
theorem d_Mo_drawn_4 : decode k_Mo_drawn.code 4 = .ok (.bipush 101, 2) := by decide +kernel
theorem d_Mo_drawn_6 : decode k_Mo_drawn.code 6 = .ok (.iload_n 1, 1) := by decide +kernel
theorem d_Mo_drawn_7 : decode k_Mo_drawn.code 7 = .ok (.imul, 1) := by decide +kernel
theorem d_Mo_drawn_8 : decode k_Mo_drawn.code 8 = .ok (.iadd, 1) := by decide +kernel
theorem d_Mo_drawn_9 : decode k_Mo_drawn.code 9 = .ok (.ldc 114, 2) := by decide +kernel
theorem c_Mo_drawn_9 : Cond.constant k_Mo_drawn.y.cls 114 65537 ∈ tw := tx4 199 rfl rfl
theorem d_Mo_drawn_11 : decode k_Mo_drawn.code 11 = .ok (.irem, 1) := by decide +kernel
theorem d_Mo_drawn_12 : decode k_Mo_drawn.code 12 = .ok (.istore_n 2, 1) := by decide +kernel
theorem d_Mo_drawn_13 : decode k_Mo_drawn.code 13 = .ok (.iconst 0, 1) := by decide +kernel
theorem d_Mo_drawn_14 : decode k_Mo_drawn.code 14 = .ok (.istore_n 3, 1) := by decide +kernel
theorem d_Mo_drawn_15 : decode k_Mo_drawn.code 15 = .ok (.iload_n 3, 1) := by decide +kernel
theorem d_Mo_drawn_16 : decode k_Mo_drawn.code 16 = .ok (.iconst 3, 1) := by decide +kernel
theorem d_Mo_drawn_17 : decode k_Mo_drawn.code 17 = .ok (.if_icmp .ge 20, 3) := by decide +kernel
theorem d_Mo_drawn_20 : decode k_Mo_drawn.code 20 = .ok (.bipush 75, 2) := by decide +kernel
theorem d_Mo_drawn_22 : decode k_Mo_drawn.code 22 = .ok (.iload_n 2, 1) := by decide +kernel
theorem d_Mo_drawn_23 : decode k_Mo_drawn.code 23 = .ok (.imul, 1) := by decide +kernel
theorem d_Mo_drawn_24 : decode k_Mo_drawn.code 24 = .ok (.bipush 74, 2) := by decide +kernel
theorem d_Mo_drawn_26 : decode k_Mo_drawn.code 26 = .ok (.iadd, 1) := by decide +kernel
theorem d_Mo_drawn_27 : decode k_Mo_drawn.code 27 = .ok (.ldc 114, 2) := by decide +kernel
theorem c_Mo_drawn_27 : Cond.constant k_Mo_drawn.y.cls 114 65537 ∈ tw := tx4 199 rfl rfl
theorem d_Mo_drawn_29 : decode k_Mo_drawn.code 29 = .ok (.irem, 1) := by decide +kernel
theorem d_Mo_drawn_30 : decode k_Mo_drawn.code 30 = .ok (.istore_n 2, 1) := by decide +kernel
theorem d_Mo_drawn_31 : decode k_Mo_drawn.code 31 = .ok (.iinc 3 1, 3) := by decide +kernel
theorem d_Mo_drawn_34 : decode k_Mo_drawn.code 34 = .ok (.goto (-19), 3) := by decide +kernel
theorem d_Mo_drawn_37 : decode k_Mo_drawn.code 37 = .ok (.iload_n 2, 1) := by decide +kernel
theorem d_Mo_drawn_38 : decode k_Mo_drawn.code 38 = .ok (.ireturn, 1) := by decide +kernel
theorem d_Mo_agreeing_0 : decode k_Mo_agreeing.code 0 = .ok (.iconst 0, 1) := by decide +kernel
theorem d_Mo_agreeing_1 : decode k_Mo_agreeing.code 1 = .ok (.istore 5, 2) := by decide +kernel
theorem d_Mo_agreeing_3 : decode k_Mo_agreeing.code 3 = .ok (.iconst 0, 1) := by decide +kernel
theorem d_Mo_agreeing_4 : decode k_Mo_agreeing.code 4 = .ok (.istore 6, 2) := by decide +kernel
theorem d_Mo_agreeing_6 : decode k_Mo_agreeing.code 6 = .ok (.iload 6, 2) := by decide +kernel
theorem d_Mo_agreeing_8 : decode k_Mo_agreeing.code 8 = .ok (.aload_n 0, 1) := by decide +kernel
theorem g_Mo_agreeing_9 : SiteG k_Mo_agreeing 9 8 7 := ⟨80, 28, R_Mo, "PhotoModelsModel", F_Mo, by decide +kernel, tx4 52 rfl rfl, i_Mo, rfl, rfl, by decide⟩
theorem d_Mo_agreeing_12 : decode k_Mo_agreeing.code 12 = .ok (.if_icmp .ge 93, 3) := by decide +kernel
theorem d_Mo_agreeing_15 : decode k_Mo_agreeing.code 15 = .ok (.aload_n 0, 1) := by decide +kernel
theorem d_Mo_agreeing_16 : decode k_Mo_agreeing.code 16 = .ok (.iload 6, 2) := by decide +kernel
theorem d_Mo_agreeing_18 : decode k_Mo_agreeing.code 18 = .ok (.iload_n 2, 1) := by decide +kernel
theorem d_Mo_agreeing_19 : decode k_Mo_agreeing.code 19 = .ok (.iload_n 3, 1) := by decide +kernel
theorem s_Mo_agreeing_20 : SiteV k_Mo_agreeing k_Mo_isBoth 20 8 3 := ⟨121, (R_Mo, F_Mo, 28), by decide +kernel, ⟨kw_Mo_isBoth, tx1 10 rfl rfl, by decide, by decide⟩, tx4 187 rfl rfl, tx4 189 rfl rfl, twp 27 rfl rfl, rfl, ⟨by decide +kernel, by decide +kernel⟩, np_Mo_isBoth⟩
theorem d_Mo_agreeing_23 : decode k_Mo_agreeing.code 23 = .ok (.ifCond .eq 57, 3) := by decide +kernel
theorem d_Mo_agreeing_26 : decode k_Mo_agreeing.code 26 = .ok (.aload_n 0, 1) := by decide +kernel
theorem d_Mo_agreeing_27 : decode k_Mo_agreeing.code 27 = .ok (.iload 6, 2) := by decide +kernel
theorem d_Mo_agreeing_29 : decode k_Mo_agreeing.code 29 = .ok (.iload_n 2, 1) := by decide +kernel
theorem d_Mo_agreeing_30 : decode k_Mo_agreeing.code 30 = .ok (.iload_n 3, 1) := by decide +kernel
theorem d_Mo_agreeing_31 : decode k_Mo_agreeing.code 31 = .ok (.iconst 0, 1) := by decide +kernel
theorem s_Mo_agreeing_32 : SiteV k_Mo_agreeing k_Mo_between 32 8 4 := ⟨124, (R_Mo, F_Mo, 28), by decide +kernel, ⟨kw_Mo_between, tx1 10 rfl rfl, by decide, by decide⟩, tx4 204 rfl rfl, tx4 206 rfl rfl, twp 31 rfl rfl, rfl, ⟨by decide +kernel, by decide +kernel⟩, np_Mo_between⟩
theorem d_Mo_agreeing_35 : decode k_Mo_agreeing.code 35 = .ok (.aload_n 0, 1) := by decide +kernel
theorem d_Mo_agreeing_36 : decode k_Mo_agreeing.code 36 = .ok (.iload_n 1, 1) := by decide +kernel
theorem d_Mo_agreeing_37 : decode k_Mo_agreeing.code 37 = .ok (.iload_n 2, 1) := by decide +kernel
theorem d_Mo_agreeing_38 : decode k_Mo_agreeing.code 38 = .ok (.iload_n 3, 1) := by decide +kernel
theorem d_Mo_agreeing_39 : decode k_Mo_agreeing.code 39 = .ok (.iconst 0, 1) := by decide +kernel
theorem s_Mo_agreeing_40 : SiteV k_Mo_agreeing k_Mo_between 40 8 4 := ⟨124, (R_Mo, F_Mo, 28), by decide +kernel, ⟨kw_Mo_between, tx1 10 rfl rfl, by decide, by decide⟩, tx4 204 rfl rfl, tx4 206 rfl rfl, twp 31 rfl rfl, rfl, ⟨by decide +kernel, by decide +kernel⟩, np_Mo_between⟩
theorem s_Mo_agreeing_43 : SiteS k_Mo_agreeing k_Mo_apart 43 2 := ⟨103, by decide +kernel, ⟨kw_Mo_apart, tx1 10 rfl rfl, by decide, by decide⟩, Or.inl (tx4 164 rfl rfl), tx4 165 rfl rfl, ⟨by decide +kernel, by decide +kernel⟩, np_Mo_apart⟩
theorem d_Mo_agreeing_46 : decode k_Mo_agreeing.code 46 = .ok (.iload 4, 2) := by decide +kernel
theorem d_Mo_agreeing_48 : decode k_Mo_agreeing.code 48 = .ok (.if_icmp .gt 32, 3) := by decide +kernel
theorem d_Mo_agreeing_51 : decode k_Mo_agreeing.code 51 = .ok (.aload_n 0, 1) := by decide +kernel
theorem d_Mo_agreeing_52 : decode k_Mo_agreeing.code 52 = .ok (.iload 6, 2) := by decide +kernel
theorem d_Mo_agreeing_54 : decode k_Mo_agreeing.code 54 = .ok (.iload_n 2, 1) := by decide +kernel
theorem d_Mo_agreeing_55 : decode k_Mo_agreeing.code 55 = .ok (.iload_n 3, 1) := by decide +kernel
theorem d_Mo_agreeing_56 : decode k_Mo_agreeing.code 56 = .ok (.iconst 1, 1) := by decide +kernel
theorem s_Mo_agreeing_57 : SiteV k_Mo_agreeing k_Mo_between 57 8 4 := ⟨124, (R_Mo, F_Mo, 28), by decide +kernel, ⟨kw_Mo_between, tx1 10 rfl rfl, by decide, by decide⟩, tx4 204 rfl rfl, tx4 206 rfl rfl, twp 31 rfl rfl, rfl, ⟨by decide +kernel, by decide +kernel⟩, np_Mo_between⟩
theorem d_Mo_agreeing_60 : decode k_Mo_agreeing.code 60 = .ok (.aload_n 0, 1) := by decide +kernel
theorem d_Mo_agreeing_61 : decode k_Mo_agreeing.code 61 = .ok (.iload_n 1, 1) := by decide +kernel
theorem d_Mo_agreeing_62 : decode k_Mo_agreeing.code 62 = .ok (.iload_n 2, 1) := by decide +kernel
theorem d_Mo_agreeing_63 : decode k_Mo_agreeing.code 63 = .ok (.iload_n 3, 1) := by decide +kernel
theorem d_Mo_agreeing_64 : decode k_Mo_agreeing.code 64 = .ok (.iconst 1, 1) := by decide +kernel
theorem s_Mo_agreeing_65 : SiteV k_Mo_agreeing k_Mo_between 65 8 4 := ⟨124, (R_Mo, F_Mo, 28), by decide +kernel, ⟨kw_Mo_between, tx1 10 rfl rfl, by decide, by decide⟩, tx4 204 rfl rfl, tx4 206 rfl rfl, twp 31 rfl rfl, rfl, ⟨by decide +kernel, by decide +kernel⟩, np_Mo_between⟩
theorem s_Mo_agreeing_68 : SiteS k_Mo_agreeing k_Mo_apart 68 2 := ⟨103, by decide +kernel, ⟨kw_Mo_apart, tx1 10 rfl rfl, by decide, by decide⟩, Or.inl (tx4 164 rfl rfl), tx4 165 rfl rfl, ⟨by decide +kernel, by decide +kernel⟩, np_Mo_apart⟩
theorem d_Mo_agreeing_71 : decode k_Mo_agreeing.code 71 = .ok (.iload 4, 2) := by decide +kernel
theorem d_Mo_agreeing_73 : decode k_Mo_agreeing.code 73 = .ok (.if_icmp .gt 7, 3) := by decide +kernel
theorem d_Mo_agreeing_76 : decode k_Mo_agreeing.code 76 = .ok (.iconst 1, 1) := by decide +kernel
theorem d_Mo_agreeing_77 : decode k_Mo_agreeing.code 77 = .ok (.goto 4, 3) := by decide +kernel
theorem d_Mo_agreeing_80 : decode k_Mo_agreeing.code 80 = .ok (.iconst 0, 1) := by decide +kernel
theorem d_Mo_agreeing_81 : decode k_Mo_agreeing.code 81 = .ok (.istore 7, 2) := by decide +kernel
theorem d_Mo_agreeing_83 : decode k_Mo_agreeing.code 83 = .ok (.iload 7, 2) := by decide +kernel
theorem d_Mo_agreeing_85 : decode k_Mo_agreeing.code 85 = .ok (.ifCond .eq 10, 3) := by decide +kernel
theorem d_Mo_agreeing_88 : decode k_Mo_agreeing.code 88 = .ok (.iload 5, 2) := by decide +kernel
theorem d_Mo_agreeing_90 : decode k_Mo_agreeing.code 90 = .ok (.iconst 1, 1) := by decide +kernel
theorem d_Mo_agreeing_91 : decode k_Mo_agreeing.code 91 = .ok (.iadd, 1) := by decide +kernel
theorem d_Mo_agreeing_92 : decode k_Mo_agreeing.code 92 = .ok (.goto 5, 3) := by decide +kernel
theorem d_Mo_agreeing_95 : decode k_Mo_agreeing.code 95 = .ok (.iload 5, 2) := by decide +kernel
theorem d_Mo_agreeing_97 : decode k_Mo_agreeing.code 97 = .ok (.istore 5, 2) := by decide +kernel
theorem d_Mo_agreeing_99 : decode k_Mo_agreeing.code 99 = .ok (.iinc 6 1, 3) := by decide +kernel
theorem d_Mo_agreeing_102 : decode k_Mo_agreeing.code 102 = .ok (.goto (-96), 3) := by decide +kernel
theorem d_Mo_agreeing_105 : decode k_Mo_agreeing.code 105 = .ok (.iload 5, 2) := by decide +kernel
theorem d_Mo_agreeing_107 : decode k_Mo_agreeing.code 107 = .ok (.ireturn, 1) := by decide +kernel
theorem d_Mo_between_0 : decode k_Mo_between.code 0 = .ok (.aload_n 0, 1) := by decide +kernel
theorem d_Mo_between_1 : decode k_Mo_between.code 1 = .ok (.iload_n 1, 1) := by decide +kernel
theorem d_Mo_between_2 : decode k_Mo_between.code 2 = .ok (.iload_n 3, 1) := by decide +kernel
theorem d_Mo_between_3 : decode k_Mo_between.code 3 = .ok (.iload 4, 2) := by decide +kernel
theorem s_Mo_between_5 : SiteV k_Mo_between k_Mo_where 5 8 3 := ⟨118, (R_Mo, F_Mo, 28), by decide +kernel, ⟨kw_Mo_where, tx1 10 rfl rfl, by decide, by decide⟩, tx4 208 rfl rfl, tx4 210 rfl rfl, twp 32 rfl rfl, rfl, ⟨by decide +kernel, by decide +kernel⟩, np_Mo_where⟩
theorem d_Mo_between_8 : decode k_Mo_between.code 8 = .ok (.aload_n 0, 1) := by decide +kernel
theorem d_Mo_between_9 : decode k_Mo_between.code 9 = .ok (.iload_n 1, 1) := by decide +kernel
theorem d_Mo_between_10 : decode k_Mo_between.code 10 = .ok (.iload_n 2, 1) := by decide +kernel
theorem d_Mo_between_11 : decode k_Mo_between.code 11 = .ok (.iload 4, 2) := by decide +kernel
theorem s_Mo_between_13 : SiteV k_Mo_between k_Mo_where 13 8 3 := ⟨118, (R_Mo, F_Mo, 28), by decide +kernel, ⟨kw_Mo_where, tx1 10 rfl rfl, by decide, by decide⟩, tx4 208 rfl rfl, tx4 210 rfl rfl, twp 32 rfl rfl, rfl, ⟨by decide +kernel, by decide +kernel⟩, np_Mo_where⟩
theorem d_Mo_between_16 : decode k_Mo_between.code 16 = .ok (.isub, 1) := by decide +kernel
theorem d_Mo_between_17 : decode k_Mo_between.code 17 = .ok (.sipush 1000, 3) := by decide +kernel
theorem d_Mo_between_20 : decode k_Mo_between.code 20 = .ok (.idiv, 1) := by decide +kernel
theorem d_Mo_between_21 : decode k_Mo_between.code 21 = .ok (.ireturn, 1) := by decide +kernel
theorem d_Mo_where_0 : decode k_Mo_where.code 0 = .ok (.sipush 1000, 3) := by decide +kernel
theorem d_Mo_where_3 : decode k_Mo_where.code 3 = .ok (.iload_n 3, 1) := by decide +kernel
theorem d_Mo_where_4 : decode k_Mo_where.code 4 = .ok (.ifCond .ne 16, 3) := by decide +kernel
theorem d_Mo_where_7 : decode k_Mo_where.code 7 = .ok (.aload_n 0, 1) := by decide +kernel
theorem g_Mo_where_8 : SiteG k_Mo_where 8 8 8 := ⟨16, 28, R_Mo, "PhotoModelsModel", F_Mo, by decide +kernel, tx4 53 rfl rfl, i_Mo, rfl, rfl, by decide⟩
theorem d_Mo_where_11 : decode k_Mo_where.code 11 = .ok (.iconst 4, 1) := by decide +kernel
theorem d_Mo_where_12 : decode k_Mo_where.code 12 = .ok (.iload_n 1, 1) := by decide +kernel
theorem d_Mo_where_13 : decode k_Mo_where.code 13 = .ok (.imul, 1) := by decide +kernel
theorem d_Mo_where_14 : decode k_Mo_where.code 14 = .ok (.iload_n 2, 1) := by decide +kernel
theorem d_Mo_where_15 : decode k_Mo_where.code 15 = .ok (.iadd, 1) := by decide +kernel
theorem d_Mo_where_16 : decode k_Mo_where.code 16 = .ok (.iaload, 1) := by decide +kernel
theorem d_Mo_where_17 : decode k_Mo_where.code 17 = .ok (.goto 13, 3) := by decide +kernel
theorem d_Mo_where_20 : decode k_Mo_where.code 20 = .ok (.aload_n 0, 1) := by decide +kernel
theorem g_Mo_where_21 : SiteG k_Mo_where 21 8 9 := ⟨19, 28, R_Mo, "PhotoModelsModel", F_Mo, by decide +kernel, tx4 54 rfl rfl, i_Mo, rfl, rfl, by decide⟩
theorem d_Mo_where_24 : decode k_Mo_where.code 24 = .ok (.iconst 4, 1) := by decide +kernel
theorem d_Mo_where_25 : decode k_Mo_where.code 25 = .ok (.iload_n 1, 1) := by decide +kernel
theorem d_Mo_where_26 : decode k_Mo_where.code 26 = .ok (.imul, 1) := by decide +kernel
theorem d_Mo_where_27 : decode k_Mo_where.code 27 = .ok (.iload_n 2, 1) := by decide +kernel
theorem d_Mo_where_28 : decode k_Mo_where.code 28 = .ok (.iadd, 1) := by decide +kernel
theorem d_Mo_where_29 : decode k_Mo_where.code 29 = .ok (.iaload, 1) := by decide +kernel
theorem d_Mo_where_30 : decode k_Mo_where.code 30 = .ok (.imul, 1) := by decide +kernel
theorem d_Mo_where_31 : decode k_Mo_where.code 31 = .ok (.ireturn, 1) := by decide +kernel
theorem d_Mo_shift_0 : decode k_Mo_shift.code 0 = .ok (.aload_n 0, 1) := by decide +kernel
theorem d_Mo_shift_1 : decode k_Mo_shift.code 1 = .ok (.iload_n 1, 1) := by decide +kernel
theorem d_Mo_shift_2 : decode k_Mo_shift.code 2 = .ok (.iconst 0, 1) := by decide +kernel
theorem d_Mo_shift_3 : decode k_Mo_shift.code 3 = .ok (.iconst 1, 1) := by decide +kernel
theorem s_Mo_shift_4 : SiteS k_Mo_shift k_Mo_within 4 3 := ⟨76, by decide +kernel, ⟨kw_Mo_within, tx1 10 rfl rfl, by decide, by decide⟩, Or.inl (tx4 141 rfl rfl), tx4 142 rfl rfl, ⟨by decide +kernel, by decide +kernel⟩, np_Mo_within⟩
theorem d_Mo_shift_7 : decode k_Mo_shift.code 7 = .ok (.aload_n 0, 1) := by decide +kernel
theorem g_Mo_shift_8 : SiteG k_Mo_shift 8 8 15 := ⟨128, 28, R_Mo, "PhotoModelsModel", F_Mo, by decide +kernel, tx4 60 rfl rfl, i_Mo, rfl, rfl, by decide⟩
theorem d_Mo_shift_11 : decode k_Mo_shift.code 11 = .ok (.iconst 1, 1) := by decide +kernel
theorem s_Mo_shift_12 : SiteV k_Mo_shift k_Mo_goes 12 8 3 := ⟨91, (R_Mo, F_Mo, 28), by decide +kernel, ⟨kw_Mo_goes, tx1 10 rfl rfl, by decide, by decide⟩, tx4 148 rfl rfl, tx4 150 rfl rfl, twp 23 rfl rfl, rfl, ⟨by decide +kernel, by decide +kernel⟩, np_Mo_goes⟩
theorem d_Mo_shift_15 : decode k_Mo_shift.code 15 = .ok (.ifCond .ne 5, 3) := by decide +kernel
theorem d_Mo_shift_18 : decode k_Mo_shift.code 18 = .ok (.iconst 0, 1) := by decide +kernel
theorem d_Mo_shift_19 : decode k_Mo_shift.code 19 = .ok (.ireturn, 1) := by decide +kernel
theorem d_Mo_shift_20 : decode k_Mo_shift.code 20 = .ok (.iload_n 1, 1) := by decide +kernel
theorem d_Mo_shift_21 : decode k_Mo_shift.code 21 = .ok (.ifCond .ne 10, 3) := by decide +kernel
theorem d_Mo_shift_24 : decode k_Mo_shift.code 24 = .ok (.aload_n 0, 1) := by decide +kernel
theorem g_Mo_shift_25 : SiteG k_Mo_shift 25 8 16 := ⟨138, 28, R_Mo, "PhotoModelsModel", F_Mo, by decide +kernel, tx4 61 rfl rfl, i_Mo, rfl, rfl, by decide⟩
theorem d_Mo_shift_28 : decode k_Mo_shift.code 28 = .ok (.goto 7, 3) := by decide +kernel
theorem d_Mo_shift_31 : decode k_Mo_shift.code 31 = .ok (.aload_n 0, 1) := by decide +kernel
theorem g_Mo_shift_32 : SiteG k_Mo_shift 32 8 17 := ⟨141, 28, R_Mo, "PhotoModelsModel", F_Mo, by decide +kernel, tx4 62 rfl rfl, i_Mo, rfl, rfl, by decide⟩
theorem d_Mo_shift_35 : decode k_Mo_shift.code 35 = .ok (.ireturn, 1) := by decide +kernel
theorem d_Mo_spare_0 : decode k_Mo_spare.code 0 = .ok (.aload_n 0, 1) := by decide +kernel
theorem d_Mo_spare_1 : decode k_Mo_spare.code 1 = .ok (.aload_n 0, 1) := by decide +kernel
theorem d_Mo_spare_2 : decode k_Mo_spare.code 2 = .ok (.iload_n 1, 1) := by decide +kernel
theorem s_Mo_spare_3 : SiteV k_Mo_spare k_Mo_isPlace 3 8 1 := ⟨111, (R_Mo, F_Mo, 28), by decide +kernel, ⟨kw_Mo_isPlace, tx1 10 rfl rfl, by decide, by decide⟩, tx4 179 rfl rfl, tx4 181 rfl rfl, twp 26 rfl rfl, rfl, ⟨by decide +kernel, by decide +kernel⟩, np_Mo_isPlace⟩
theorem d_Mo_spare_6 : decode k_Mo_spare.code 6 = .ok (.iconst 1, 1) := by decide +kernel
theorem d_Mo_spare_7 : decode k_Mo_spare.code 7 = .ok (.iconst 1, 1) := by decide +kernel
theorem s_Mo_spare_8 : SiteV k_Mo_spare k_Mo_goes 8 8 3 := ⟨91, (R_Mo, F_Mo, 28), by decide +kernel, ⟨kw_Mo_goes, tx1 10 rfl rfl, by decide, by decide⟩, tx4 148 rfl rfl, tx4 150 rfl rfl, twp 23 rfl rfl, rfl, ⟨by decide +kernel, by decide +kernel⟩, np_Mo_goes⟩
theorem d_Mo_spare_11 : decode k_Mo_spare.code 11 = .ok (.ifCond .ne 5, 3) := by decide +kernel
theorem d_Mo_spare_14 : decode k_Mo_spare.code 14 = .ok (.iconst 0, 1) := by decide +kernel
theorem d_Mo_spare_15 : decode k_Mo_spare.code 15 = .ok (.ireturn, 1) := by decide +kernel
theorem d_Mo_spare_16 : decode k_Mo_spare.code 16 = .ok (.aload_n 0, 1) := by decide +kernel
theorem g_Mo_spare_17 : SiteG k_Mo_spare 17 8 10 := ⟨22, 28, R_Mo, "PhotoModelsModel", F_Mo, by decide +kernel, tx4 55 rfl rfl, i_Mo, rfl, rfl, by decide⟩
theorem d_Mo_spare_20 : decode k_Mo_spare.code 20 = .ok (.iload_n 1, 1) := by decide +kernel
theorem d_Mo_spare_21 : decode k_Mo_spare.code 21 = .ok (.baload, 1) := by decide +kernel
theorem d_Mo_spare_22 : decode k_Mo_spare.code 22 = .ok (.istore_n 3, 1) := by decide +kernel
theorem d_Mo_spare_23 : decode k_Mo_spare.code 23 = .ok (.aload_n 0, 1) := by decide +kernel
theorem g_Mo_spare_24 : SiteG k_Mo_spare 24 8 10 := ⟨22, 28, R_Mo, "PhotoModelsModel", F_Mo, by decide +kernel, tx4 55 rfl rfl, i_Mo, rfl, rfl, by decide⟩
theorem d_Mo_spare_27 : decode k_Mo_spare.code 27 = .ok (.iload_n 1, 1) := by decide +kernel
theorem d_Mo_spare_28 : decode k_Mo_spare.code 28 = .ok (.iload_n 2, 1) := by decide +kernel
theorem d_Mo_spare_29 : decode k_Mo_spare.code 29 = .ok (.bastore, 1) := by decide +kernel
theorem d_Mo_spare_30 : decode k_Mo_spare.code 30 = .ok (.iload_n 3, 1) := by decide +kernel
theorem d_Mo_spare_31 : decode k_Mo_spare.code 31 = .ok (.iload_n 2, 1) := by decide +kernel
theorem d_Mo_spare_32 : decode k_Mo_spare.code 32 = .ok (.if_icmp .eq 7, 3) := by decide +kernel
theorem d_Mo_spare_35 : decode k_Mo_spare.code 35 = .ok (.iconst 1, 1) := by decide +kernel
theorem d_Mo_spare_36 : decode k_Mo_spare.code 36 = .ok (.goto 4, 3) := by decide +kernel
theorem d_Mo_spare_39 : decode k_Mo_spare.code 39 = .ok (.iconst 0, 1) := by decide +kernel
theorem d_Mo_spare_40 : decode k_Mo_spare.code 40 = .ok (.ireturn, 1) := by decide +kernel
theorem d_Mo_run_0 : decode k_Mo_run.code 0 = .ok (.aload_n 0, 1) := by decide +kernel
theorem d_Mo_run_1 : decode k_Mo_run.code 1 = .ok (.iload_n 1, 1) := by decide +kernel
theorem d_Mo_run_2 : decode k_Mo_run.code 2 = .ok (.iconst 0, 1) := by decide +kernel
theorem d_Mo_run_3 : decode k_Mo_run.code 3 = .ok (.bipush 20, 2) := by decide +kernel
theorem s_Mo_run_5 : SiteS k_Mo_run k_Mo_within 5 3 := ⟨76, by decide +kernel, ⟨kw_Mo_within, tx1 10 rfl rfl, by decide, by decide⟩, Or.inl (tx4 141 rfl rfl), tx4 142 rfl rfl, ⟨by decide +kernel, by decide +kernel⟩, np_Mo_within⟩
theorem d_Mo_run_8 : decode k_Mo_run.code 8 = .ok (.iconst 1, 1) := by decide +kernel
theorem d_Mo_run_9 : decode k_Mo_run.code 9 = .ok (.iconst 1, 1) := by decide +kernel
theorem s_Mo_run_10 : SiteV k_Mo_run k_Mo_goes 10 8 3 := ⟨91, (R_Mo, F_Mo, 28), by decide +kernel, ⟨kw_Mo_goes, tx1 10 rfl rfl, by decide, by decide⟩, tx4 148 rfl rfl, tx4 150 rfl rfl, twp 23 rfl rfl, rfl, ⟨by decide +kernel, by decide +kernel⟩, np_Mo_goes⟩
theorem d_Mo_run_13 : decode k_Mo_run.code 13 = .ok (.ifCond .ne 5, 3) := by decide +kernel
theorem d_Mo_run_16 : decode k_Mo_run.code 16 = .ok (.iconst 0, 1) := by decide +kernel
theorem d_Mo_run_17 : decode k_Mo_run.code 17 = .ok (.ireturn, 1) := by decide +kernel
theorem d_Mo_run_18 : decode k_Mo_run.code 18 = .ok (.aload_n 0, 1) := by decide +kernel
theorem s_Mo_run_19 : SiteV k_Mo_run k_Mo_begin 19 8 0 := ⟨158, (R_Mo, F_Mo, 28), by decide +kernel, ⟨kw_Mo_begin, tx1 10 rfl rfl, by decide, by decide⟩, tx4 224 rfl rfl, tx4 226 rfl rfl, twp 33 rfl rfl, rfl, ⟨by decide +kernel, by decide +kernel⟩, np_Mo_begin⟩
theorem d_Mo_run_22 : decode k_Mo_run.code 22 = .ok (.iconst 0, 1) := by decide +kernel
theorem d_Mo_run_23 : decode k_Mo_run.code 23 = .ok (.istore_n 2, 1) := by decide +kernel
theorem d_Mo_run_24 : decode k_Mo_run.code 24 = .ok (.iconst 1, 1) := by decide +kernel
theorem d_Mo_run_25 : decode k_Mo_run.code 25 = .ok (.istore_n 3, 1) := by decide +kernel
theorem d_Mo_run_26 : decode k_Mo_run.code 26 = .ok (.iload_n 2, 1) := by decide +kernel
theorem d_Mo_run_27 : decode k_Mo_run.code 27 = .ok (.iload_n 1, 1) := by decide +kernel
theorem d_Mo_run_28 : decode k_Mo_run.code 28 = .ok (.if_icmp .ge 152, 3) := by decide +kernel
theorem d_Mo_run_31 : decode k_Mo_run.code 31 = .ok (.iload_n 3, 1) := by decide +kernel
theorem d_Mo_run_32 : decode k_Mo_run.code 32 = .ok (.ifCond .eq 148, 3) := by decide +kernel
theorem d_Mo_run_35 : decode k_Mo_run.code 35 = .ok (.aload_n 0, 1) := by decide +kernel
theorem s_Mo_run_36 : SiteV k_Mo_run k_Mo_all 36 8 0 := ⟨161, (R_Mo, F_Mo, 28), by decide +kernel, ⟨kw_Mo_all, tx1 10 rfl rfl, by decide, by decide⟩, tx4 235 rfl rfl, tx4 237 rfl rfl, twp 35 rfl rfl, rfl, ⟨by decide +kernel, by decide +kernel⟩, np_Mo_all⟩
theorem d_Mo_run_39 : decode k_Mo_run.code 39 = .ok (.lstore 4, 2) := by decide +kernel
theorem d_Mo_run_41 : decode k_Mo_run.code 41 = .ok (.iconst 0, 1) := by decide +kernel
theorem d_Mo_run_42 : decode k_Mo_run.code 42 = .ok (.istore 6, 2) := by decide +kernel
theorem d_Mo_run_44 : decode k_Mo_run.code 44 = .ok (.iload 6, 2) := by decide +kernel
theorem d_Mo_run_46 : decode k_Mo_run.code 46 = .ok (.bipush 24, 2) := by decide +kernel
theorem d_Mo_run_48 : decode k_Mo_run.code 48 = .ok (.if_icmp .ge 43, 3) := by decide +kernel
theorem d_Mo_run_51 : decode k_Mo_run.code 51 = .ok (.aload_n 0, 1) := by decide +kernel
theorem g_Mo_run_52 : SiteG k_Mo_run 52 8 13 := ⟨32, 28, R_Mo, "PhotoModelsModel", F_Mo, by decide +kernel, tx4 58 rfl rfl, i_Mo, rfl, rfl, by decide⟩
theorem d_Mo_run_55 : decode k_Mo_run.code 55 = .ok (.iload 6, 2) := by decide +kernel
theorem d_Mo_run_57 : decode k_Mo_run.code 57 = .ok (.aload_n 0, 1) := by decide +kernel
theorem g_Mo_run_58 : SiteG k_Mo_run 58 8 11 := ⟨26, 28, R_Mo, "PhotoModelsModel", F_Mo, by decide +kernel, tx4 56 rfl rfl, i_Mo, rfl, rfl, by decide⟩
theorem d_Mo_run_61 : decode k_Mo_run.code 61 = .ok (.iload 6, 2) := by decide +kernel
theorem d_Mo_run_63 : decode k_Mo_run.code 63 = .ok (.iaload, 1) := by decide +kernel
theorem d_Mo_run_64 : decode k_Mo_run.code 64 = .ok (.iastore, 1) := by decide +kernel
theorem d_Mo_run_65 : decode k_Mo_run.code 65 = .ok (.aload_n 0, 1) := by decide +kernel
theorem g_Mo_run_66 : SiteG k_Mo_run 66 8 14 := ⟨35, 28, R_Mo, "PhotoModelsModel", F_Mo, by decide +kernel, tx4 59 rfl rfl, i_Mo, rfl, rfl, by decide⟩
theorem d_Mo_run_69 : decode k_Mo_run.code 69 = .ok (.iload 6, 2) := by decide +kernel
theorem d_Mo_run_71 : decode k_Mo_run.code 71 = .ok (.bipush 8, 2) := by decide +kernel
theorem d_Mo_run_73 : decode k_Mo_run.code 73 = .ok (.irem, 1) := by decide +kernel
theorem d_Mo_run_74 : decode k_Mo_run.code 74 = .ok (.aload_n 0, 1) := by decide +kernel
theorem g_Mo_run_75 : SiteG k_Mo_run 75 8 12 := ⟨29, 28, R_Mo, "PhotoModelsModel", F_Mo, by decide +kernel, tx4 57 rfl rfl, i_Mo, rfl, rfl, by decide⟩
theorem d_Mo_run_78 : decode k_Mo_run.code 78 = .ok (.iload 6, 2) := by decide +kernel
theorem d_Mo_run_80 : decode k_Mo_run.code 80 = .ok (.bipush 8, 2) := by decide +kernel
theorem d_Mo_run_82 : decode k_Mo_run.code 82 = .ok (.irem, 1) := by decide +kernel
theorem d_Mo_run_83 : decode k_Mo_run.code 83 = .ok (.iaload, 1) := by decide +kernel
theorem d_Mo_run_84 : decode k_Mo_run.code 84 = .ok (.iastore, 1) := by decide +kernel
theorem d_Mo_run_85 : decode k_Mo_run.code 85 = .ok (.iinc 6 1, 3) := by decide +kernel
theorem d_Mo_run_88 : decode k_Mo_run.code 88 = .ok (.goto (-44), 3) := by decide +kernel
theorem d_Mo_run_91 : decode k_Mo_run.code 91 = .ok (.aload_n 0, 1) := by decide +kernel
theorem s_Mo_run_92 : SiteV k_Mo_run k_Mo_round 92 8 0 := ⟨165, (R_Mo, F_Mo, 28), by decide +kernel, ⟨kw_Mo_round, tx1 10 rfl rfl, by decide, by decide⟩, tx5 3 rfl rfl, tx5 5 rfl rfl, twp 37 rfl rfl, rfl, ⟨by decide +kernel, by decide +kernel⟩, np_Mo_round⟩
theorem d_Mo_run_95 : decode k_Mo_run.code 95 = .ok (.aload_n 0, 1) := by decide +kernel
theorem s_Mo_run_96 : SiteV k_Mo_run k_Mo_all 96 8 0 := ⟨161, (R_Mo, F_Mo, 28), by decide +kernel, ⟨kw_Mo_all, tx1 10 rfl rfl, by decide, by decide⟩, tx4 235 rfl rfl, tx4 237 rfl rfl, twp 35 rfl rfl, rfl, ⟨by decide +kernel, by decide +kernel⟩, np_Mo_all⟩
theorem d_Mo_run_99 : decode k_Mo_run.code 99 = .ok (.lload 4, 2) := by decide +kernel
theorem d_Mo_run_101 : decode k_Mo_run.code 101 = .ok (.lcmp, 1) := by decide +kernel
theorem d_Mo_run_102 : decode k_Mo_run.code 102 = .ok (.ifCond .gt 7, 3) := by decide +kernel
theorem d_Mo_run_105 : decode k_Mo_run.code 105 = .ok (.iconst 1, 1) := by decide +kernel
theorem d_Mo_run_106 : decode k_Mo_run.code 106 = .ok (.goto 4, 3) := by decide +kernel
theorem d_Mo_run_109 : decode k_Mo_run.code 109 = .ok (.iconst 0, 1) := by decide +kernel
theorem d_Mo_run_110 : decode k_Mo_run.code 110 = .ok (.istore_n 3, 1) := by decide +kernel
theorem d_Mo_run_111 : decode k_Mo_run.code 111 = .ok (.iconst 0, 1) := by decide +kernel
theorem d_Mo_run_112 : decode k_Mo_run.code 112 = .ok (.istore 6, 2) := by decide +kernel
theorem d_Mo_run_114 : decode k_Mo_run.code 114 = .ok (.iload 6, 2) := by decide +kernel
theorem d_Mo_run_116 : decode k_Mo_run.code 116 = .ok (.bipush 24, 2) := by decide +kernel
theorem d_Mo_run_118 : decode k_Mo_run.code 118 = .ok (.if_icmp .ge 47, 3) := by decide +kernel
theorem d_Mo_run_121 : decode k_Mo_run.code 121 = .ok (.iload_n 3, 1) := by decide +kernel
theorem d_Mo_run_122 : decode k_Mo_run.code 122 = .ok (.ifCond .ne 43, 3) := by decide +kernel
theorem d_Mo_run_125 : decode k_Mo_run.code 125 = .ok (.aload_n 0, 1) := by decide +kernel
theorem g_Mo_run_126 : SiteG k_Mo_run 126 8 11 := ⟨26, 28, R_Mo, "PhotoModelsModel", F_Mo, by decide +kernel, tx4 56 rfl rfl, i_Mo, rfl, rfl, by decide⟩
theorem d_Mo_run_129 : decode k_Mo_run.code 129 = .ok (.iload 6, 2) := by decide +kernel
theorem d_Mo_run_131 : decode k_Mo_run.code 131 = .ok (.aload_n 0, 1) := by decide +kernel
theorem g_Mo_run_132 : SiteG k_Mo_run 132 8 13 := ⟨32, 28, R_Mo, "PhotoModelsModel", F_Mo, by decide +kernel, tx4 58 rfl rfl, i_Mo, rfl, rfl, by decide⟩
theorem d_Mo_run_135 : decode k_Mo_run.code 135 = .ok (.iload 6, 2) := by decide +kernel
theorem d_Mo_run_137 : decode k_Mo_run.code 137 = .ok (.iaload, 1) := by decide +kernel
theorem d_Mo_run_138 : decode k_Mo_run.code 138 = .ok (.iastore, 1) := by decide +kernel
theorem d_Mo_run_139 : decode k_Mo_run.code 139 = .ok (.aload_n 0, 1) := by decide +kernel
theorem g_Mo_run_140 : SiteG k_Mo_run 140 8 12 := ⟨29, 28, R_Mo, "PhotoModelsModel", F_Mo, by decide +kernel, tx4 57 rfl rfl, i_Mo, rfl, rfl, by decide⟩
theorem d_Mo_run_143 : decode k_Mo_run.code 143 = .ok (.iload 6, 2) := by decide +kernel
theorem d_Mo_run_145 : decode k_Mo_run.code 145 = .ok (.bipush 8, 2) := by decide +kernel
theorem d_Mo_run_147 : decode k_Mo_run.code 147 = .ok (.irem, 1) := by decide +kernel
theorem d_Mo_run_148 : decode k_Mo_run.code 148 = .ok (.aload_n 0, 1) := by decide +kernel
theorem g_Mo_run_149 : SiteG k_Mo_run 149 8 14 := ⟨35, 28, R_Mo, "PhotoModelsModel", F_Mo, by decide +kernel, tx4 59 rfl rfl, i_Mo, rfl, rfl, by decide⟩
theorem d_Mo_run_152 : decode k_Mo_run.code 152 = .ok (.iload 6, 2) := by decide +kernel
theorem d_Mo_run_154 : decode k_Mo_run.code 154 = .ok (.bipush 8, 2) := by decide +kernel
theorem d_Mo_run_156 : decode k_Mo_run.code 156 = .ok (.irem, 1) := by decide +kernel
theorem d_Mo_run_157 : decode k_Mo_run.code 157 = .ok (.iaload, 1) := by decide +kernel
theorem d_Mo_run_158 : decode k_Mo_run.code 158 = .ok (.iastore, 1) := by decide +kernel
theorem d_Mo_run_159 : decode k_Mo_run.code 159 = .ok (.iinc 6 1, 3) := by decide +kernel
theorem d_Mo_run_162 : decode k_Mo_run.code 162 = .ok (.goto (-48), 3) := by decide +kernel
theorem d_Mo_run_165 : decode k_Mo_run.code 165 = .ok (.iload_n 3, 1) := by decide +kernel
theorem d_Mo_run_166 : decode k_Mo_run.code 166 = .ok (.ifCond .eq 9, 3) := by decide +kernel
theorem d_Mo_run_169 : decode k_Mo_run.code 169 = .ok (.iload_n 2, 1) := by decide +kernel
theorem d_Mo_run_170 : decode k_Mo_run.code 170 = .ok (.iconst 1, 1) := by decide +kernel
theorem d_Mo_run_171 : decode k_Mo_run.code 171 = .ok (.iadd, 1) := by decide +kernel
theorem d_Mo_run_172 : decode k_Mo_run.code 172 = .ok (.goto 4, 3) := by decide +kernel
theorem d_Mo_run_175 : decode k_Mo_run.code 175 = .ok (.iload_n 2, 1) := by decide +kernel
theorem d_Mo_run_176 : decode k_Mo_run.code 176 = .ok (.istore_n 2, 1) := by decide +kernel
theorem d_Mo_run_177 : decode k_Mo_run.code 177 = .ok (.goto (-151), 3) := by decide +kernel
theorem d_Mo_run_180 : decode k_Mo_run.code 180 = .ok (.iload_n 2, 1) := by decide +kernel
theorem d_Mo_run_181 : decode k_Mo_run.code 181 = .ok (.ireturn, 1) := by decide +kernel
theorem d_Mo_begin_0 : decode k_Mo_begin.code 0 = .ok (.iconst 0, 1) := by decide +kernel
theorem d_Mo_begin_1 : decode k_Mo_begin.code 1 = .ok (.istore_n 1, 1) := by decide +kernel
theorem d_Mo_begin_2 : decode k_Mo_begin.code 2 = .ok (.iload_n 1, 1) := by decide +kernel
theorem d_Mo_begin_3 : decode k_Mo_begin.code 3 = .ok (.bipush 8, 2) := by decide +kernel
theorem d_Mo_begin_5 : decode k_Mo_begin.code 5 = .ok (.if_icmp .ge 16, 3) := by decide +kernel
theorem d_Mo_begin_8 : decode k_Mo_begin.code 8 = .ok (.aload_n 0, 1) := by decide +kernel
theorem g_Mo_begin_9 : SiteG k_Mo_begin 9 8 12 := ⟨29, 28, R_Mo, "PhotoModelsModel", F_Mo, by decide +kernel, tx4 57 rfl rfl, i_Mo, rfl, rfl, by decide⟩
theorem d_Mo_begin_12 : decode k_Mo_begin.code 12 = .ok (.iload_n 1, 1) := by decide +kernel
theorem d_Mo_begin_13 : decode k_Mo_begin.code 13 = .ok (.iconst 0, 1) := by decide +kernel
theorem d_Mo_begin_14 : decode k_Mo_begin.code 14 = .ok (.iastore, 1) := by decide +kernel
theorem d_Mo_begin_15 : decode k_Mo_begin.code 15 = .ok (.iinc 1 1, 3) := by decide +kernel
theorem d_Mo_begin_18 : decode k_Mo_begin.code 18 = .ok (.goto (-16), 3) := by decide +kernel
theorem d_Mo_begin_21 : decode k_Mo_begin.code 21 = .ok (.iconst 0, 1) := by decide +kernel
theorem d_Mo_begin_22 : decode k_Mo_begin.code 22 = .ok (.istore_n 1, 1) := by decide +kernel
theorem d_Mo_begin_23 : decode k_Mo_begin.code 23 = .ok (.iload_n 1, 1) := by decide +kernel
theorem d_Mo_begin_24 : decode k_Mo_begin.code 24 = .ok (.iconst 2, 1) := by decide +kernel
theorem d_Mo_begin_25 : decode k_Mo_begin.code 25 = .ok (.aload_n 0, 1) := by decide +kernel
theorem g_Mo_begin_26 : SiteG k_Mo_begin 26 8 7 := ⟨80, 28, R_Mo, "PhotoModelsModel", F_Mo, by decide +kernel, tx4 52 rfl rfl, i_Mo, rfl, rfl, by decide⟩
theorem d_Mo_begin_29 : decode k_Mo_begin.code 29 = .ok (.imul, 1) := by decide +kernel
theorem d_Mo_begin_30 : decode k_Mo_begin.code 30 = .ok (.if_icmp .ge 26, 3) := by decide +kernel
theorem d_Mo_begin_33 : decode k_Mo_begin.code 33 = .ok (.aload_n 0, 1) := by decide +kernel
theorem g_Mo_begin_34 : SiteG k_Mo_begin 34 8 11 := ⟨26, 28, R_Mo, "PhotoModelsModel", F_Mo, by decide +kernel, tx4 56 rfl rfl, i_Mo, rfl, rfl, by decide⟩
theorem d_Mo_begin_37 : decode k_Mo_begin.code 37 = .ok (.iload_n 1, 1) := by decide +kernel
theorem d_Mo_begin_38 : decode k_Mo_begin.code 38 = .ok (.iconst 0, 1) := by decide +kernel
theorem d_Mo_begin_39 : decode k_Mo_begin.code 39 = .ok (.iastore, 1) := by decide +kernel
theorem d_Mo_begin_40 : decode k_Mo_begin.code 40 = .ok (.aload_n 0, 1) := by decide +kernel
theorem d_Mo_begin_41 : decode k_Mo_begin.code 41 = .ok (.iload_n 1, 1) := by decide +kernel
theorem d_Mo_begin_42 : decode k_Mo_begin.code 42 = .ok (.iconst 2, 1) := by decide +kernel
theorem d_Mo_begin_43 : decode k_Mo_begin.code 43 = .ok (.idiv, 1) := by decide +kernel
theorem d_Mo_begin_44 : decode k_Mo_begin.code 44 = .ok (.iload_n 1, 1) := by decide +kernel
theorem d_Mo_begin_45 : decode k_Mo_begin.code 45 = .ok (.iconst 2, 1) := by decide +kernel
theorem d_Mo_begin_46 : decode k_Mo_begin.code 46 = .ok (.irem, 1) := by decide +kernel
theorem s_Mo_begin_47 : SiteV k_Mo_begin k_Mo_put 47 8 2 := ⟨155, (R_Mo, F_Mo, 28), by decide +kernel, ⟨kw_Mo_put, tx1 10 rfl rfl, by decide, by decide⟩, tx4 228 rfl rfl, tx4 230 rfl rfl, twp 34 rfl rfl, rfl, ⟨by decide +kernel, by decide +kernel⟩, np_Mo_put⟩
theorem d_Mo_begin_50 : decode k_Mo_begin.code 50 = .ok (.iinc 1 1, 3) := by decide +kernel
theorem d_Mo_begin_53 : decode k_Mo_begin.code 53 = .ok (.goto (-30), 3) := by decide +kernel
theorem d_Mo_begin_56 : decode k_Mo_begin.code 56 = .ok (.return_, 1) := by decide +kernel
theorem d_Mo_put_0 : decode k_Mo_put.code 0 = .ok (.iconst 0, 1) := by decide +kernel
theorem d_Mo_put_1 : decode k_Mo_put.code 1 = .ok (.istore_n 3, 1) := by decide +kernel
theorem d_Mo_put_2 : decode k_Mo_put.code 2 = .ok (.iconst 0, 1) := by decide +kernel
theorem d_Mo_put_3 : decode k_Mo_put.code 3 = .ok (.istore 4, 2) := by decide +kernel
theorem d_Mo_put_5 : decode k_Mo_put.code 5 = .ok (.iconst 0, 1) := by decide +kernel
theorem d_Mo_put_6 : decode k_Mo_put.code 6 = .ok (.istore 5, 2) := by decide +kernel
theorem d_Mo_put_8 : decode k_Mo_put.code 8 = .ok (.iload 5, 2) := by decide +kernel
theorem d_Mo_put_10 : decode k_Mo_put.code 10 = .ok (.iconst 4, 1) := by decide +kernel
theorem d_Mo_put_11 : decode k_Mo_put.code 11 = .ok (.if_icmp .ge 47, 3) := by decide +kernel
theorem d_Mo_put_14 : decode k_Mo_put.code 14 = .ok (.aload_n 0, 1) := by decide +kernel
theorem d_Mo_put_15 : decode k_Mo_put.code 15 = .ok (.iload_n 1, 1) := by decide +kernel
theorem d_Mo_put_16 : decode k_Mo_put.code 16 = .ok (.iload 5, 2) := by decide +kernel
theorem s_Mo_put_18 : SiteV k_Mo_put k_Mo_isSeen 18 8 2 := ⟨115, (R_Mo, F_Mo, 28), by decide +kernel, ⟨kw_Mo_isSeen, tx1 10 rfl rfl, by decide, by decide⟩, tx4 191 rfl rfl, tx4 193 rfl rfl, twp 28 rfl rfl, rfl, ⟨by decide +kernel, by decide +kernel⟩, np_Mo_isSeen⟩
theorem d_Mo_put_21 : decode k_Mo_put.code 21 = .ok (.ifCond .eq 31, 3) := by decide +kernel
theorem d_Mo_put_24 : decode k_Mo_put.code 24 = .ok (.iinc 3 1, 3) := by decide +kernel
theorem d_Mo_put_27 : decode k_Mo_put.code 27 = .ok (.iload 4, 2) := by decide +kernel
theorem d_Mo_put_29 : decode k_Mo_put.code 29 = .ok (.aload_n 0, 1) := by decide +kernel
theorem d_Mo_put_30 : decode k_Mo_put.code 30 = .ok (.iload_n 1, 1) := by decide +kernel
theorem d_Mo_put_31 : decode k_Mo_put.code 31 = .ok (.iload 5, 2) := by decide +kernel
theorem d_Mo_put_33 : decode k_Mo_put.code 33 = .ok (.iload_n 2, 1) := by decide +kernel
theorem s_Mo_put_34 : SiteV k_Mo_put k_Mo_where 34 8 3 := ⟨118, (R_Mo, F_Mo, 28), by decide +kernel, ⟨kw_Mo_where, tx1 10 rfl rfl, by decide, by decide⟩, tx4 208 rfl rfl, tx4 210 rfl rfl, twp 32 rfl rfl, rfl, ⟨by decide +kernel, by decide +kernel⟩, np_Mo_where⟩
theorem d_Mo_put_37 : decode k_Mo_put.code 37 = .ok (.iadd, 1) := by decide +kernel
theorem d_Mo_put_38 : decode k_Mo_put.code 38 = .ok (.aload_n 0, 1) := by decide +kernel
theorem g_Mo_put_39 : SiteG k_Mo_put 39 8 12 := ⟨29, 28, R_Mo, "PhotoModelsModel", F_Mo, by decide +kernel, tx4 57 rfl rfl, i_Mo, rfl, rfl, by decide⟩
theorem d_Mo_put_42 : decode k_Mo_put.code 42 = .ok (.iconst 2, 1) := by decide +kernel
theorem d_Mo_put_43 : decode k_Mo_put.code 43 = .ok (.iload 5, 2) := by decide +kernel
theorem d_Mo_put_45 : decode k_Mo_put.code 45 = .ok (.imul, 1) := by decide +kernel
theorem d_Mo_put_46 : decode k_Mo_put.code 46 = .ok (.iload_n 2, 1) := by decide +kernel
theorem d_Mo_put_47 : decode k_Mo_put.code 47 = .ok (.iadd, 1) := by decide +kernel
theorem d_Mo_put_48 : decode k_Mo_put.code 48 = .ok (.iaload, 1) := by decide +kernel
theorem d_Mo_put_49 : decode k_Mo_put.code 49 = .ok (.isub, 1) := by decide +kernel
theorem d_Mo_put_50 : decode k_Mo_put.code 50 = .ok (.istore 4, 2) := by decide +kernel
theorem d_Mo_put_52 : decode k_Mo_put.code 52 = .ok (.iinc 5 1, 3) := by decide +kernel
theorem d_Mo_put_55 : decode k_Mo_put.code 55 = .ok (.goto (-47), 3) := by decide +kernel
theorem d_Mo_put_58 : decode k_Mo_put.code 58 = .ok (.aload_n 0, 1) := by decide +kernel
theorem g_Mo_put_59 : SiteG k_Mo_put 59 8 11 := ⟨26, 28, R_Mo, "PhotoModelsModel", F_Mo, by decide +kernel, tx4 56 rfl rfl, i_Mo, rfl, rfl, by decide⟩
theorem d_Mo_put_62 : decode k_Mo_put.code 62 = .ok (.iconst 2, 1) := by decide +kernel
theorem d_Mo_put_63 : decode k_Mo_put.code 63 = .ok (.iload_n 1, 1) := by decide +kernel
theorem d_Mo_put_64 : decode k_Mo_put.code 64 = .ok (.imul, 1) := by decide +kernel
theorem d_Mo_put_65 : decode k_Mo_put.code 65 = .ok (.iload_n 2, 1) := by decide +kernel
theorem d_Mo_put_66 : decode k_Mo_put.code 66 = .ok (.iadd, 1) := by decide +kernel
theorem d_Mo_put_67 : decode k_Mo_put.code 67 = .ok (.iload_n 3, 1) := by decide +kernel
theorem d_Mo_put_68 : decode k_Mo_put.code 68 = .ok (.ifCond .ne 16, 3) := by decide +kernel
theorem d_Mo_put_71 : decode k_Mo_put.code 71 = .ok (.aload_n 0, 1) := by decide +kernel
theorem g_Mo_put_72 : SiteG k_Mo_put 72 8 11 := ⟨26, 28, R_Mo, "PhotoModelsModel", F_Mo, by decide +kernel, tx4 56 rfl rfl, i_Mo, rfl, rfl, by decide⟩
theorem d_Mo_put_75 : decode k_Mo_put.code 75 = .ok (.iconst 2, 1) := by decide +kernel
theorem d_Mo_put_76 : decode k_Mo_put.code 76 = .ok (.iload_n 1, 1) := by decide +kernel
theorem d_Mo_put_77 : decode k_Mo_put.code 77 = .ok (.imul, 1) := by decide +kernel
theorem d_Mo_put_78 : decode k_Mo_put.code 78 = .ok (.iload_n 2, 1) := by decide +kernel
theorem d_Mo_put_79 : decode k_Mo_put.code 79 = .ok (.iadd, 1) := by decide +kernel
theorem d_Mo_put_80 : decode k_Mo_put.code 80 = .ok (.iaload, 1) := by decide +kernel
theorem d_Mo_put_81 : decode k_Mo_put.code 81 = .ok (.goto 9, 3) := by decide +kernel
theorem d_Mo_put_84 : decode k_Mo_put.code 84 = .ok (.iload 4, 2) := by decide +kernel
theorem d_Mo_put_86 : decode k_Mo_put.code 86 = .ok (.iload_n 3, 1) := by decide +kernel
theorem s_Mo_put_87 : SiteS k_Mo_put k_Mo_down 87 2 := ⟨148, by decide +kernel, ⟨kw_Mo_down, tx1 10 rfl rfl, by decide, by decide⟩, Or.inl (tx4 232 rfl rfl), tx4 233 rfl rfl, ⟨by decide +kernel, by decide +kernel⟩, np_Mo_down⟩
theorem d_Mo_put_90 : decode k_Mo_put.code 90 = .ok (.iastore, 1) := by decide +kernel
theorem d_Mo_put_91 : decode k_Mo_put.code 91 = .ok (.return_, 1) := by decide +kernel
theorem d_Mo_down_0 : decode k_Mo_down.code 0 = .ok (.iload_n 0, 1) := by decide +kernel
theorem d_Mo_down_1 : decode k_Mo_down.code 1 = .ok (.iload_n 1, 1) := by decide +kernel
theorem d_Mo_down_2 : decode k_Mo_down.code 2 = .ok (.idiv, 1) := by decide +kernel
theorem d_Mo_down_3 : decode k_Mo_down.code 3 = .ok (.istore_n 2, 1) := by decide +kernel
theorem d_Mo_down_4 : decode k_Mo_down.code 4 = .ok (.iload_n 2, 1) := by decide +kernel
theorem d_Mo_down_5 : decode k_Mo_down.code 5 = .ok (.iload_n 1, 1) := by decide +kernel
theorem d_Mo_down_6 : decode k_Mo_down.code 6 = .ok (.imul, 1) := by decide +kernel
theorem d_Mo_down_7 : decode k_Mo_down.code 7 = .ok (.iload_n 0, 1) := by decide +kernel
theorem d_Mo_down_8 : decode k_Mo_down.code 8 = .ok (.if_icmp .le 9, 3) := by decide +kernel
theorem d_Mo_down_11 : decode k_Mo_down.code 11 = .ok (.iload_n 2, 1) := by decide +kernel
theorem d_Mo_down_12 : decode k_Mo_down.code 12 = .ok (.iconst 1, 1) := by decide +kernel
theorem d_Mo_down_13 : decode k_Mo_down.code 13 = .ok (.isub, 1) := by decide +kernel
theorem d_Mo_down_14 : decode k_Mo_down.code 14 = .ok (.goto 4, 3) := by decide +kernel
theorem d_Mo_down_17 : decode k_Mo_down.code 17 = .ok (.iload_n 2, 1) := by decide +kernel
theorem d_Mo_down_18 : decode k_Mo_down.code 18 = .ok (.ireturn, 1) := by decide +kernel
theorem d_Mo_all_0 : decode k_Mo_all.code 0 = .ok (.lconst 0, 1) := by decide +kernel
theorem d_Mo_all_1 : decode k_Mo_all.code 1 = .ok (.lstore_n 1, 1) := by decide +kernel
theorem d_Mo_all_2 : decode k_Mo_all.code 2 = .ok (.iconst 0, 1) := by decide +kernel
theorem d_Mo_all_3 : decode k_Mo_all.code 3 = .ok (.istore_n 3, 1) := by decide +kernel
theorem d_Mo_all_4 : decode k_Mo_all.code 4 = .ok (.iload_n 3, 1) := by decide +kernel
theorem d_Mo_all_5 : decode k_Mo_all.code 5 = .ok (.aload_n 0, 1) := by decide +kernel
theorem g_Mo_all_6 : SiteG k_Mo_all 6 8 7 := ⟨80, 28, R_Mo, "PhotoModelsModel", F_Mo, by decide +kernel, tx4 52 rfl rfl, i_Mo, rfl, rfl, by decide⟩
theorem d_Mo_all_9 : decode k_Mo_all.code 9 = .ok (.if_icmp .ge 30, 3) := by decide +kernel
theorem d_Mo_all_12 : decode k_Mo_all.code 12 = .ok (.aload_n 0, 1) := by decide +kernel
theorem g_Mo_all_13 : SiteG k_Mo_all 13 8 10 := ⟨22, 28, R_Mo, "PhotoModelsModel", F_Mo, by decide +kernel, tx4 55 rfl rfl, i_Mo, rfl, rfl, by decide⟩
theorem d_Mo_all_16 : decode k_Mo_all.code 16 = .ok (.iload_n 3, 1) := by decide +kernel
theorem d_Mo_all_17 : decode k_Mo_all.code 17 = .ok (.baload, 1) := by decide +kernel
theorem d_Mo_all_18 : decode k_Mo_all.code 18 = .ok (.ifCond .eq 7, 3) := by decide +kernel
theorem d_Mo_all_21 : decode k_Mo_all.code 21 = .ok (.lload_n 1, 1) := by decide +kernel
theorem d_Mo_all_22 : decode k_Mo_all.code 22 = .ok (.goto 10, 3) := by decide +kernel
theorem d_Mo_all_25 : decode k_Mo_all.code 25 = .ok (.lload_n 1, 1) := by decide +kernel
theorem d_Mo_all_26 : decode k_Mo_all.code 26 = .ok (.aload_n 0, 1) := by decide +kernel
theorem d_Mo_all_27 : decode k_Mo_all.code 27 = .ok (.iload_n 3, 1) := by decide +kernel
theorem s_Mo_all_28 : SiteV k_Mo_all k_Mo_missed 28 8 1 := ⟨144, (R_Mo, F_Mo, 28), by decide +kernel, ⟨kw_Mo_missed, tx1 10 rfl rfl, by decide, by decide⟩, tx4 239 rfl rfl, tx5 1 rfl rfl, twp 36 rfl rfl, rfl, ⟨by decide +kernel, by decide +kernel⟩, np_Mo_missed⟩
theorem d_Mo_all_31 : decode k_Mo_all.code 31 = .ok (.ladd, 1) := by decide +kernel
theorem d_Mo_all_32 : decode k_Mo_all.code 32 = .ok (.lstore_n 1, 1) := by decide +kernel
theorem d_Mo_all_33 : decode k_Mo_all.code 33 = .ok (.iinc 3 1, 3) := by decide +kernel
theorem d_Mo_all_36 : decode k_Mo_all.code 36 = .ok (.goto (-32), 3) := by decide +kernel
theorem d_Mo_all_39 : decode k_Mo_all.code 39 = .ok (.lload_n 1, 1) := by decide +kernel
theorem d_Mo_all_40 : decode k_Mo_all.code 40 = .ok (.lreturn, 1) := by decide +kernel
theorem d_Mo_missed_0 : decode k_Mo_missed.code 0 = .ok (.lconst 0, 1) := by decide +kernel
theorem d_Mo_missed_1 : decode k_Mo_missed.code 1 = .ok (.lstore_n 2, 1) := by decide +kernel
theorem d_Mo_missed_2 : decode k_Mo_missed.code 2 = .ok (.iconst 0, 1) := by decide +kernel
theorem d_Mo_missed_3 : decode k_Mo_missed.code 3 = .ok (.istore 4, 2) := by decide +kernel
theorem d_Mo_missed_5 : decode k_Mo_missed.code 5 = .ok (.iload 4, 2) := by decide +kernel
theorem d_Mo_missed_7 : decode k_Mo_missed.code 7 = .ok (.bipush 8, 2) := by decide +kernel
theorem d_Mo_missed_9 : decode k_Mo_missed.code 9 = .ok (.if_icmp .ge 76, 3) := by decide +kernel
theorem d_Mo_missed_12 : decode k_Mo_missed.code 12 = .ok (.iload 4, 2) := by decide +kernel
theorem d_Mo_missed_14 : decode k_Mo_missed.code 14 = .ok (.iconst 2, 1) := by decide +kernel
theorem d_Mo_missed_15 : decode k_Mo_missed.code 15 = .ok (.idiv, 1) := by decide +kernel
theorem d_Mo_missed_16 : decode k_Mo_missed.code 16 = .ok (.istore 5, 2) := by decide +kernel
theorem d_Mo_missed_18 : decode k_Mo_missed.code 18 = .ok (.iload 4, 2) := by decide +kernel
theorem d_Mo_missed_20 : decode k_Mo_missed.code 20 = .ok (.iconst 2, 1) := by decide +kernel
theorem d_Mo_missed_21 : decode k_Mo_missed.code 21 = .ok (.irem, 1) := by decide +kernel
theorem d_Mo_missed_22 : decode k_Mo_missed.code 22 = .ok (.istore 6, 2) := by decide +kernel
theorem d_Mo_missed_24 : decode k_Mo_missed.code 24 = .ok (.aload_n 0, 1) := by decide +kernel
theorem d_Mo_missed_25 : decode k_Mo_missed.code 25 = .ok (.iload_n 1, 1) := by decide +kernel
theorem d_Mo_missed_26 : decode k_Mo_missed.code 26 = .ok (.iload 5, 2) := by decide +kernel
theorem s_Mo_missed_28 : SiteV k_Mo_missed k_Mo_isSeen 28 8 2 := ⟨115, (R_Mo, F_Mo, 28), by decide +kernel, ⟨kw_Mo_isSeen, tx1 10 rfl rfl, by decide, by decide⟩, tx4 191 rfl rfl, tx4 193 rfl rfl, twp 28 rfl rfl, rfl, ⟨by decide +kernel, by decide +kernel⟩, np_Mo_isSeen⟩
theorem d_Mo_missed_31 : decode k_Mo_missed.code 31 = .ok (.ifCond .eq 48, 3) := by decide +kernel
theorem d_Mo_missed_34 : decode k_Mo_missed.code 34 = .ok (.aload_n 0, 1) := by decide +kernel
theorem d_Mo_missed_35 : decode k_Mo_missed.code 35 = .ok (.iload_n 1, 1) := by decide +kernel
theorem d_Mo_missed_36 : decode k_Mo_missed.code 36 = .ok (.iload 5, 2) := by decide +kernel
theorem d_Mo_missed_38 : decode k_Mo_missed.code 38 = .ok (.iload 6, 2) := by decide +kernel
theorem s_Mo_missed_40 : SiteV k_Mo_missed k_Mo_where 40 8 3 := ⟨118, (R_Mo, F_Mo, 28), by decide +kernel, ⟨kw_Mo_where, tx1 10 rfl rfl, by decide, by decide⟩, tx4 208 rfl rfl, tx4 210 rfl rfl, twp 32 rfl rfl, rfl, ⟨by decide +kernel, by decide +kernel⟩, np_Mo_where⟩
theorem d_Mo_missed_43 : decode k_Mo_missed.code 43 = .ok (.aload_n 0, 1) := by decide +kernel
theorem g_Mo_missed_44 : SiteG k_Mo_missed 44 8 11 := ⟨26, 28, R_Mo, "PhotoModelsModel", F_Mo, by decide +kernel, tx4 56 rfl rfl, i_Mo, rfl, rfl, by decide⟩
theorem d_Mo_missed_47 : decode k_Mo_missed.code 47 = .ok (.iconst 2, 1) := by decide +kernel
theorem d_Mo_missed_48 : decode k_Mo_missed.code 48 = .ok (.iload_n 1, 1) := by decide +kernel
theorem d_Mo_missed_49 : decode k_Mo_missed.code 49 = .ok (.imul, 1) := by decide +kernel
theorem d_Mo_missed_50 : decode k_Mo_missed.code 50 = .ok (.iload 6, 2) := by decide +kernel
theorem d_Mo_missed_52 : decode k_Mo_missed.code 52 = .ok (.iadd, 1) := by decide +kernel
theorem d_Mo_missed_53 : decode k_Mo_missed.code 53 = .ok (.iaload, 1) := by decide +kernel
theorem d_Mo_missed_54 : decode k_Mo_missed.code 54 = .ok (.isub, 1) := by decide +kernel
theorem d_Mo_missed_55 : decode k_Mo_missed.code 55 = .ok (.aload_n 0, 1) := by decide +kernel
theorem g_Mo_missed_56 : SiteG k_Mo_missed 56 8 12 := ⟨29, 28, R_Mo, "PhotoModelsModel", F_Mo, by decide +kernel, tx4 57 rfl rfl, i_Mo, rfl, rfl, by decide⟩
theorem d_Mo_missed_59 : decode k_Mo_missed.code 59 = .ok (.iconst 2, 1) := by decide +kernel
theorem d_Mo_missed_60 : decode k_Mo_missed.code 60 = .ok (.iload 5, 2) := by decide +kernel
theorem d_Mo_missed_62 : decode k_Mo_missed.code 62 = .ok (.imul, 1) := by decide +kernel
theorem d_Mo_missed_63 : decode k_Mo_missed.code 63 = .ok (.iload 6, 2) := by decide +kernel
theorem d_Mo_missed_65 : decode k_Mo_missed.code 65 = .ok (.iadd, 1) := by decide +kernel
theorem d_Mo_missed_66 : decode k_Mo_missed.code 66 = .ok (.iaload, 1) := by decide +kernel
theorem d_Mo_missed_67 : decode k_Mo_missed.code 67 = .ok (.isub, 1) := by decide +kernel
theorem d_Mo_missed_68 : decode k_Mo_missed.code 68 = .ok (.i2l, 1) := by decide +kernel
theorem d_Mo_missed_69 : decode k_Mo_missed.code 69 = .ok (.lstore 7, 2) := by decide +kernel
theorem d_Mo_missed_71 : decode k_Mo_missed.code 71 = .ok (.lload_n 2, 1) := by decide +kernel
theorem d_Mo_missed_72 : decode k_Mo_missed.code 72 = .ok (.lload 7, 2) := by decide +kernel
theorem d_Mo_missed_74 : decode k_Mo_missed.code 74 = .ok (.lload 7, 2) := by decide +kernel
theorem d_Mo_missed_76 : decode k_Mo_missed.code 76 = .ok (.lmul, 1) := by decide +kernel
theorem d_Mo_missed_77 : decode k_Mo_missed.code 77 = .ok (.ladd, 1) := by decide +kernel
theorem d_Mo_missed_78 : decode k_Mo_missed.code 78 = .ok (.lstore_n 2, 1) := by decide +kernel
theorem d_Mo_missed_79 : decode k_Mo_missed.code 79 = .ok (.iinc 4 1, 3) := by decide +kernel
theorem d_Mo_missed_82 : decode k_Mo_missed.code 82 = .ok (.goto (-77), 3) := by decide +kernel
theorem d_Mo_missed_85 : decode k_Mo_missed.code 85 = .ok (.lload_n 2, 1) := by decide +kernel
theorem d_Mo_missed_86 : decode k_Mo_missed.code 86 = .ok (.lreturn, 1) := by decide +kernel
theorem d_Mo_round_0 : decode k_Mo_round.code 0 = .ok (.iconst 2, 1) := by decide +kernel
theorem d_Mo_round_1 : decode k_Mo_round.code 1 = .ok (.istore_n 1, 1) := by decide +kernel
theorem d_Mo_round_2 : decode k_Mo_round.code 2 = .ok (.iload_n 1, 1) := by decide +kernel
theorem d_Mo_round_3 : decode k_Mo_round.code 3 = .ok (.bipush 8, 2) := by decide +kernel
theorem d_Mo_round_5 : decode k_Mo_round.code 5 = .ok (.if_icmp .ge 19, 3) := by decide +kernel
theorem d_Mo_round_8 : decode k_Mo_round.code 8 = .ok (.aload_n 0, 1) := by decide +kernel
theorem d_Mo_round_9 : decode k_Mo_round.code 9 = .ok (.iload_n 1, 1) := by decide +kernel
theorem d_Mo_round_10 : decode k_Mo_round.code 10 = .ok (.iconst 2, 1) := by decide +kernel
theorem d_Mo_round_11 : decode k_Mo_round.code 11 = .ok (.idiv, 1) := by decide +kernel
theorem d_Mo_round_12 : decode k_Mo_round.code 12 = .ok (.iload_n 1, 1) := by decide +kernel
theorem d_Mo_round_13 : decode k_Mo_round.code 13 = .ok (.iconst 2, 1) := by decide +kernel
theorem d_Mo_round_14 : decode k_Mo_round.code 14 = .ok (.irem, 1) := by decide +kernel
theorem s_Mo_round_15 : SiteV k_Mo_round k_Mo_move 15 8 2 := ⟨151, (R_Mo, F_Mo, 28), by decide +kernel, ⟨kw_Mo_move, tx1 10 rfl rfl, by decide, by decide⟩, tx5 7 rfl rfl, tx5 9 rfl rfl, twp 38 rfl rfl, rfl, ⟨by decide +kernel, by decide +kernel⟩, np_Mo_move⟩
theorem d_Mo_round_18 : decode k_Mo_round.code 18 = .ok (.iinc 1 1, 3) := by decide +kernel
theorem d_Mo_round_21 : decode k_Mo_round.code 21 = .ok (.goto (-19), 3) := by decide +kernel
theorem d_Mo_round_24 : decode k_Mo_round.code 24 = .ok (.iconst 0, 1) := by decide +kernel
theorem d_Mo_round_25 : decode k_Mo_round.code 25 = .ok (.istore_n 1, 1) := by decide +kernel
theorem d_Mo_round_26 : decode k_Mo_round.code 26 = .ok (.iload_n 1, 1) := by decide +kernel
theorem d_Mo_round_27 : decode k_Mo_round.code 27 = .ok (.iconst 2, 1) := by decide +kernel
theorem d_Mo_round_28 : decode k_Mo_round.code 28 = .ok (.aload_n 0, 1) := by decide +kernel
theorem g_Mo_round_29 : SiteG k_Mo_round 29 8 7 := ⟨80, 28, R_Mo, "PhotoModelsModel", F_Mo, by decide +kernel, tx4 52 rfl rfl, i_Mo, rfl, rfl, by decide⟩
theorem d_Mo_round_32 : decode k_Mo_round.code 32 = .ok (.imul, 1) := by decide +kernel
theorem d_Mo_round_33 : decode k_Mo_round.code 33 = .ok (.if_icmp .ge 19, 3) := by decide +kernel
theorem d_Mo_round_36 : decode k_Mo_round.code 36 = .ok (.aload_n 0, 1) := by decide +kernel
theorem d_Mo_round_37 : decode k_Mo_round.code 37 = .ok (.iload_n 1, 1) := by decide +kernel
theorem d_Mo_round_38 : decode k_Mo_round.code 38 = .ok (.iconst 2, 1) := by decide +kernel
theorem d_Mo_round_39 : decode k_Mo_round.code 39 = .ok (.idiv, 1) := by decide +kernel
theorem d_Mo_round_40 : decode k_Mo_round.code 40 = .ok (.iload_n 1, 1) := by decide +kernel
theorem d_Mo_round_41 : decode k_Mo_round.code 41 = .ok (.iconst 2, 1) := by decide +kernel
theorem d_Mo_round_42 : decode k_Mo_round.code 42 = .ok (.irem, 1) := by decide +kernel
theorem s_Mo_round_43 : SiteV k_Mo_round k_Mo_put 43 8 2 := ⟨155, (R_Mo, F_Mo, 28), by decide +kernel, ⟨kw_Mo_put, tx1 10 rfl rfl, by decide, by decide⟩, tx4 228 rfl rfl, tx4 230 rfl rfl, twp 34 rfl rfl, rfl, ⟨by decide +kernel, by decide +kernel⟩, np_Mo_put⟩
theorem d_Mo_round_46 : decode k_Mo_round.code 46 = .ok (.iinc 1 1, 3) := by decide +kernel
theorem d_Mo_round_49 : decode k_Mo_round.code 49 = .ok (.goto (-23), 3) := by decide +kernel
theorem d_Mo_round_52 : decode k_Mo_round.code 52 = .ok (.return_, 1) := by decide +kernel
theorem d_Mo_move_0 : decode k_Mo_move.code 0 = .ok (.iconst 0, 1) := by decide +kernel
theorem d_Mo_move_1 : decode k_Mo_move.code 1 = .ok (.istore_n 3, 1) := by decide +kernel
theorem d_Mo_move_2 : decode k_Mo_move.code 2 = .ok (.iconst 0, 1) := by decide +kernel
theorem d_Mo_move_3 : decode k_Mo_move.code 3 = .ok (.istore 4, 2) := by decide +kernel
theorem d_Mo_move_5 : decode k_Mo_move.code 5 = .ok (.iconst 0, 1) := by decide +kernel
theorem d_Mo_move_6 : decode k_Mo_move.code 6 = .ok (.istore 5, 2) := by decide +kernel
theorem d_Mo_move_8 : decode k_Mo_move.code 8 = .ok (.iload 5, 2) := by decide +kernel
theorem d_Mo_move_10 : decode k_Mo_move.code 10 = .ok (.aload_n 0, 1) := by decide +kernel
theorem g_Mo_move_11 : SiteG k_Mo_move 11 8 7 := ⟨80, 28, R_Mo, "PhotoModelsModel", F_Mo, by decide +kernel, tx4 52 rfl rfl, i_Mo, rfl, rfl, by decide⟩
theorem d_Mo_move_14 : decode k_Mo_move.code 14 = .ok (.if_icmp .ge 57, 3) := by decide +kernel
theorem d_Mo_move_17 : decode k_Mo_move.code 17 = .ok (.aload_n 0, 1) := by decide +kernel
theorem g_Mo_move_18 : SiteG k_Mo_move 18 8 10 := ⟨22, 28, R_Mo, "PhotoModelsModel", F_Mo, by decide +kernel, tx4 55 rfl rfl, i_Mo, rfl, rfl, by decide⟩
theorem d_Mo_move_21 : decode k_Mo_move.code 21 = .ok (.iload 5, 2) := by decide +kernel
theorem d_Mo_move_23 : decode k_Mo_move.code 23 = .ok (.baload, 1) := by decide +kernel
theorem d_Mo_move_24 : decode k_Mo_move.code 24 = .ok (.ifCond .ne 41, 3) := by decide +kernel
theorem d_Mo_move_27 : decode k_Mo_move.code 27 = .ok (.aload_n 0, 1) := by decide +kernel
theorem d_Mo_move_28 : decode k_Mo_move.code 28 = .ok (.iload 5, 2) := by decide +kernel
theorem d_Mo_move_30 : decode k_Mo_move.code 30 = .ok (.iload_n 1, 1) := by decide +kernel
theorem s_Mo_move_31 : SiteV k_Mo_move k_Mo_isSeen 31 8 2 := ⟨115, (R_Mo, F_Mo, 28), by decide +kernel, ⟨kw_Mo_isSeen, tx1 10 rfl rfl, by decide, by decide⟩, tx4 191 rfl rfl, tx4 193 rfl rfl, twp 28 rfl rfl, rfl, ⟨by decide +kernel, by decide +kernel⟩, np_Mo_isSeen⟩
theorem d_Mo_move_34 : decode k_Mo_move.code 34 = .ok (.ifCond .eq 31, 3) := by decide +kernel
theorem d_Mo_move_37 : decode k_Mo_move.code 37 = .ok (.iinc 3 1, 3) := by decide +kernel
theorem d_Mo_move_40 : decode k_Mo_move.code 40 = .ok (.iload 4, 2) := by decide +kernel
theorem d_Mo_move_42 : decode k_Mo_move.code 42 = .ok (.aload_n 0, 1) := by decide +kernel
theorem d_Mo_move_43 : decode k_Mo_move.code 43 = .ok (.iload 5, 2) := by decide +kernel
theorem d_Mo_move_45 : decode k_Mo_move.code 45 = .ok (.iload_n 1, 1) := by decide +kernel
theorem d_Mo_move_46 : decode k_Mo_move.code 46 = .ok (.iload_n 2, 1) := by decide +kernel
theorem s_Mo_move_47 : SiteV k_Mo_move k_Mo_where 47 8 3 := ⟨118, (R_Mo, F_Mo, 28), by decide +kernel, ⟨kw_Mo_where, tx1 10 rfl rfl, by decide, by decide⟩, tx4 208 rfl rfl, tx4 210 rfl rfl, twp 32 rfl rfl, rfl, ⟨by decide +kernel, by decide +kernel⟩, np_Mo_where⟩
theorem d_Mo_move_50 : decode k_Mo_move.code 50 = .ok (.iadd, 1) := by decide +kernel
theorem d_Mo_move_51 : decode k_Mo_move.code 51 = .ok (.aload_n 0, 1) := by decide +kernel
theorem g_Mo_move_52 : SiteG k_Mo_move 52 8 11 := ⟨26, 28, R_Mo, "PhotoModelsModel", F_Mo, by decide +kernel, tx4 56 rfl rfl, i_Mo, rfl, rfl, by decide⟩
theorem d_Mo_move_55 : decode k_Mo_move.code 55 = .ok (.iconst 2, 1) := by decide +kernel
theorem d_Mo_move_56 : decode k_Mo_move.code 56 = .ok (.iload 5, 2) := by decide +kernel
theorem d_Mo_move_58 : decode k_Mo_move.code 58 = .ok (.imul, 1) := by decide +kernel
theorem d_Mo_move_59 : decode k_Mo_move.code 59 = .ok (.iload_n 2, 1) := by decide +kernel
theorem d_Mo_move_60 : decode k_Mo_move.code 60 = .ok (.iadd, 1) := by decide +kernel
theorem d_Mo_move_61 : decode k_Mo_move.code 61 = .ok (.iaload, 1) := by decide +kernel
theorem d_Mo_move_62 : decode k_Mo_move.code 62 = .ok (.isub, 1) := by decide +kernel
theorem d_Mo_move_63 : decode k_Mo_move.code 63 = .ok (.istore 4, 2) := by decide +kernel
theorem d_Mo_move_65 : decode k_Mo_move.code 65 = .ok (.iinc 5 1, 3) := by decide +kernel
theorem d_Mo_move_68 : decode k_Mo_move.code 68 = .ok (.goto (-60), 3) := by decide +kernel
theorem d_Mo_move_71 : decode k_Mo_move.code 71 = .ok (.aload_n 0, 1) := by decide +kernel
theorem g_Mo_move_72 : SiteG k_Mo_move 72 8 12 := ⟨29, 28, R_Mo, "PhotoModelsModel", F_Mo, by decide +kernel, tx4 57 rfl rfl, i_Mo, rfl, rfl, by decide⟩
theorem d_Mo_move_75 : decode k_Mo_move.code 75 = .ok (.iconst 2, 1) := by decide +kernel
theorem d_Mo_move_76 : decode k_Mo_move.code 76 = .ok (.iload_n 1, 1) := by decide +kernel
theorem d_Mo_move_77 : decode k_Mo_move.code 77 = .ok (.imul, 1) := by decide +kernel
theorem d_Mo_move_78 : decode k_Mo_move.code 78 = .ok (.iload_n 2, 1) := by decide +kernel
theorem d_Mo_move_79 : decode k_Mo_move.code 79 = .ok (.iadd, 1) := by decide +kernel
theorem d_Mo_move_80 : decode k_Mo_move.code 80 = .ok (.iload_n 3, 1) := by decide +kernel
theorem d_Mo_move_81 : decode k_Mo_move.code 81 = .ok (.ifCond .ne 16, 3) := by decide +kernel
theorem d_Mo_move_84 : decode k_Mo_move.code 84 = .ok (.aload_n 0, 1) := by decide +kernel
theorem g_Mo_move_85 : SiteG k_Mo_move 85 8 12 := ⟨29, 28, R_Mo, "PhotoModelsModel", F_Mo, by decide +kernel, tx4 57 rfl rfl, i_Mo, rfl, rfl, by decide⟩
theorem d_Mo_move_88 : decode k_Mo_move.code 88 = .ok (.iconst 2, 1) := by decide +kernel
theorem d_Mo_move_89 : decode k_Mo_move.code 89 = .ok (.iload_n 1, 1) := by decide +kernel
theorem d_Mo_move_90 : decode k_Mo_move.code 90 = .ok (.imul, 1) := by decide +kernel
theorem d_Mo_move_91 : decode k_Mo_move.code 91 = .ok (.iload_n 2, 1) := by decide +kernel
theorem d_Mo_move_92 : decode k_Mo_move.code 92 = .ok (.iadd, 1) := by decide +kernel
theorem d_Mo_move_93 : decode k_Mo_move.code 93 = .ok (.iaload, 1) := by decide +kernel
theorem d_Mo_move_94 : decode k_Mo_move.code 94 = .ok (.goto 9, 3) := by decide +kernel
theorem d_Mo_move_97 : decode k_Mo_move.code 97 = .ok (.iload 4, 2) := by decide +kernel
theorem d_Mo_move_99 : decode k_Mo_move.code 99 = .ok (.iload_n 3, 1) := by decide +kernel
theorem s_Mo_move_100 : SiteS k_Mo_move k_Mo_down 100 2 := ⟨148, by decide +kernel, ⟨kw_Mo_down, tx1 10 rfl rfl, by decide, by decide⟩, Or.inl (tx4 232 rfl rfl), tx4 233 rfl rfl, ⟨by decide +kernel, by decide +kernel⟩, np_Mo_down⟩
theorem d_Mo_move_103 : decode k_Mo_move.code 103 = .ok (.iastore, 1) := by decide +kernel
theorem d_Mo_move_104 : decode k_Mo_move.code 104 = .ok (.return_, 1) := by decide +kernel
theorem d_Mo_sum_0 : decode k_Mo_sum.code 0 = .ok (.aload_n 0, 1) := by decide +kernel
theorem d_Mo_sum_1 : decode k_Mo_sum.code 1 = .ok (.iconst 0, 1) := by decide +kernel
theorem p_Mo_sum_2 : SiteP k_Mo_sum 2 8 0 .int := ⟨73, 28, R_Mo, "PhotoModelsModel", F_Mo, t_Mo, t_Mo_ok, n_Mo, by decide +kernel, tx4 45 rfl rfl, i_Mo, rfl, Or.inl rfl, rfl, by decide, rfl⟩
theorem d_Mo_sum_5 : decode k_Mo_sum.code 5 = .ok (.aload_n 0, 1) := by decide +kernel
theorem s_Mo_sum_6 : SiteV k_Mo_sum k_Mo_all 6 8 0 := ⟨161, (R_Mo, F_Mo, 28), by decide +kernel, ⟨kw_Mo_all, tx1 10 rfl rfl, by decide, by decide⟩, tx4 235 rfl rfl, tx4 237 rfl rfl, twp 35 rfl rfl, rfl, ⟨by decide +kernel, by decide +kernel⟩, np_Mo_all⟩
theorem d_Mo_sum_9 : decode k_Mo_sum.code 9 = .ok (.lreturn, 1) := by decide +kernel
theorem d_Mo_at_0 : decode k_Mo_at.code 0 = .ok (.aload_n 0, 1) := by decide +kernel
theorem d_Mo_at_1 : decode k_Mo_at.code 1 = .ok (.aload_n 0, 1) := by decide +kernel
theorem d_Mo_at_2 : decode k_Mo_at.code 2 = .ok (.iload_n 1, 1) := by decide +kernel
theorem s_Mo_at_3 : SiteV k_Mo_at k_Mo_isPlace 3 8 1 := ⟨111, (R_Mo, F_Mo, 28), by decide +kernel, ⟨kw_Mo_isPlace, tx1 10 rfl rfl, by decide, by decide⟩, tx4 179 rfl rfl, tx4 181 rfl rfl, twp 26 rfl rfl, rfl, ⟨by decide +kernel, by decide +kernel⟩, np_Mo_isPlace⟩
theorem d_Mo_at_6 : decode k_Mo_at.code 6 = .ok (.ifCond .eq 16, 3) := by decide +kernel
theorem d_Mo_at_9 : decode k_Mo_at.code 9 = .ok (.iload_n 2, 1) := by decide +kernel
theorem d_Mo_at_10 : decode k_Mo_at.code 10 = .ok (.iconst 0, 1) := by decide +kernel
theorem d_Mo_at_11 : decode k_Mo_at.code 11 = .ok (.iconst 1, 1) := by decide +kernel
theorem s_Mo_at_12 : SiteS k_Mo_at k_Mo_within 12 3 := ⟨76, by decide +kernel, ⟨kw_Mo_within, tx1 10 rfl rfl, by decide, by decide⟩, Or.inl (tx4 141 rfl rfl), tx4 142 rfl rfl, ⟨by decide +kernel, by decide +kernel⟩, np_Mo_within⟩
theorem d_Mo_at_15 : decode k_Mo_at.code 15 = .ok (.ifCond .eq 7, 3) := by decide +kernel
theorem d_Mo_at_18 : decode k_Mo_at.code 18 = .ok (.iconst 1, 1) := by decide +kernel
theorem d_Mo_at_19 : decode k_Mo_at.code 19 = .ok (.goto 4, 3) := by decide +kernel
theorem d_Mo_at_22 : decode k_Mo_at.code 22 = .ok (.iconst 0, 1) := by decide +kernel
theorem d_Mo_at_23 : decode k_Mo_at.code 23 = .ok (.iconst 1, 1) := by decide +kernel
theorem d_Mo_at_24 : decode k_Mo_at.code 24 = .ok (.iconst 1, 1) := by decide +kernel
theorem s_Mo_at_25 : SiteV k_Mo_at k_Mo_goes 25 8 3 := ⟨91, (R_Mo, F_Mo, 28), by decide +kernel, ⟨kw_Mo_goes, tx1 10 rfl rfl, by decide, by decide⟩, tx4 148 rfl rfl, tx4 150 rfl rfl, twp 23 rfl rfl, rfl, ⟨by decide +kernel, by decide +kernel⟩, np_Mo_goes⟩
theorem d_Mo_at_28 : decode k_Mo_at.code 28 = .ok (.ifCond .eq 16, 3) := by decide +kernel
theorem d_Mo_at_31 : decode k_Mo_at.code 31 = .ok (.aload_n 0, 1) := by decide +kernel
theorem g_Mo_at_32 : SiteG k_Mo_at 32 8 11 := ⟨26, 28, R_Mo, "PhotoModelsModel", F_Mo, by decide +kernel, tx4 56 rfl rfl, i_Mo, rfl, rfl, by decide⟩
theorem d_Mo_at_35 : decode k_Mo_at.code 35 = .ok (.iconst 2, 1) := by decide +kernel
theorem d_Mo_at_36 : decode k_Mo_at.code 36 = .ok (.iload_n 1, 1) := by decide +kernel
theorem d_Mo_at_37 : decode k_Mo_at.code 37 = .ok (.imul, 1) := by decide +kernel
theorem d_Mo_at_38 : decode k_Mo_at.code 38 = .ok (.iload_n 2, 1) := by decide +kernel
theorem d_Mo_at_39 : decode k_Mo_at.code 39 = .ok (.iadd, 1) := by decide +kernel
theorem d_Mo_at_40 : decode k_Mo_at.code 40 = .ok (.iaload, 1) := by decide +kernel
theorem d_Mo_at_41 : decode k_Mo_at.code 41 = .ok (.goto 4, 3) := by decide +kernel
theorem d_Mo_at_44 : decode k_Mo_at.code 44 = .ok (.iconst 0, 1) := by decide +kernel
theorem d_Mo_at_45 : decode k_Mo_at.code 45 = .ok (.ireturn, 1) := by decide +kernel
theorem d_Mo_offset_0 : decode k_Mo_offset.code 0 = .ok (.aload_n 0, 1) := by decide +kernel
theorem d_Mo_offset_1 : decode k_Mo_offset.code 1 = .ok (.iload_n 1, 1) := by decide +kernel
theorem s_Mo_offset_2 : SiteS k_Mo_offset k_Mo_isPhoto 2 1 := ⟨83, by decide +kernel, ⟨kw_Mo_isPhoto, tx1 10 rfl rfl, by decide, by decide⟩, Or.inl (tx4 138 rfl rfl), tx4 139 rfl rfl, ⟨by decide +kernel, by decide +kernel⟩, np_Mo_isPhoto⟩
theorem d_Mo_offset_5 : decode k_Mo_offset.code 5 = .ok (.ifCond .eq 16, 3) := by decide +kernel
theorem d_Mo_offset_8 : decode k_Mo_offset.code 8 = .ok (.iload_n 2, 1) := by decide +kernel
theorem d_Mo_offset_9 : decode k_Mo_offset.code 9 = .ok (.iconst 0, 1) := by decide +kernel
theorem d_Mo_offset_10 : decode k_Mo_offset.code 10 = .ok (.iconst 1, 1) := by decide +kernel
theorem s_Mo_offset_11 : SiteS k_Mo_offset k_Mo_within 11 3 := ⟨76, by decide +kernel, ⟨kw_Mo_within, tx1 10 rfl rfl, by decide, by decide⟩, Or.inl (tx4 141 rfl rfl), tx4 142 rfl rfl, ⟨by decide +kernel, by decide +kernel⟩, np_Mo_within⟩
theorem d_Mo_offset_14 : decode k_Mo_offset.code 14 = .ok (.ifCond .eq 7, 3) := by decide +kernel
theorem d_Mo_offset_17 : decode k_Mo_offset.code 17 = .ok (.iconst 1, 1) := by decide +kernel
theorem d_Mo_offset_18 : decode k_Mo_offset.code 18 = .ok (.goto 4, 3) := by decide +kernel
theorem d_Mo_offset_21 : decode k_Mo_offset.code 21 = .ok (.iconst 0, 1) := by decide +kernel
theorem d_Mo_offset_22 : decode k_Mo_offset.code 22 = .ok (.iconst 1, 1) := by decide +kernel
theorem d_Mo_offset_23 : decode k_Mo_offset.code 23 = .ok (.iconst 1, 1) := by decide +kernel
theorem s_Mo_offset_24 : SiteV k_Mo_offset k_Mo_goes 24 8 3 := ⟨91, (R_Mo, F_Mo, 28), by decide +kernel, ⟨kw_Mo_goes, tx1 10 rfl rfl, by decide, by decide⟩, tx4 148 rfl rfl, tx4 150 rfl rfl, twp 23 rfl rfl, rfl, ⟨by decide +kernel, by decide +kernel⟩, np_Mo_goes⟩
theorem d_Mo_offset_27 : decode k_Mo_offset.code 27 = .ok (.ifCond .eq 16, 3) := by decide +kernel
theorem d_Mo_offset_30 : decode k_Mo_offset.code 30 = .ok (.aload_n 0, 1) := by decide +kernel
theorem g_Mo_offset_31 : SiteG k_Mo_offset 31 8 12 := ⟨29, 28, R_Mo, "PhotoModelsModel", F_Mo, by decide +kernel, tx4 57 rfl rfl, i_Mo, rfl, rfl, by decide⟩
theorem d_Mo_offset_34 : decode k_Mo_offset.code 34 = .ok (.iconst 2, 1) := by decide +kernel
theorem d_Mo_offset_35 : decode k_Mo_offset.code 35 = .ok (.iload_n 1, 1) := by decide +kernel
theorem d_Mo_offset_36 : decode k_Mo_offset.code 36 = .ok (.imul, 1) := by decide +kernel
theorem d_Mo_offset_37 : decode k_Mo_offset.code 37 = .ok (.iload_n 2, 1) := by decide +kernel
theorem d_Mo_offset_38 : decode k_Mo_offset.code 38 = .ok (.iadd, 1) := by decide +kernel
theorem d_Mo_offset_39 : decode k_Mo_offset.code 39 = .ok (.iaload, 1) := by decide +kernel
theorem d_Mo_offset_40 : decode k_Mo_offset.code 40 = .ok (.goto 4, 3) := by decide +kernel
theorem d_Mo_offset_43 : decode k_Mo_offset.code 43 = .ok (.iconst 0, 1) := by decide +kernel
theorem d_Mo_offset_44 : decode k_Mo_offset.code 44 = .ok (.ireturn, 1) := by decide +kernel
theorem d_Mo_miss_0 : decode k_Mo_miss.code 0 = .ok (.aload_n 0, 1) := by decide +kernel
theorem d_Mo_miss_1 : decode k_Mo_miss.code 1 = .ok (.aload_n 0, 1) := by decide +kernel
theorem d_Mo_miss_2 : decode k_Mo_miss.code 2 = .ok (.iload_n 1, 1) := by decide +kernel
theorem s_Mo_miss_3 : SiteV k_Mo_miss k_Mo_isPlace 3 8 1 := ⟨111, (R_Mo, F_Mo, 28), by decide +kernel, ⟨kw_Mo_isPlace, tx1 10 rfl rfl, by decide, by decide⟩, tx4 179 rfl rfl, tx4 181 rfl rfl, twp 26 rfl rfl, rfl, ⟨by decide +kernel, by decide +kernel⟩, np_Mo_isPlace⟩
theorem d_Mo_miss_6 : decode k_Mo_miss.code 6 = .ok (.iconst 1, 1) := by decide +kernel
theorem d_Mo_miss_7 : decode k_Mo_miss.code 7 = .ok (.iconst 1, 1) := by decide +kernel
theorem s_Mo_miss_8 : SiteV k_Mo_miss k_Mo_goes 8 8 3 := ⟨91, (R_Mo, F_Mo, 28), by decide +kernel, ⟨kw_Mo_goes, tx1 10 rfl rfl, by decide, by decide⟩, tx4 148 rfl rfl, tx4 150 rfl rfl, twp 23 rfl rfl, rfl, ⟨by decide +kernel, by decide +kernel⟩, np_Mo_goes⟩
theorem d_Mo_miss_11 : decode k_Mo_miss.code 11 = .ok (.ifCond .eq 11, 3) := by decide +kernel
theorem d_Mo_miss_14 : decode k_Mo_miss.code 14 = .ok (.aload_n 0, 1) := by decide +kernel
theorem d_Mo_miss_15 : decode k_Mo_miss.code 15 = .ok (.iload_n 1, 1) := by decide +kernel
theorem s_Mo_miss_16 : SiteV k_Mo_miss k_Mo_missed 16 8 1 := ⟨144, (R_Mo, F_Mo, 28), by decide +kernel, ⟨kw_Mo_missed, tx1 10 rfl rfl, by decide, by decide⟩, tx4 239 rfl rfl, tx5 1 rfl rfl, twp 36 rfl rfl, rfl, ⟨by decide +kernel, by decide +kernel⟩, np_Mo_missed⟩
theorem d_Mo_miss_19 : decode k_Mo_miss.code 19 = .ok (.goto 4, 3) := by decide +kernel
theorem d_Mo_miss_22 : decode k_Mo_miss.code 22 = .ok (.lconst 0, 1) := by decide +kernel
theorem d_Mo_miss_23 : decode k_Mo_miss.code 23 = .ok (.lreturn, 1) := by decide +kernel
theorem d_Mo_known_0 : decode k_Mo_known.code 0 = .ok (.aload_n 0, 1) := by decide +kernel
theorem d_Mo_known_1 : decode k_Mo_known.code 1 = .ok (.aload_n 0, 1) := by decide +kernel
theorem d_Mo_known_2 : decode k_Mo_known.code 2 = .ok (.iload_n 1, 1) := by decide +kernel
theorem s_Mo_known_3 : SiteV k_Mo_known k_Mo_isPlace 3 8 1 := ⟨111, (R_Mo, F_Mo, 28), by decide +kernel, ⟨kw_Mo_isPlace, tx1 10 rfl rfl, by decide, by decide⟩, tx4 179 rfl rfl, tx4 181 rfl rfl, twp 26 rfl rfl, rfl, ⟨by decide +kernel, by decide +kernel⟩, np_Mo_isPlace⟩
theorem d_Mo_known_6 : decode k_Mo_known.code 6 = .ok (.ifCond .eq 15, 3) := by decide +kernel
theorem d_Mo_known_9 : decode k_Mo_known.code 9 = .ok (.aload_n 0, 1) := by decide +kernel
theorem d_Mo_known_10 : decode k_Mo_known.code 10 = .ok (.iload_n 2, 1) := by decide +kernel
theorem s_Mo_known_11 : SiteV k_Mo_known k_Mo_isPlace 11 8 1 := ⟨111, (R_Mo, F_Mo, 28), by decide +kernel, ⟨kw_Mo_isPlace, tx1 10 rfl rfl, by decide, by decide⟩, tx4 179 rfl rfl, tx4 181 rfl rfl, twp 26 rfl rfl, rfl, ⟨by decide +kernel, by decide +kernel⟩, np_Mo_isPlace⟩
theorem d_Mo_known_14 : decode k_Mo_known.code 14 = .ok (.ifCond .eq 7, 3) := by decide +kernel
theorem d_Mo_known_17 : decode k_Mo_known.code 17 = .ok (.iconst 1, 1) := by decide +kernel
theorem d_Mo_known_18 : decode k_Mo_known.code 18 = .ok (.goto 4, 3) := by decide +kernel
theorem d_Mo_known_21 : decode k_Mo_known.code 21 = .ok (.iconst 0, 1) := by decide +kernel
theorem d_Mo_known_22 : decode k_Mo_known.code 22 = .ok (.iload_n 1, 1) := by decide +kernel
theorem d_Mo_known_23 : decode k_Mo_known.code 23 = .ok (.iload_n 2, 1) := by decide +kernel
theorem d_Mo_known_24 : decode k_Mo_known.code 24 = .ok (.if_icmp .eq 18, 3) := by decide +kernel
theorem d_Mo_known_27 : decode k_Mo_known.code 27 = .ok (.iload_n 3, 1) := by decide +kernel
theorem d_Mo_known_28 : decode k_Mo_known.code 28 = .ok (.iconst 1, 1) := by decide +kernel
theorem d_Mo_known_29 : decode k_Mo_known.code 29 = .ok (.sipush 10000, 3) := by decide +kernel
theorem s_Mo_known_32 : SiteS k_Mo_known k_Mo_within 32 3 := ⟨76, by decide +kernel, ⟨kw_Mo_within, tx1 10 rfl rfl, by decide, by decide⟩, Or.inl (tx4 141 rfl rfl), tx4 142 rfl rfl, ⟨by decide +kernel, by decide +kernel⟩, np_Mo_within⟩
theorem d_Mo_known_35 : decode k_Mo_known.code 35 = .ok (.ifCond .eq 7, 3) := by decide +kernel
theorem d_Mo_known_38 : decode k_Mo_known.code 38 = .ok (.iconst 1, 1) := by decide +kernel
theorem d_Mo_known_39 : decode k_Mo_known.code 39 = .ok (.goto 4, 3) := by decide +kernel
theorem d_Mo_known_42 : decode k_Mo_known.code 42 = .ok (.iconst 0, 1) := by decide +kernel
theorem d_Mo_known_43 : decode k_Mo_known.code 43 = .ok (.aload_n 0, 1) := by decide +kernel
theorem g_Mo_known_44 : SiteG k_Mo_known 44 8 18 := ⟨168, 28, R_Mo, "PhotoModelsModel", F_Mo, by decide +kernel, tx4 63 rfl rfl, i_Mo, rfl, rfl, by decide⟩
theorem d_Mo_known_47 : decode k_Mo_known.code 47 = .ok (.bipush 10, 2) := by decide +kernel
theorem d_Mo_known_49 : decode k_Mo_known.code 49 = .ok (.if_icmp .ge 7, 3) := by decide +kernel
theorem d_Mo_known_52 : decode k_Mo_known.code 52 = .ok (.iconst 1, 1) := by decide +kernel
theorem d_Mo_known_53 : decode k_Mo_known.code 53 = .ok (.goto 4, 3) := by decide +kernel
theorem d_Mo_known_56 : decode k_Mo_known.code 56 = .ok (.iconst 0, 1) := by decide +kernel
theorem s_Mo_known_57 : SiteV k_Mo_known k_Mo_goes 57 8 3 := ⟨91, (R_Mo, F_Mo, 28), by decide +kernel, ⟨kw_Mo_goes, tx1 10 rfl rfl, by decide, by decide⟩, tx4 148 rfl rfl, tx4 150 rfl rfl, twp 23 rfl rfl, rfl, ⟨by decide +kernel, by decide +kernel⟩, np_Mo_goes⟩
theorem d_Mo_known_60 : decode k_Mo_known.code 60 = .ok (.ifCond .ne 5, 3) := by decide +kernel
theorem d_Mo_known_63 : decode k_Mo_known.code 63 = .ok (.iconst 0, 1) := by decide +kernel
theorem d_Mo_known_64 : decode k_Mo_known.code 64 = .ok (.ireturn, 1) := by decide +kernel
theorem d_Mo_known_65 : decode k_Mo_known.code 65 = .ok (.aload_n 0, 1) := by decide +kernel
theorem g_Mo_known_66 : SiteG k_Mo_known 66 8 19 := ⟨38, 28, R_Mo, "PhotoModelsModel", F_Mo, by decide +kernel, tx4 64 rfl rfl, i_Mo, rfl, rfl, by decide⟩
theorem d_Mo_known_69 : decode k_Mo_known.code 69 = .ok (.aload_n 0, 1) := by decide +kernel
theorem g_Mo_known_70 : SiteG k_Mo_known 70 8 18 := ⟨168, 28, R_Mo, "PhotoModelsModel", F_Mo, by decide +kernel, tx4 63 rfl rfl, i_Mo, rfl, rfl, by decide⟩
theorem d_Mo_known_73 : decode k_Mo_known.code 73 = .ok (.iload_n 1, 1) := by decide +kernel
theorem d_Mo_known_74 : decode k_Mo_known.code 74 = .ok (.iastore, 1) := by decide +kernel
theorem d_Mo_known_75 : decode k_Mo_known.code 75 = .ok (.aload_n 0, 1) := by decide +kernel
theorem g_Mo_known_76 : SiteG k_Mo_known 76 8 20 := ⟨41, 28, R_Mo, "PhotoModelsModel", F_Mo, by decide +kernel, tx4 65 rfl rfl, i_Mo, rfl, rfl, by decide⟩
theorem d_Mo_known_79 : decode k_Mo_known.code 79 = .ok (.aload_n 0, 1) := by decide +kernel
theorem g_Mo_known_80 : SiteG k_Mo_known 80 8 18 := ⟨168, 28, R_Mo, "PhotoModelsModel", F_Mo, by decide +kernel, tx4 63 rfl rfl, i_Mo, rfl, rfl, by decide⟩
theorem d_Mo_known_83 : decode k_Mo_known.code 83 = .ok (.iload_n 2, 1) := by decide +kernel
theorem d_Mo_known_84 : decode k_Mo_known.code 84 = .ok (.iastore, 1) := by decide +kernel
theorem d_Mo_known_85 : decode k_Mo_known.code 85 = .ok (.aload_n 0, 1) := by decide +kernel
theorem g_Mo_known_86 : SiteG k_Mo_known 86 8 21 := ⟨44, 28, R_Mo, "PhotoModelsModel", F_Mo, by decide +kernel, tx4 66 rfl rfl, i_Mo, rfl, rfl, by decide⟩
theorem d_Mo_known_89 : decode k_Mo_known.code 89 = .ok (.aload_n 0, 1) := by decide +kernel
theorem g_Mo_known_90 : SiteG k_Mo_known 90 8 18 := ⟨168, 28, R_Mo, "PhotoModelsModel", F_Mo, by decide +kernel, tx4 63 rfl rfl, i_Mo, rfl, rfl, by decide⟩
theorem d_Mo_known_93 : decode k_Mo_known.code 93 = .ok (.iload_n 3, 1) := by decide +kernel
theorem d_Mo_known_94 : decode k_Mo_known.code 94 = .ok (.iastore, 1) := by decide +kernel
theorem d_Mo_known_95 : decode k_Mo_known.code 95 = .ok (.aload_n 0, 1) := by decide +kernel
theorem d_Mo_known_96 : decode k_Mo_known.code 96 = .ok (.dup, 1) := by decide +kernel
theorem g_Mo_known_97 : SiteG k_Mo_known 97 8 18 := ⟨168, 28, R_Mo, "PhotoModelsModel", F_Mo, by decide +kernel, tx4 63 rfl rfl, i_Mo, rfl, rfl, by decide⟩
theorem d_Mo_known_100 : decode k_Mo_known.code 100 = .ok (.iconst 1, 1) := by decide +kernel
theorem d_Mo_known_101 : decode k_Mo_known.code 101 = .ok (.iadd, 1) := by decide +kernel
theorem p_Mo_known_102 : SiteP k_Mo_known 102 8 18 .int := ⟨168, 28, R_Mo, "PhotoModelsModel", F_Mo, t_Mo, t_Mo_ok, n_Mo, by decide +kernel, tx4 63 rfl rfl, i_Mo, rfl, Or.inl rfl, rfl, by decide, rfl⟩
theorem d_Mo_known_105 : decode k_Mo_known.code 105 = .ok (.aload_n 0, 1) := by decide +kernel
theorem g_Mo_known_106 : SiteG k_Mo_known 106 8 18 := ⟨168, 28, R_Mo, "PhotoModelsModel", F_Mo, by decide +kernel, tx4 63 rfl rfl, i_Mo, rfl, rfl, by decide⟩
theorem d_Mo_known_109 : decode k_Mo_known.code 109 = .ok (.ireturn, 1) := by decide +kernel
