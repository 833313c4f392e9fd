theorem d_Ph_init_0 : decode k_Ph_init.code 0 = .ok (.aload_n 0, 1) := by decide +kernel
theorem s_Ph_init_1 : SiteO k_Ph_init 1 := ⟨3, by decide +kernel, tx1 41 rfl rfl, tx1 25 rfl rfl, tx1 26 rfl rfl, by decide, by decide⟩
theorem d_Ph_init_4 : decode k_Ph_init.code 4 = .ok (.aload_n 0, 1) := by decide +kernel
theorem d_Ph_init_5 : decode k_Ph_init.code 5 = .ok (.iload_n 1, 1) := by decide +kernel
theorem p_Ph_init_6 : SiteP k_Ph_init 6 3 0 .int := ⟨9, 3, R_Ph, "PhotoModels$Photos", F_Ph, t_Ph, t_Ph_ok, n_Ph, by decide +kernel, tx1 42 rfl rfl, i_Ph, rfl, Or.inr ⟨rfl, rfl, rfl⟩, rfl, by decide, rfl⟩
theorem d_Ph_init_9 : decode k_Ph_init.code 9 = .ok (.aload_n 0, 1) := by decide +kernel
theorem d_Ph_init_10 : decode k_Ph_init.code 10 = .ok (.iload_n 2, 1) := by decide +kernel
theorem p_Ph_init_11 : SiteP k_Ph_init 11 3 1 .int := ⟨15, 3, R_Ph, "PhotoModels$Photos", F_Ph, t_Ph, t_Ph_ok, n_Ph, by decide +kernel, tx1 43 rfl rfl, i_Ph, rfl, Or.inr ⟨rfl, rfl, rfl⟩, rfl, by decide, rfl⟩
theorem d_Ph_init_14 : decode k_Ph_init.code 14 = .ok (.aload_n 0, 1) := by decide +kernel
theorem d_Ph_init_15 : decode k_Ph_init.code 15 = .ok (.iconst 4, 1) := by decide +kernel
theorem d_Ph_init_16 : decode k_Ph_init.code 16 = .ok (.iload_n 1, 1) := by decide +kernel
theorem d_Ph_init_17 : decode k_Ph_init.code 17 = .ok (.imul, 1) := by decide +kernel
theorem d_Ph_init_18 : decode k_Ph_init.code 18 = .ok (.iload_n 2, 1) := by decide +kernel
theorem d_Ph_init_19 : decode k_Ph_init.code 19 = .ok (.imul, 1) := by decide +kernel
theorem d_Ph_init_20 : decode k_Ph_init.code 20 = .ok (.newarray .int, 2) := by decide +kernel
theorem p_Ph_init_22 : SiteP k_Ph_init 22 3 2 (.array .int) := ⟨18, 3, R_Ph, "PhotoModels$Photos", F_Ph, t_Ph, t_Ph_ok, n_Ph, by decide +kernel, tx1 44 rfl rfl, i_Ph, rfl, Or.inr ⟨rfl, rfl, rfl⟩, rfl, by decide, rfl⟩
theorem d_Ph_init_25 : decode k_Ph_init.code 25 = .ok (.return_, 1) := by decide +kernel
theorem d_Se_init_0 : decode k_Se_init.code 0 = .ok (.aload_n 0, 1) := by decide +kernel
theorem s_Se_init_1 : SiteO k_Se_init 1 := ⟨3, by decide +kernel, tx1 58 rfl rfl, tx1 25 rfl rfl, tx1 26 rfl rfl, by decide, by decide⟩
theorem d_Se_init_4 : decode k_Se_init.code 4 = .ok (.aload_n 0, 1) := by decide +kernel
theorem d_Se_init_5 : decode k_Se_init.code 5 = .ok (.iload_n 1, 1) := by decide +kernel
theorem p_Se_init_6 : SiteP k_Se_init 6 6 0 .int := ⟨9, 7, R_Se, "PhotoModels$Search", F_Se, t_Se, t_Se_ok, n_Se, by decide +kernel, tx1 59 rfl rfl, i_Se, rfl, Or.inr ⟨rfl, rfl, rfl⟩, rfl, by decide, rfl⟩
theorem d_Se_init_9 : decode k_Se_init.code 9 = .ok (.aload_n 0, 1) := by decide +kernel
theorem d_Se_init_10 : decode k_Se_init.code 10 = .ok (.iload_n 2, 1) := by decide +kernel
theorem p_Se_init_11 : SiteP k_Se_init 11 6 1 .int := ⟨15, 7, R_Se, "PhotoModels$Search", F_Se, t_Se, t_Se_ok, n_Se, by decide +kernel, tx1 60 rfl rfl, i_Se, rfl, Or.inr ⟨rfl, rfl, rfl⟩, rfl, by decide, rfl⟩
theorem d_Se_init_14 : decode k_Se_init.code 14 = .ok (.aload_n 0, 1) := by decide +kernel
theorem d_Se_init_15 : decode k_Se_init.code 15 = .ok (.iload_n 1, 1) := by decide +kernel
theorem d_Se_init_16 : decode k_Se_init.code 16 = .ok (.iload_n 2, 1) := by decide +kernel
theorem d_Se_init_17 : decode k_Se_init.code 17 = .ok (.imul, 1) := by decide +kernel
theorem d_Se_init_18 : decode k_Se_init.code 18 = .ok (.newarray .int, 2) := by decide +kernel
theorem p_Se_init_20 : SiteP k_Se_init 20 6 2 (.array .int) := ⟨18, 7, R_Se, "PhotoModels$Search", F_Se, t_Se, t_Se_ok, n_Se, by decide +kernel, tx1 61 rfl rfl, i_Se, rfl, Or.inr ⟨rfl, rfl, rfl⟩, rfl, by decide, rfl⟩
theorem d_Se_init_23 : decode k_Se_init.code 23 = .ok (.return_, 1) := by decide +kernel
theorem d_Pl_init_0 : decode k_Pl_init.code 0 = .ok (.aload_n 0, 1) := by decide +kernel
theorem s_Pl_init_1 : SiteO k_Pl_init 1 := ⟨3, by decide +kernel, tx1 86 rfl rfl, tx1 25 rfl rfl, tx1 26 rfl rfl, by decide, by decide⟩
theorem d_Pl_init_4 : decode k_Pl_init.code 4 = .ok (.aload_n 0, 1) := by decide +kernel
theorem d_Pl_init_5 : decode k_Pl_init.code 5 = .ok (.bipush 12, 2) := by decide +kernel
theorem d_Pl_init_7 : decode k_Pl_init.code 7 = .ok (.newarray .boolean, 2) := by decide +kernel
theorem p_Pl_init_9 : SiteP k_Pl_init 9 4 0 (.array .boolean) := ⟨9, 5, R_Pl, "PhotoModels$Places", F_Pl, t_Pl, t_Pl_ok, n_Pl, by decide +kernel, tx1 87 rfl rfl, i_Pl, rfl, Or.inr ⟨rfl, rfl, rfl⟩, rfl, by decide, rfl⟩
theorem d_Pl_init_12 : decode k_Pl_init.code 12 = .ok (.aload_n 0, 1) := by decide +kernel
theorem d_Pl_init_13 : decode k_Pl_init.code 13 = .ok (.bipush 48, 2) := by decide +kernel
theorem d_Pl_init_15 : decode k_Pl_init.code 15 = .ok (.newarray .boolean, 2) := by decide +kernel
theorem p_Pl_init_17 : SiteP k_Pl_init 17 4 1 (.array .boolean) := ⟨15, 5, R_Pl, "PhotoModels$Places", F_Pl, t_Pl, t_Pl_ok, n_Pl, by decide +kernel, tx1 88 rfl rfl, i_Pl, rfl, Or.inr ⟨rfl, rfl, rfl⟩, rfl, by decide, rfl⟩
theorem d_Pl_init_20 : decode k_Pl_init.code 20 = .ok (.aload_n 0, 1) := by decide +kernel
theorem d_Pl_init_21 : decode k_Pl_init.code 21 = .ok (.bipush 96, 2) := by decide +kernel
theorem d_Pl_init_23 : decode k_Pl_init.code 23 = .ok (.newarray .int, 2) := by decide +kernel
theorem p_Pl_init_25 : SiteP k_Pl_init 25 4 2 (.array .int) := ⟨18, 5, R_Pl, "PhotoModels$Places", F_Pl, t_Pl, t_Pl_ok, n_Pl, by decide +kernel, tx1 89 rfl rfl, i_Pl, rfl, Or.inr ⟨rfl, rfl, rfl⟩, rfl, by decide, rfl⟩
theorem d_Pl_init_28 : decode k_Pl_init.code 28 = .ok (.return_, 1) := by decide +kernel
theorem d_Le_init_0 : decode k_Le_init.code 0 = .ok (.aload_n 0, 1) := by decide +kernel
theorem s_Le_init_1 : SiteO k_Le_init 1 := ⟨3, by decide +kernel, tx1 157 rfl rfl, tx1 25 rfl rfl, tx1 26 rfl rfl, by decide, by decide⟩
theorem d_Le_init_4 : decode k_Le_init.code 4 = .ok (.aload_n 0, 1) := by decide +kernel
theorem d_Le_init_5 : decode k_Le_init.code 5 = .ok (.bipush 10, 2) := by decide +kernel
theorem d_Le_init_7 : decode k_Le_init.code 7 = .ok (.newarray .int, 2) := by decide +kernel
theorem p_Le_init_9 : SiteP k_Le_init 9 2 0 (.array .int) := ⟨9, 4, R_Le, "PhotoModels$Lengths", F_Le, t_Le, t_Le_ok, n_Le, by decide +kernel, tx1 158 rfl rfl, i_Le, rfl, Or.inr ⟨rfl, rfl, rfl⟩, rfl, by decide, rfl⟩
theorem d_Le_init_12 : decode k_Le_init.code 12 = .ok (.aload_n 0, 1) := by decide +kernel
theorem d_Le_init_13 : decode k_Le_init.code 13 = .ok (.bipush 10, 2) := by decide +kernel
theorem d_Le_init_15 : decode k_Le_init.code 15 = .ok (.newarray .int, 2) := by decide +kernel
theorem p_Le_init_17 : SiteP k_Le_init 17 2 1 (.array .int) := ⟨15, 4, R_Le, "PhotoModels$Lengths", F_Le, t_Le, t_Le_ok, n_Le, by decide +kernel, tx1 159 rfl rfl, i_Le, rfl, Or.inr ⟨rfl, rfl, rfl⟩, rfl, by decide, rfl⟩
theorem d_Le_init_20 : decode k_Le_init.code 20 = .ok (.aload_n 0, 1) := by decide +kernel
theorem d_Le_init_21 : decode k_Le_init.code 21 = .ok (.bipush 10, 2) := by decide +kernel
theorem d_Le_init_23 : decode k_Le_init.code 23 = .ok (.newarray .int, 2) := by decide +kernel
theorem p_Le_init_25 : SiteP k_Le_init 25 2 2 (.array .int) := ⟨18, 4, R_Le, "PhotoModels$Lengths", F_Le, t_Le, t_Le_ok, n_Le, by decide +kernel, tx1 160 rfl rfl, i_Le, rfl, Or.inr ⟨rfl, rfl, rfl⟩, rfl, by decide, rfl⟩
theorem d_Le_init_28 : decode k_Le_init.code 28 = .ok (.return_, 1) := by decide +kernel
theorem d_Pl_number_0 : decode k_Pl_number.code 0 = .ok (.aload_n 0, 1) := by decide +kernel
theorem g_Pl_number_1 : SiteG k_Pl_number 1 4 3 := ⟨22, 5, R_Pl, "PhotoModels$Places", F_Pl, by decide +kernel, tx1 90 rfl rfl, i_Pl, rfl, rfl, by decide⟩
theorem d_Pl_number_4 : decode k_Pl_number.code 4 = .ok (.ireturn, 1) := by decide +kernel
theorem d_Pl_isSpare_0 : decode k_Pl_isSpare.code 0 = .ok (.aload_n 0, 1) := by decide +kernel
theorem g_Pl_isSpare_1 : SiteG k_Pl_isSpare 1 4 0 := ⟨9, 5, R_Pl, "PhotoModels$Places", F_Pl, by decide +kernel, tx1 87 rfl rfl, i_Pl, rfl, rfl, by decide⟩
theorem d_Pl_isSpare_4 : decode k_Pl_isSpare.code 4 = .ok (.iload_n 1, 1) := by decide +kernel
theorem d_Pl_isSpare_5 : decode k_Pl_isSpare.code 5 = .ok (.baload, 1) := by decide +kernel
theorem d_Pl_isSpare_6 : decode k_Pl_isSpare.code 6 = .ok (.ireturn, 1) := by decide +kernel
theorem d_Pl_isNoted_0 : decode k_Pl_isNoted.code 0 = .ok (.aload_n 0, 1) := by decide +kernel
theorem g_Pl_isNoted_1 : SiteG k_Pl_isNoted 1 4 1 := ⟨15, 5, R_Pl, "PhotoModels$Places", F_Pl, by decide +kernel, tx1 88 rfl rfl, i_Pl, rfl, rfl, by decide⟩
theorem d_Pl_isNoted_4 : decode k_Pl_isNoted.code 4 = .ok (.iload_n 1, 1) := by decide +kernel
theorem d_Pl_isNoted_5 : decode k_Pl_isNoted.code 5 = .ok (.iconst 4, 1) := by decide +kernel
theorem d_Pl_isNoted_6 : decode k_Pl_isNoted.code 6 = .ok (.imul, 1) := by decide +kernel
theorem d_Pl_isNoted_7 : decode k_Pl_isNoted.code 7 = .ok (.iload_n 2, 1) := by decide +kernel
theorem d_Pl_isNoted_8 : decode k_Pl_isNoted.code 8 = .ok (.iadd, 1) := by decide +kernel
theorem d_Pl_isNoted_9 : decode k_Pl_isNoted.code 9 = .ok (.baload, 1) := by decide +kernel
theorem d_Pl_isNoted_10 : decode k_Pl_isNoted.code 10 = .ok (.ireturn, 1) := by decide +kernel
theorem d_Pl_where_0 : decode k_Pl_where.code 0 = .ok (.aload_n 0, 1) := by decide +kernel
theorem g_Pl_where_1 : SiteG k_Pl_where 1 4 2 := ⟨18, 5, R_Pl, "PhotoModels$Places", F_Pl, by decide +kernel, tx1 89 rfl rfl, i_Pl, rfl, rfl, by decide⟩
theorem d_Pl_where_4 : decode k_Pl_where.code 4 = .ok (.iload_n 1, 1) := by decide +kernel
theorem d_Pl_where_5 : decode k_Pl_where.code 5 = .ok (.iconst 4, 1) := by decide +kernel
theorem d_Pl_where_6 : decode k_Pl_where.code 6 = .ok (.imul, 1) := by decide +kernel
theorem d_Pl_where_7 : decode k_Pl_where.code 7 = .ok (.iload_n 2, 1) := by decide +kernel
theorem d_Pl_where_8 : decode k_Pl_where.code 8 = .ok (.iadd, 1) := by decide +kernel
theorem d_Pl_where_9 : decode k_Pl_where.code 9 = .ok (.iconst 2, 1) := by decide +kernel
theorem d_Pl_where_10 : decode k_Pl_where.code 10 = .ok (.imul, 1) := by decide +kernel
theorem d_Pl_where_11 : decode k_Pl_where.code 11 = .ok (.iload_n 3, 1) := by decide +kernel
theorem d_Pl_where_12 : decode k_Pl_where.code 12 = .ok (.iadd, 1) := by decide +kernel
theorem d_Pl_where_13 : decode k_Pl_where.code 13 = .ok (.iaload, 1) := by decide +kernel
theorem d_Pl_where_14 : decode k_Pl_where.code 14 = .ok (.ireturn, 1) := by decide +kernel
theorem d_Ph_hasCell_0 : decode k_Ph_hasCell.code 0 = .ok (.iload_n 1, 1) := by decide +kernel
theorem d_Ph_hasCell_1 : decode k_Ph_hasCell.code 1 = .ok (.iconst 0, 1) := by decide +kernel
theorem d_Ph_hasCell_2 : decode k_Ph_hasCell.code 2 = .ok (.aload_n 0, 1) := by decide +kernel
theorem g_Ph_hasCell_3 : SiteG k_Ph_hasCell 3 3 0 := ⟨9, 3, R_Ph, "PhotoModels$Photos", F_Ph, by decide +kernel, tx1 42 rfl rfl, i_Ph, rfl, rfl, by decide⟩
theorem d_Ph_hasCell_6 : decode k_Ph_hasCell.code 6 = .ok (.iconst 1, 1) := by decide +kernel
theorem d_Ph_hasCell_7 : decode k_Ph_hasCell.code 7 = .ok (.isub, 1) := by decide +kernel
theorem s_Ph_hasCell_8 : SiteS k_Ph_hasCell k_Pm_isWithin 8 3 := ⟨22, by decide +kernel, ⟨kw_Pm_isWithin, tx1 1 rfl rfl, by decide, by decide⟩, Or.inr ⟨"PhotoModels", tx2 49 rfl rfl⟩, tx2 43 rfl rfl, ⟨by decide +kernel, by decide +kernel⟩, np_Pm_isWithin⟩
theorem d_Ph_hasCell_11 : decode k_Ph_hasCell.code 11 = .ok (.ifCond .eq 21, 3) := by decide +kernel
theorem d_Ph_hasCell_14 : decode k_Ph_hasCell.code 14 = .ok (.iload_n 2, 1) := by decide +kernel
theorem d_Ph_hasCell_15 : decode k_Ph_hasCell.code 15 = .ok (.iconst 0, 1) := by decide +kernel
theorem d_Ph_hasCell_16 : decode k_Ph_hasCell.code 16 = .ok (.aload_n 0, 1) := by decide +kernel
theorem g_Ph_hasCell_17 : SiteG k_Ph_hasCell 17 3 1 := ⟨15, 3, R_Ph, "PhotoModels$Photos", F_Ph, by decide +kernel, tx1 43 rfl rfl, i_Ph, rfl, rfl, by decide⟩
theorem d_Ph_hasCell_20 : decode k_Ph_hasCell.code 20 = .ok (.iconst 1, 1) := by decide +kernel
theorem d_Ph_hasCell_21 : decode k_Ph_hasCell.code 21 = .ok (.isub, 1) := by decide +kernel
theorem s_Ph_hasCell_22 : SiteS k_Ph_hasCell k_Pm_isWithin 22 3 := ⟨22, by decide +kernel, ⟨kw_Pm_isWithin, tx1 1 rfl rfl, by decide, by decide⟩, Or.inr ⟨"PhotoModels", tx2 49 rfl rfl⟩, tx2 43 rfl rfl, ⟨by decide +kernel, by decide +kernel⟩, np_Pm_isWithin⟩
theorem d_Ph_hasCell_25 : decode k_Ph_hasCell.code 25 = .ok (.ifCond .eq 7, 3) := by decide +kernel
theorem d_Ph_hasCell_28 : decode k_Ph_hasCell.code 28 = .ok (.iconst 1, 1) := by decide +kernel
theorem d_Ph_hasCell_29 : decode k_Ph_hasCell.code 29 = .ok (.goto 4, 3) := by decide +kernel
theorem d_Ph_hasCell_32 : decode k_Ph_hasCell.code 32 = .ok (.iconst 0, 1) := by decide +kernel
theorem d_Ph_hasCell_33 : decode k_Ph_hasCell.code 33 = .ok (.ireturn, 1) := by decide +kernel
theorem d_Ph_change_0 : decode k_Ph_change.code 0 = .ok (.aload_n 0, 1) := by decide +kernel
theorem d_Ph_change_1 : decode k_Ph_change.code 1 = .ok (.iload_n 1, 1) := by decide +kernel
theorem d_Ph_change_2 : decode k_Ph_change.code 2 = .ok (.iload_n 2, 1) := by decide +kernel
theorem d_Ph_change_3 : decode k_Ph_change.code 3 = .ok (.iload_n 3, 1) := by decide +kernel
theorem s_Ph_change_4 : SiteV k_Ph_change k_Ph_index 4 3 3 := ⟨26, (R_Ph, F_Ph, 3), by decide +kernel, ⟨kw_Ph_index, tx1 3 rfl rfl, by decide, by decide⟩, tx2 144 rfl rfl, tx2 146 rfl rfl, twp 1 rfl rfl, rfl, ⟨by decide +kernel, by decide +kernel⟩, np_Ph_index⟩
theorem d_Ph_change_7 : decode k_Ph_change.code 7 = .ok (.istore 5, 2) := by decide +kernel
theorem d_Ph_change_9 : decode k_Ph_change.code 9 = .ok (.aload_n 0, 1) := by decide +kernel
theorem g_Ph_change_10 : SiteG k_Ph_change 10 3 2 := ⟨18, 3, R_Ph, "PhotoModels$Photos", F_Ph, by decide +kernel, tx1 44 rfl rfl, i_Ph, rfl, rfl, by decide⟩
theorem d_Ph_change_13 : decode k_Ph_change.code 13 = .ok (.iload 5, 2) := by decide +kernel
theorem d_Ph_change_15 : decode k_Ph_change.code 15 = .ok (.iaload, 1) := by decide +kernel
theorem d_Ph_change_16 : decode k_Ph_change.code 16 = .ok (.istore 6, 2) := by decide +kernel
theorem d_Ph_change_18 : decode k_Ph_change.code 18 = .ok (.aload_n 0, 1) := by decide +kernel
theorem g_Ph_change_19 : SiteG k_Ph_change 19 3 2 := ⟨18, 3, R_Ph, "PhotoModels$Photos", F_Ph, by decide +kernel, tx1 44 rfl rfl, i_Ph, rfl, rfl, by decide⟩
theorem d_Ph_change_22 : decode k_Ph_change.code 22 = .ok (.iload 5, 2) := by decide +kernel
theorem d_Ph_change_24 : decode k_Ph_change.code 24 = .ok (.iload 4, 2) := by decide +kernel
theorem d_Ph_change_26 : decode k_Ph_change.code 26 = .ok (.iastore, 1) := by decide +kernel
theorem d_Ph_change_27 : decode k_Ph_change.code 27 = .ok (.iload 6, 2) := by decide +kernel
theorem d_Ph_change_29 : decode k_Ph_change.code 29 = .ok (.ireturn, 1) := by decide +kernel
theorem d_Ph_index_0 : decode k_Ph_index.code 0 = .ok (.iload_n 1, 1) := by decide +kernel
theorem d_Ph_index_1 : decode k_Ph_index.code 1 = .ok (.aload_n 0, 1) := by decide +kernel
theorem g_Ph_index_2 : SiteG k_Ph_index 2 3 1 := ⟨15, 3, R_Ph, "PhotoModels$Photos", F_Ph, by decide +kernel, tx1 43 rfl rfl, i_Ph, rfl, rfl, by decide⟩
theorem d_Ph_index_5 : decode k_Ph_index.code 5 = .ok (.imul, 1) := by decide +kernel
theorem d_Ph_index_6 : decode k_Ph_index.code 6 = .ok (.iload_n 3, 1) := by decide +kernel
theorem d_Ph_index_7 : decode k_Ph_index.code 7 = .ok (.iadd, 1) := by decide +kernel
theorem d_Ph_index_8 : decode k_Ph_index.code 8 = .ok (.aload_n 0, 1) := by decide +kernel
theorem g_Ph_index_9 : SiteG k_Ph_index 9 3 0 := ⟨9, 3, R_Ph, "PhotoModels$Photos", F_Ph, by decide +kernel, tx1 42 rfl rfl, i_Ph, rfl, rfl, by decide⟩
theorem d_Ph_index_12 : decode k_Ph_index.code 12 = .ok (.imul, 1) := by decide +kernel
theorem d_Ph_index_13 : decode k_Ph_index.code 13 = .ok (.iload_n 2, 1) := by decide +kernel
theorem d_Ph_index_14 : decode k_Ph_index.code 14 = .ok (.iadd, 1) := by decide +kernel
theorem d_Ph_index_15 : decode k_Ph_index.code 15 = .ok (.ireturn, 1) := by decide +kernel
theorem d_Ph_hasWindow_0 : decode k_Ph_hasWindow.code 0 = .ok (.iload_n 1, 1) := by decide +kernel
theorem d_Ph_hasWindow_1 : decode k_Ph_hasWindow.code 1 = .ok (.iconst 1, 1) := by decide +kernel
theorem d_Ph_hasWindow_2 : decode k_Ph_hasWindow.code 2 = .ok (.aload_n 0, 1) := by decide +kernel
theorem g_Ph_hasWindow_3 : SiteG k_Ph_hasWindow 3 3 0 := ⟨9, 3, R_Ph, "PhotoModels$Photos", F_Ph, by decide +kernel, tx1 42 rfl rfl, i_Ph, rfl, rfl, by decide⟩
theorem d_Ph_hasWindow_6 : decode k_Ph_hasWindow.code 6 = .ok (.iconst 2, 1) := by decide +kernel
theorem d_Ph_hasWindow_7 : decode k_Ph_hasWindow.code 7 = .ok (.isub, 1) := by decide +kernel
theorem s_Ph_hasWindow_8 : SiteS k_Ph_hasWindow k_Pm_isWithin 8 3 := ⟨22, by decide +kernel, ⟨kw_Pm_isWithin, tx1 1 rfl rfl, by decide, by decide⟩, Or.inr ⟨"PhotoModels", tx2 49 rfl rfl⟩, tx2 43 rfl rfl, ⟨by decide +kernel, by decide +kernel⟩, np_Pm_isWithin⟩
theorem d_Ph_hasWindow_11 : decode k_Ph_hasWindow.code 11 = .ok (.ifCond .eq 21, 3) := by decide +kernel
theorem d_Ph_hasWindow_14 : decode k_Ph_hasWindow.code 14 = .ok (.iload_n 2, 1) := by decide +kernel
theorem d_Ph_hasWindow_15 : decode k_Ph_hasWindow.code 15 = .ok (.iconst 1, 1) := by decide +kernel
theorem d_Ph_hasWindow_16 : decode k_Ph_hasWindow.code 16 = .ok (.aload_n 0, 1) := by decide +kernel
theorem g_Ph_hasWindow_17 : SiteG k_Ph_hasWindow 17 3 1 := ⟨15, 3, R_Ph, "PhotoModels$Photos", F_Ph, by decide +kernel, tx1 43 rfl rfl, i_Ph, rfl, rfl, by decide⟩
theorem d_Ph_hasWindow_20 : decode k_Ph_hasWindow.code 20 = .ok (.iconst 2, 1) := by decide +kernel
theorem d_Ph_hasWindow_21 : decode k_Ph_hasWindow.code 21 = .ok (.isub, 1) := by decide +kernel
theorem s_Ph_hasWindow_22 : SiteS k_Ph_hasWindow k_Pm_isWithin 22 3 := ⟨22, by decide +kernel, ⟨kw_Pm_isWithin, tx1 1 rfl rfl, by decide, by decide⟩, Or.inr ⟨"PhotoModels", tx2 49 rfl rfl⟩, tx2 43 rfl rfl, ⟨by decide +kernel, by decide +kernel⟩, np_Pm_isWithin⟩
theorem d_Ph_hasWindow_25 : decode k_Ph_hasWindow.code 25 = .ok (.ifCond .eq 7, 3) := by decide +kernel
theorem d_Ph_hasWindow_28 : decode k_Ph_hasWindow.code 28 = .ok (.iconst 1, 1) := by decide +kernel
theorem d_Ph_hasWindow_29 : decode k_Ph_hasWindow.code 29 = .ok (.goto 4, 3) := by decide +kernel
theorem d_Ph_hasWindow_32 : decode k_Ph_hasWindow.code 32 = .ok (.iconst 0, 1) := by decide +kernel
theorem d_Ph_hasWindow_33 : decode k_Ph_hasWindow.code 33 = .ok (.ireturn, 1) := by decide +kernel
theorem d_Se_look_0 : decode k_Se_look.code 0 = .ok (.iconst (-1), 1) := by decide +kernel
theorem d_Se_look_1 : decode k_Se_look.code 1 = .ok (.istore 6, 2) := by decide +kernel
theorem d_Se_look_3 : decode k_Se_look.code 3 = .ok (.iconst 1, 1) := by decide +kernel
theorem d_Se_look_4 : decode k_Se_look.code 4 = .ok (.istore 7, 2) := by decide +kernel
theorem d_Se_look_6 : decode k_Se_look.code 6 = .ok (.iload 7, 2) := by decide +kernel
theorem d_Se_look_8 : decode k_Se_look.code 8 = .ok (.aload_n 0, 1) := by decide +kernel
theorem g_Se_look_9 : SiteG k_Se_look 9 6 1 := ⟨15, 7, R_Se, "PhotoModels$Search", F_Se, by decide +kernel, tx1 60 rfl rfl, i_Se, rfl, rfl, by decide⟩
theorem d_Se_look_12 : decode k_Se_look.code 12 = .ok (.iconst 1, 1) := by decide +kernel
theorem d_Se_look_13 : decode k_Se_look.code 13 = .ok (.isub, 1) := by decide +kernel
theorem d_Se_look_14 : decode k_Se_look.code 14 = .ok (.if_icmp .ge 88, 3) := by decide +kernel
theorem d_Se_look_17 : decode k_Se_look.code 17 = .ok (.iconst 1, 1) := by decide +kernel
theorem d_Se_look_18 : decode k_Se_look.code 18 = .ok (.istore 8, 2) := by decide +kernel
theorem d_Se_look_20 : decode k_Se_look.code 20 = .ok (.iload 8, 2) := by decide +kernel
theorem d_Se_look_22 : decode k_Se_look.code 22 = .ok (.aload_n 0, 1) := by decide +kernel
theorem g_Se_look_23 : SiteG k_Se_look 23 6 0 := ⟨9, 7, R_Se, "PhotoModels$Search", F_Se, by decide +kernel, tx1 59 rfl rfl, i_Se, rfl, rfl, by decide⟩
theorem d_Se_look_26 : decode k_Se_look.code 26 = .ok (.iconst 1, 1) := by decide +kernel
theorem d_Se_look_27 : decode k_Se_look.code 27 = .ok (.isub, 1) := by decide +kernel
theorem d_Se_look_28 : decode k_Se_look.code 28 = .ok (.if_icmp .ge 68, 3) := by decide +kernel
theorem d_Se_look_31 : decode k_Se_look.code 31 = .ok (.aload_n 1, 1) := by decide +kernel
theorem d_Se_look_32 : decode k_Se_look.code 32 = .ok (.iload_n 2, 1) := by decide +kernel
theorem d_Se_look_33 : decode k_Se_look.code 33 = .ok (.iload 4, 2) := by decide +kernel
theorem d_Se_look_35 : decode k_Se_look.code 35 = .ok (.iload 5, 2) := by decide +kernel
theorem d_Se_look_37 : decode k_Se_look.code 37 = .ok (.iload_n 3, 1) := by decide +kernel
theorem d_Se_look_38 : decode k_Se_look.code 38 = .ok (.iload 8, 2) := by decide +kernel
theorem d_Se_look_40 : decode k_Se_look.code 40 = .ok (.iload 7, 2) := by decide +kernel
theorem s_Se_look_42 : SiteV k_Se_look k_Ph_windowMiss 42 3 6 := ⟨35, (R_Ph, F_Ph, 3), by decide +kernel, ⟨kw_Ph_windowMiss, tx1 3 rfl rfl, by decide, by decide⟩, tx2 163 rfl rfl, tx2 164 rfl rfl, tx2 165 rfl rfl, rfl, ⟨by decide +kernel, by decide +kernel⟩, np_Ph_windowMiss⟩
theorem d_Se_look_45 : decode k_Se_look.code 45 = .ok (.istore 9, 2) := by decide +kernel
theorem d_Se_look_47 : decode k_Se_look.code 47 = .ok (.aload_n 0, 1) := by decide +kernel
theorem g_Se_look_48 : SiteG k_Se_look 48 6 2 := ⟨18, 7, R_Se, "PhotoModels$Search", F_Se, by decide +kernel, tx1 61 rfl rfl, i_Se, rfl, rfl, by decide⟩
theorem d_Se_look_51 : decode k_Se_look.code 51 = .ok (.iload 7, 2) := by decide +kernel
theorem d_Se_look_53 : decode k_Se_look.code 53 = .ok (.aload_n 0, 1) := by decide +kernel
theorem g_Se_look_54 : SiteG k_Se_look 54 6 0 := ⟨9, 7, R_Se, "PhotoModels$Search", F_Se, by decide +kernel, tx1 59 rfl rfl, i_Se, rfl, rfl, by decide⟩
theorem d_Se_look_57 : decode k_Se_look.code 57 = .ok (.imul, 1) := by decide +kernel
theorem d_Se_look_58 : decode k_Se_look.code 58 = .ok (.iload 8, 2) := by decide +kernel
theorem d_Se_look_60 : decode k_Se_look.code 60 = .ok (.iadd, 1) := by decide +kernel
theorem d_Se_look_61 : decode k_Se_look.code 61 = .ok (.iload 9, 2) := by decide +kernel
theorem d_Se_look_63 : decode k_Se_look.code 63 = .ok (.iastore, 1) := by decide +kernel
theorem d_Se_look_64 : decode k_Se_look.code 64 = .ok (.iload 9, 2) := by decide +kernel
theorem d_Se_look_66 : decode k_Se_look.code 66 = .ok (.iload 6, 2) := by decide +kernel
theorem s_Se_look_68 : SiteS k_Se_look k_Se_isLess 68 2 := ⟨41, by decide +kernel, ⟨kw_Se_isLess, tx1 4 rfl rfl, by decide, by decide⟩, Or.inl (tx2 167 rfl rfl), tx2 168 rfl rfl, ⟨by decide +kernel, by decide +kernel⟩, np_Se_isLess⟩
theorem d_Se_look_71 : decode k_Se_look.code 71 = .ok (.ifCond .eq 19, 3) := by decide +kernel
theorem d_Se_look_74 : decode k_Se_look.code 74 = .ok (.iload 9, 2) := by decide +kernel
theorem d_Se_look_76 : decode k_Se_look.code 76 = .ok (.istore 6, 2) := by decide +kernel
theorem d_Se_look_78 : decode k_Se_look.code 78 = .ok (.aload_n 0, 1) := by decide +kernel
theorem d_Se_look_79 : decode k_Se_look.code 79 = .ok (.iload 8, 2) := by decide +kernel
theorem p_Se_look_81 : SiteP k_Se_look 81 6 4 .int := ⟨29, 7, R_Se, "PhotoModels$Search", F_Se, t_Se, t_Se_ok, n_Se, by decide +kernel, tx1 63 rfl rfl, i_Se, rfl, Or.inl rfl, rfl, by decide, rfl⟩
theorem d_Se_look_84 : decode k_Se_look.code 84 = .ok (.aload_n 0, 1) := by decide +kernel
theorem d_Se_look_85 : decode k_Se_look.code 85 = .ok (.iload 7, 2) := by decide +kernel
theorem p_Se_look_87 : SiteP k_Se_look 87 6 5 .int := ⟨32, 7, R_Se, "PhotoModels$Search", F_Se, t_Se, t_Se_ok, n_Se, by decide +kernel, tx1 64 rfl rfl, i_Se, rfl, Or.inl rfl, rfl, by decide, rfl⟩
theorem d_Se_look_90 : decode k_Se_look.code 90 = .ok (.iinc 8 1, 3) := by decide +kernel
theorem d_Se_look_93 : decode k_Se_look.code 93 = .ok (.goto (-73), 3) := by decide +kernel
theorem d_Se_look_96 : decode k_Se_look.code 96 = .ok (.iinc 7 1, 3) := by decide +kernel
theorem d_Se_look_99 : decode k_Se_look.code 99 = .ok (.goto (-93), 3) := by decide +kernel
theorem d_Se_look_102 : decode k_Se_look.code 102 = .ok (.aload_n 0, 1) := by decide +kernel
theorem d_Se_look_103 : decode k_Se_look.code 103 = .ok (.aload_n 0, 1) := by decide +kernel
theorem s_Se_look_104 : SiteV k_Se_look k_Se_leastFarFromFound 104 6 0 := ⟨45, (R_Se, F_Se, 7), by decide +kernel, ⟨kw_Se_leastFarFromFound, tx1 4 rfl rfl, by decide, by decide⟩, tx2 170 rfl rfl, tx2 172 rfl rfl, twp 2 rfl rfl, rfl, ⟨by decide +kernel, by decide +kernel⟩, np_Se_leastFarFromFound⟩
theorem p_Se_look_107 : SiteP k_Se_look 107 6 6 .int := ⟨26, 7, R_Se, "PhotoModels$Search", F_Se, t_Se, t_Se_ok, n_Se, by decide +kernel, tx1 65 rfl rfl, i_Se, rfl, Or.inl rfl, rfl, by decide, rfl⟩
theorem d_Se_look_110 : decode k_Se_look.code 110 = .ok (.aload_n 0, 1) := by decide +kernel
theorem d_Se_look_111 : decode k_Se_look.code 111 = .ok (.iconst 1, 1) := by decide +kernel
theorem p_Se_look_112 : SiteP k_Se_look 112 6 3 .boolean := ⟨22, 7, R_Se, "PhotoModels$Search", F_Se, t_Se, t_Se_ok, n_Se, by decide +kernel, tx1 62 rfl rfl, i_Se, rfl, Or.inl rfl, rfl, by decide, rfl⟩
theorem d_Se_look_115 : decode k_Se_look.code 115 = .ok (.iload 6, 2) := by decide +kernel
theorem d_Se_look_117 : decode k_Se_look.code 117 = .ok (.ireturn, 1) := by decide +kernel
theorem d_Ph_windowMiss_0 : decode k_Ph_windowMiss.code 0 = .ok (.iconst 0, 1) := by decide +kernel
theorem d_Ph_windowMiss_1 : decode k_Ph_windowMiss.code 1 = .ok (.istore 7, 2) := by decide +kernel
theorem d_Ph_windowMiss_3 : decode k_Ph_windowMiss.code 3 = .ok (.iconst (-1), 1) := by decide +kernel
theorem d_Ph_windowMiss_4 : decode k_Ph_windowMiss.code 4 = .ok (.istore 8, 2) := by decide +kernel
theorem d_Ph_windowMiss_6 : decode k_Ph_windowMiss.code 6 = .ok (.iload 8, 2) := by decide +kernel
theorem d_Ph_windowMiss_8 : decode k_Ph_windowMiss.code 8 = .ok (.iconst 1, 1) := by decide +kernel
theorem d_Ph_windowMiss_9 : decode k_Ph_windowMiss.code 9 = .ok (.if_icmp .gt 84, 3) := by decide +kernel
theorem d_Ph_windowMiss_12 : decode k_Ph_windowMiss.code 12 = .ok (.aload_n 0, 1) := by decide +kernel
theorem d_Ph_windowMiss_13 : decode k_Ph_windowMiss.code 13 = .ok (.iload_n 1, 1) := by decide +kernel
theorem d_Ph_windowMiss_14 : decode k_Ph_windowMiss.code 14 = .ok (.iload_n 2, 1) := by decide +kernel
theorem d_Ph_windowMiss_15 : decode k_Ph_windowMiss.code 15 = .ok (.iload_n 3, 1) := by decide +kernel
theorem d_Ph_windowMiss_16 : decode k_Ph_windowMiss.code 16 = .ok (.iload 8, 2) := by decide +kernel
theorem d_Ph_windowMiss_18 : decode k_Ph_windowMiss.code 18 = .ok (.iadd, 1) := by decide +kernel
theorem s_Ph_windowMiss_19 : SiteV k_Ph_windowMiss k_Ph_index 19 3 3 := ⟨26, (R_Ph, F_Ph, 3), by decide +kernel, ⟨kw_Ph_index, tx1 3 rfl rfl, by decide, by decide⟩, tx2 144 rfl rfl, tx2 146 rfl rfl, twp 1 rfl rfl, rfl, ⟨by decide +kernel, by decide +kernel⟩, np_Ph_index⟩
theorem d_Ph_windowMiss_22 : decode k_Ph_windowMiss.code 22 = .ok (.istore 9, 2) := by decide +kernel
theorem d_Ph_windowMiss_24 : decode k_Ph_windowMiss.code 24 = .ok (.aload_n 0, 1) := by decide +kernel
theorem d_Ph_windowMiss_25 : decode k_Ph_windowMiss.code 25 = .ok (.iload 4, 2) := by decide +kernel
theorem d_Ph_windowMiss_27 : decode k_Ph_windowMiss.code 27 = .ok (.iload 5, 2) := by decide +kernel
theorem d_Ph_windowMiss_29 : decode k_Ph_windowMiss.code 29 = .ok (.iload 6, 2) := by decide +kernel
theorem d_Ph_windowMiss_31 : decode k_Ph_windowMiss.code 31 = .ok (.iload 8, 2) := by decide +kernel
theorem d_Ph_windowMiss_33 : decode k_Ph_windowMiss.code 33 = .ok (.iadd, 1) := by decide +kernel
theorem s_Ph_windowMiss_34 : SiteV k_Ph_windowMiss k_Ph_index 34 3 3 := ⟨26, (R_Ph, F_Ph, 3), by decide +kernel, ⟨kw_Ph_index, tx1 3 rfl rfl, by decide, by decide⟩, tx2 144 rfl rfl, tx2 146 rfl rfl, twp 1 rfl rfl, rfl, ⟨by decide +kernel, by decide +kernel⟩, np_Ph_index⟩
theorem d_Ph_windowMiss_37 : decode k_Ph_windowMiss.code 37 = .ok (.istore 10, 2) := by decide +kernel
theorem d_Ph_windowMiss_39 : decode k_Ph_windowMiss.code 39 = .ok (.iconst (-1), 1) := by decide +kernel
theorem d_Ph_windowMiss_40 : decode k_Ph_windowMiss.code 40 = .ok (.istore 11, 2) := by decide +kernel
theorem d_Ph_windowMiss_42 : decode k_Ph_windowMiss.code 42 = .ok (.iload 11, 2) := by decide +kernel
theorem d_Ph_windowMiss_44 : decode k_Ph_windowMiss.code 44 = .ok (.iconst 1, 1) := by decide +kernel
theorem d_Ph_windowMiss_45 : decode k_Ph_windowMiss.code 45 = .ok (.if_icmp .gt 42, 3) := by decide +kernel
theorem d_Ph_windowMiss_48 : decode k_Ph_windowMiss.code 48 = .ok (.aload_n 0, 1) := by decide +kernel
theorem g_Ph_windowMiss_49 : SiteG k_Ph_windowMiss 49 3 2 := ⟨18, 3, R_Ph, "PhotoModels$Photos", F_Ph, by decide +kernel, tx1 44 rfl rfl, i_Ph, rfl, rfl, by decide⟩
theorem d_Ph_windowMiss_52 : decode k_Ph_windowMiss.code 52 = .ok (.iload 9, 2) := by decide +kernel
theorem d_Ph_windowMiss_54 : decode k_Ph_windowMiss.code 54 = .ok (.iload 11, 2) := by decide +kernel
theorem d_Ph_windowMiss_56 : decode k_Ph_windowMiss.code 56 = .ok (.iadd, 1) := by decide +kernel
theorem d_Ph_windowMiss_57 : decode k_Ph_windowMiss.code 57 = .ok (.iaload, 1) := by decide +kernel
theorem d_Ph_windowMiss_58 : decode k_Ph_windowMiss.code 58 = .ok (.aload_n 0, 1) := by decide +kernel
theorem g_Ph_windowMiss_59 : SiteG k_Ph_windowMiss 59 3 2 := ⟨18, 3, R_Ph, "PhotoModels$Photos", F_Ph, by decide +kernel, tx1 44 rfl rfl, i_Ph, rfl, rfl, by decide⟩
theorem d_Ph_windowMiss_62 : decode k_Ph_windowMiss.code 62 = .ok (.iload 10, 2) := by decide +kernel
theorem d_Ph_windowMiss_64 : decode k_Ph_windowMiss.code 64 = .ok (.iload 11, 2) := by decide +kernel
theorem d_Ph_windowMiss_66 : decode k_Ph_windowMiss.code 66 = .ok (.iadd, 1) := by decide +kernel
theorem d_Ph_windowMiss_67 : decode k_Ph_windowMiss.code 67 = .ok (.iaload, 1) := by decide +kernel
theorem d_Ph_windowMiss_68 : decode k_Ph_windowMiss.code 68 = .ok (.isub, 1) := by decide +kernel
theorem d_Ph_windowMiss_69 : decode k_Ph_windowMiss.code 69 = .ok (.istore 12, 2) := by decide +kernel
theorem d_Ph_windowMiss_71 : decode k_Ph_windowMiss.code 71 = .ok (.iload 7, 2) := by decide +kernel
theorem d_Ph_windowMiss_73 : decode k_Ph_windowMiss.code 73 = .ok (.iload 12, 2) := by decide +kernel
theorem d_Ph_windowMiss_75 : decode k_Ph_windowMiss.code 75 = .ok (.iload 12, 2) := by decide +kernel
theorem d_Ph_windowMiss_77 : decode k_Ph_windowMiss.code 77 = .ok (.imul, 1) := by decide +kernel
theorem d_Ph_windowMiss_78 : decode k_Ph_windowMiss.code 78 = .ok (.iadd, 1) := by decide +kernel
theorem d_Ph_windowMiss_79 : decode k_Ph_windowMiss.code 79 = .ok (.istore 7, 2) := by decide +kernel
theorem d_Ph_windowMiss_81 : decode k_Ph_windowMiss.code 81 = .ok (.iinc 11 1, 3) := by decide +kernel
theorem d_Ph_windowMiss_84 : decode k_Ph_windowMiss.code 84 = .ok (.goto (-42), 3) := by decide +kernel
theorem d_Ph_windowMiss_87 : decode k_Ph_windowMiss.code 87 = .ok (.iinc 8 1, 3) := by decide +kernel
theorem d_Ph_windowMiss_90 : decode k_Ph_windowMiss.code 90 = .ok (.goto (-84), 3) := by decide +kernel
theorem d_Ph_windowMiss_93 : decode k_Ph_windowMiss.code 93 = .ok (.iload 7, 2) := by decide +kernel
theorem d_Ph_windowMiss_95 : decode k_Ph_windowMiss.code 95 = .ok (.ireturn, 1) := by decide +kernel
theorem d_Se_isLess_0 : decode k_Se_isLess.code 0 = .ok (.iload_n 1, 1) := by decide +kernel
theorem d_Se_isLess_1 : decode k_Se_isLess.code 1 = .ok (.iconst (-1), 1) := by decide +kernel
theorem d_Se_isLess_2 : decode k_Se_isLess.code 2 = .ok (.if_icmp .eq 8, 3) := by decide +kernel
theorem d_Se_isLess_5 : decode k_Se_isLess.code 5 = .ok (.iload_n 0, 1) := by decide +kernel
theorem d_Se_isLess_6 : decode k_Se_isLess.code 6 = .ok (.iload_n 1, 1) := by decide +kernel
theorem d_Se_isLess_7 : decode k_Se_isLess.code 7 = .ok (.if_icmp .ge 7, 3) := by decide +kernel
theorem d_Se_isLess_10 : decode k_Se_isLess.code 10 = .ok (.iconst 1, 1) := by decide +kernel
theorem d_Se_isLess_11 : decode k_Se_isLess.code 11 = .ok (.goto 4, 3) := by decide +kernel
theorem d_Se_isLess_14 : decode k_Se_isLess.code 14 = .ok (.iconst 0, 1) := by decide +kernel
theorem d_Se_isLess_15 : decode k_Se_isLess.code 15 = .ok (.ireturn, 1) := by decide +kernel
theorem d_Se_leastFarFromFound_0 : decode k_Se_leastFarFromFound.code 0 = .ok (.iconst (-1), 1) := by decide +kernel
theorem d_Se_leastFarFromFound_1 : decode k_Se_leastFarFromFound.code 1 = .ok (.istore_n 1, 1) := by decide +kernel
theorem d_Se_leastFarFromFound_2 : decode k_Se_leastFarFromFound.code 2 = .ok (.iconst 1, 1) := by decide +kernel
theorem d_Se_leastFarFromFound_3 : decode k_Se_leastFarFromFound.code 3 = .ok (.istore_n 2, 1) := by decide +kernel
theorem d_Se_leastFarFromFound_4 : decode k_Se_leastFarFromFound.code 4 = .ok (.iload_n 2, 1) := by decide +kernel
theorem d_Se_leastFarFromFound_5 : decode k_Se_leastFarFromFound.code 5 = .ok (.aload_n 0, 1) := by decide +kernel
theorem g_Se_leastFarFromFound_6 : SiteG k_Se_leastFarFromFound 6 6 1 := ⟨15, 7, R_Se, "PhotoModels$Search", F_Se, by decide +kernel, tx1 60 rfl rfl, i_Se, rfl, rfl, by decide⟩
theorem d_Se_leastFarFromFound_9 : decode k_Se_leastFarFromFound.code 9 = .ok (.iconst 1, 1) := by decide +kernel
theorem d_Se_leastFarFromFound_10 : decode k_Se_leastFarFromFound.code 10 = .ok (.isub, 1) := by decide +kernel
theorem d_Se_leastFarFromFound_11 : decode k_Se_leastFarFromFound.code 11 = .ok (.if_icmp .ge 63, 3) := by decide +kernel
theorem d_Se_leastFarFromFound_14 : decode k_Se_leastFarFromFound.code 14 = .ok (.iconst 1, 1) := by decide +kernel
theorem d_Se_leastFarFromFound_15 : decode k_Se_leastFarFromFound.code 15 = .ok (.istore_n 3, 1) := by decide +kernel
theorem d_Se_leastFarFromFound_16 : decode k_Se_leastFarFromFound.code 16 = .ok (.iload_n 3, 1) := by decide +kernel
theorem d_Se_leastFarFromFound_17 : decode k_Se_leastFarFromFound.code 17 = .ok (.aload_n 0, 1) := by decide +kernel
theorem g_Se_leastFarFromFound_18 : SiteG k_Se_leastFarFromFound 18 6 0 := ⟨9, 7, R_Se, "PhotoModels$Search", F_Se, by decide +kernel, tx1 59 rfl rfl, i_Se, rfl, rfl, by decide⟩
theorem d_Se_leastFarFromFound_21 : decode k_Se_leastFarFromFound.code 21 = .ok (.iconst 1, 1) := by decide +kernel
theorem d_Se_leastFarFromFound_22 : decode k_Se_leastFarFromFound.code 22 = .ok (.isub, 1) := by decide +kernel
theorem d_Se_leastFarFromFound_23 : decode k_Se_leastFarFromFound.code 23 = .ok (.if_icmp .ge 45, 3) := by decide +kernel
theorem d_Se_leastFarFromFound_26 : decode k_Se_leastFarFromFound.code 26 = .ok (.aload_n 0, 1) := by decide +kernel
theorem g_Se_leastFarFromFound_27 : SiteG k_Se_leastFarFromFound 27 6 2 := ⟨18, 7, R_Se, "PhotoModels$Search", F_Se, by decide +kernel, tx1 61 rfl rfl, i_Se, rfl, rfl, by decide⟩
theorem d_Se_leastFarFromFound_30 : decode k_Se_leastFarFromFound.code 30 = .ok (.iload_n 2, 1) := by decide +kernel
theorem d_Se_leastFarFromFound_31 : decode k_Se_leastFarFromFound.code 31 = .ok (.aload_n 0, 1) := by decide +kernel
theorem g_Se_leastFarFromFound_32 : SiteG k_Se_leastFarFromFound 32 6 0 := ⟨9, 7, R_Se, "PhotoModels$Search", F_Se, by decide +kernel, tx1 59 rfl rfl, i_Se, rfl, rfl, by decide⟩
theorem d_Se_leastFarFromFound_35 : decode k_Se_leastFarFromFound.code 35 = .ok (.imul, 1) := by decide +kernel
theorem d_Se_leastFarFromFound_36 : decode k_Se_leastFarFromFound.code 36 = .ok (.iload_n 3, 1) := by decide +kernel
theorem d_Se_leastFarFromFound_37 : decode k_Se_leastFarFromFound.code 37 = .ok (.iadd, 1) := by decide +kernel
theorem d_Se_leastFarFromFound_38 : decode k_Se_leastFarFromFound.code 38 = .ok (.iaload, 1) := by decide +kernel
theorem d_Se_leastFarFromFound_39 : decode k_Se_leastFarFromFound.code 39 = .ok (.istore 4, 2) := by decide +kernel
theorem d_Se_leastFarFromFound_41 : decode k_Se_leastFarFromFound.code 41 = .ok (.aload_n 0, 1) := by decide +kernel
theorem d_Se_leastFarFromFound_42 : decode k_Se_leastFarFromFound.code 42 = .ok (.iload_n 3, 1) := by decide +kernel
theorem d_Se_leastFarFromFound_43 : decode k_Se_leastFarFromFound.code 43 = .ok (.iload_n 2, 1) := by decide +kernel
theorem s_Se_leastFarFromFound_44 : SiteV k_Se_leastFarFromFound k_Se_isFarFromFound 44 6 2 := ⟨49, (R_Se, F_Se, 7), by decide +kernel, ⟨kw_Se_isFarFromFound, tx1 4 rfl rfl, by decide, by decide⟩, tx2 174 rfl rfl, tx2 176 rfl rfl, twp 3 rfl rfl, rfl, ⟨by decide +kernel, by decide +kernel⟩, np_Se_isFarFromFound⟩
theorem d_Se_leastFarFromFound_47 : decode k_Se_leastFarFromFound.code 47 = .ok (.ifCond .eq 15, 3) := by decide +kernel
theorem d_Se_leastFarFromFound_50 : decode k_Se_leastFarFromFound.code 50 = .ok (.iload 4, 2) := by decide +kernel
theorem d_Se_leastFarFromFound_52 : decode k_Se_leastFarFromFound.code 52 = .ok (.iload_n 1, 1) := by decide +kernel
theorem s_Se_leastFarFromFound_53 : SiteS k_Se_leastFarFromFound k_Se_isLess 53 2 := ⟨41, by decide +kernel, ⟨kw_Se_isLess, tx1 4 rfl rfl, by decide, by decide⟩, Or.inl (tx2 167 rfl rfl), tx2 168 rfl rfl, ⟨by decide +kernel, by decide +kernel⟩, np_Se_isLess⟩
theorem d_Se_leastFarFromFound_56 : decode k_Se_leastFarFromFound.code 56 = .ok (.ifCond .eq 6, 3) := by decide +kernel
theorem d_Se_leastFarFromFound_59 : decode k_Se_leastFarFromFound.code 59 = .ok (.iload 4, 2) := by decide +kernel
theorem d_Se_leastFarFromFound_61 : decode k_Se_leastFarFromFound.code 61 = .ok (.istore_n 1, 1) := by decide +kernel
theorem d_Se_leastFarFromFound_62 : decode k_Se_leastFarFromFound.code 62 = .ok (.iinc 3 1, 3) := by decide +kernel
theorem d_Se_leastFarFromFound_65 : decode k_Se_leastFarFromFound.code 65 = .ok (.goto (-49), 3) := by decide +kernel
theorem d_Se_leastFarFromFound_68 : decode k_Se_leastFarFromFound.code 68 = .ok (.iinc 2 1, 3) := by decide +kernel
theorem d_Se_leastFarFromFound_71 : decode k_Se_leastFarFromFound.code 71 = .ok (.goto (-67), 3) := by decide +kernel
theorem d_Se_leastFarFromFound_74 : decode k_Se_leastFarFromFound.code 74 = .ok (.iload_n 1, 1) := by decide +kernel
theorem d_Se_leastFarFromFound_75 : decode k_Se_leastFarFromFound.code 75 = .ok (.ireturn, 1) := by decide +kernel
theorem d_Se_isFarFromFound_0 : decode k_Se_isFarFromFound.code 0 = .ok (.iload_n 1, 1) := by decide +kernel
theorem d_Se_isFarFromFound_1 : decode k_Se_isFarFromFound.code 1 = .ok (.aload_n 0, 1) := by decide +kernel
theorem g_Se_isFarFromFound_2 : SiteG k_Se_isFarFromFound 2 6 4 := ⟨29, 7, R_Se, "PhotoModels$Search", F_Se, by decide +kernel, tx1 63 rfl rfl, i_Se, rfl, rfl, by decide⟩
theorem d_Se_isFarFromFound_5 : decode k_Se_isFarFromFound.code 5 = .ok (.isub, 1) := by decide +kernel
theorem s_Se_isFarFromFound_6 : SiteM k_Se_isFarFromFound 6 Lib.Math.abs.name Lib.Math.abs.code 1 := ⟨52, by decide +kernel, tx2 178 rfl rfl, tx2 179 rfl rfl, tx1 2 rfl rfl, tx2 180 rfl rfl, by decide, by decide⟩
theorem d_Se_isFarFromFound_9 : decode k_Se_isFarFromFound.code 9 = .ok (.iconst 1, 1) := by decide +kernel
theorem d_Se_isFarFromFound_10 : decode k_Se_isFarFromFound.code 10 = .ok (.if_icmp .gt 16, 3) := by decide +kernel
theorem d_Se_isFarFromFound_13 : decode k_Se_isFarFromFound.code 13 = .ok (.iload_n 2, 1) := by decide +kernel
theorem d_Se_isFarFromFound_14 : decode k_Se_isFarFromFound.code 14 = .ok (.aload_n 0, 1) := by decide +kernel
theorem g_Se_isFarFromFound_15 : SiteG k_Se_isFarFromFound 15 6 5 := ⟨32, 7, R_Se, "PhotoModels$Search", F_Se, by decide +kernel, tx1 64 rfl rfl, i_Se, rfl, rfl, by decide⟩
theorem d_Se_isFarFromFound_18 : decode k_Se_isFarFromFound.code 18 = .ok (.isub, 1) := by decide +kernel
theorem s_Se_isFarFromFound_19 : SiteM k_Se_isFarFromFound 19 Lib.Math.abs.name Lib.Math.abs.code 1 := ⟨52, by decide +kernel, tx2 178 rfl rfl, tx2 179 rfl rfl, tx1 2 rfl rfl, tx2 180 rfl rfl, by decide, by decide⟩
theorem d_Se_isFarFromFound_22 : decode k_Se_isFarFromFound.code 22 = .ok (.iconst 1, 1) := by decide +kernel
theorem d_Se_isFarFromFound_23 : decode k_Se_isFarFromFound.code 23 = .ok (.if_icmp .le 7, 3) := by decide +kernel
theorem d_Se_isFarFromFound_26 : decode k_Se_isFarFromFound.code 26 = .ok (.iconst 1, 1) := by decide +kernel
theorem d_Se_isFarFromFound_27 : decode k_Se_isFarFromFound.code 27 = .ok (.goto 4, 3) := by decide +kernel
theorem d_Se_isFarFromFound_30 : decode k_Se_isFarFromFound.code 30 = .ok (.iconst 0, 1) := by decide +kernel
theorem d_Se_isFarFromFound_31 : decode k_Se_isFarFromFound.code 31 = .ok (.ireturn, 1) := by decide +kernel
theorem d_Se_isDone_0 : decode k_Se_isDone.code 0 = .ok (.aload_n 0, 1) := by decide +kernel
theorem g_Se_isDone_1 : SiteG k_Se_isDone 1 6 3 := ⟨22, 7, R_Se, "PhotoModels$Search", F_Se, by decide +kernel, tx1 62 rfl rfl, i_Se, rfl, rfl, by decide⟩
theorem d_Se_isDone_4 : decode k_Se_isDone.code 4 = .ok (.ireturn, 1) := by decide +kernel
theorem d_Se_answer_0 : decode k_Se_answer.code 0 = .ok (.iload_n 1, 1) := by decide +kernel
theorem d_Se_answer_1 : decode k_Se_answer.code 1 = .ok (.iconst 2, 1) := by decide +kernel
theorem d_Se_answer_2 : decode k_Se_answer.code 2 = .ok (.if_icmp .ne 8, 3) := by decide +kernel
theorem d_Se_answer_5 : decode k_Se_answer.code 5 = .ok (.aload_n 0, 1) := by decide +kernel
theorem g_Se_answer_6 : SiteG k_Se_answer 6 6 6 := ⟨26, 7, R_Se, "PhotoModels$Search", F_Se, by decide +kernel, tx1 65 rfl rfl, i_Se, rfl, rfl, by decide⟩
theorem d_Se_answer_9 : decode k_Se_answer.code 9 = .ok (.ireturn, 1) := by decide +kernel
theorem d_Se_answer_10 : decode k_Se_answer.code 10 = .ok (.iload_n 1, 1) := by decide +kernel
theorem d_Se_answer_11 : decode k_Se_answer.code 11 = .ok (.ifCond .ne 10, 3) := by decide +kernel
theorem d_Se_answer_14 : decode k_Se_answer.code 14 = .ok (.aload_n 0, 1) := by decide +kernel
theorem g_Se_answer_15 : SiteG k_Se_answer 15 6 4 := ⟨29, 7, R_Se, "PhotoModels$Search", F_Se, by decide +kernel, tx1 63 rfl rfl, i_Se, rfl, rfl, by decide⟩
theorem d_Se_answer_18 : decode k_Se_answer.code 18 = .ok (.goto 7, 3) := by decide +kernel
theorem d_Se_answer_21 : decode k_Se_answer.code 21 = .ok (.aload_n 0, 1) := by decide +kernel
theorem g_Se_answer_22 : SiteG k_Se_answer 22 6 5 := ⟨32, 7, R_Se, "PhotoModels$Search", F_Se, by decide +kernel, tx1 64 rfl rfl, i_Se, rfl, rfl, by decide⟩
theorem d_Se_answer_25 : decode k_Se_answer.code 25 = .ok (.ireturn, 1) := by decide +kernel
theorem d_Pl_add_0 : decode k_Pl_add.code 0 = .ok (.aload_n 0, 1) := by decide +kernel
theorem g_Pl_add_1 : SiteG k_Pl_add 1 4 3 := ⟨22, 5, R_Pl, "PhotoModels$Places", F_Pl, by decide +kernel, tx1 90 rfl rfl, i_Pl, rfl, rfl, by decide⟩
theorem d_Pl_add_4 : decode k_Pl_add.code 4 = .ok (.istore_n 1, 1) := by decide +kernel
theorem d_Pl_add_5 : decode k_Pl_add.code 5 = .ok (.aload_n 0, 1) := by decide +kernel
theorem d_Pl_add_6 : decode k_Pl_add.code 6 = .ok (.dup, 1) := by decide +kernel
theorem g_Pl_add_7 : SiteG k_Pl_add 7 4 3 := ⟨22, 5, R_Pl, "PhotoModels$Places", F_Pl, by decide +kernel, tx1 90 rfl rfl, i_Pl, rfl, rfl, by decide⟩
theorem d_Pl_add_10 : decode k_Pl_add.code 10 = .ok (.iconst 1, 1) := by decide +kernel
theorem d_Pl_add_11 : decode k_Pl_add.code 11 = .ok (.iadd, 1) := by decide +kernel
theorem p_Pl_add_12 : SiteP k_Pl_add 12 4 3 .int := ⟨22, 5, R_Pl, "PhotoModels$Places", F_Pl, t_Pl, t_Pl_ok, n_Pl, by decide +kernel, tx1 90 rfl rfl, i_Pl, rfl, Or.inl rfl, rfl, by decide, rfl⟩
theorem d_Pl_add_15 : decode k_Pl_add.code 15 = .ok (.iload_n 1, 1) := by decide +kernel
theorem d_Pl_add_16 : decode k_Pl_add.code 16 = .ok (.ireturn, 1) := by decide +kernel
theorem d_Pl_has_0 : decode k_Pl_has.code 0 = .ok (.iload_n 1, 1) := by decide +kernel
theorem d_Pl_has_1 : decode k_Pl_has.code 1 = .ok (.ifCond .lt 15, 3) := by decide +kernel
theorem d_Pl_has_4 : decode k_Pl_has.code 4 = .ok (.iload_n 1, 1) := by decide +kernel
theorem d_Pl_has_5 : decode k_Pl_has.code 5 = .ok (.aload_n 0, 1) := by decide +kernel
theorem g_Pl_has_6 : SiteG k_Pl_has 6 4 3 := ⟨22, 5, R_Pl, "PhotoModels$Places", F_Pl, by decide +kernel, tx1 90 rfl rfl, i_Pl, rfl, rfl, by decide⟩
theorem d_Pl_has_9 : decode k_Pl_has.code 9 = .ok (.if_icmp .ge 7, 3) := by decide +kernel
theorem d_Pl_has_12 : decode k_Pl_has.code 12 = .ok (.iconst 1, 1) := by decide +kernel
theorem d_Pl_has_13 : decode k_Pl_has.code 13 = .ok (.goto 4, 3) := by decide +kernel
theorem d_Pl_has_16 : decode k_Pl_has.code 16 = .ok (.iconst 0, 1) := by decide +kernel
theorem d_Pl_has_17 : decode k_Pl_has.code 17 = .ok (.ireturn, 1) := by decide +kernel
theorem d_Pl_forget_0 : decode k_Pl_forget.code 0 = .ok (.aload_n 0, 1) := by decide +kernel
theorem d_Pl_forget_1 : decode k_Pl_forget.code 1 = .ok (.iload_n 1, 1) := by decide +kernel
theorem d_Pl_forget_2 : decode k_Pl_forget.code 2 = .ok (.iload_n 2, 1) := by decide +kernel
theorem s_Pl_forget_3 : SiteV k_Pl_forget k_Pl_isNoted 3 4 2 := ⟨29, (R_Pl, F_Pl, 5), by decide +kernel, ⟨kw_Pl_isNoted, tx1 5 rfl rfl, by decide, by decide⟩, tx3 3 rfl rfl, tx2 11 rfl rfl, tx2 12 rfl rfl, rfl, ⟨by decide +kernel, by decide +kernel⟩, np_Pl_isNoted⟩
theorem d_Pl_forget_6 : decode k_Pl_forget.code 6 = .ok (.istore_n 3, 1) := by decide +kernel
theorem d_Pl_forget_7 : decode k_Pl_forget.code 7 = .ok (.aload_n 0, 1) := by decide +kernel
theorem g_Pl_forget_8 : SiteG k_Pl_forget 8 4 1 := ⟨15, 5, R_Pl, "PhotoModels$Places", F_Pl, by decide +kernel, tx1 88 rfl rfl, i_Pl, rfl, rfl, by decide⟩
theorem d_Pl_forget_11 : decode k_Pl_forget.code 11 = .ok (.iload_n 1, 1) := by decide +kernel
theorem d_Pl_forget_12 : decode k_Pl_forget.code 12 = .ok (.iconst 4, 1) := by decide +kernel
theorem d_Pl_forget_13 : decode k_Pl_forget.code 13 = .ok (.imul, 1) := by decide +kernel
theorem d_Pl_forget_14 : decode k_Pl_forget.code 14 = .ok (.iload_n 2, 1) := by decide +kernel
theorem d_Pl_forget_15 : decode k_Pl_forget.code 15 = .ok (.iadd, 1) := by decide +kernel
theorem d_Pl_forget_16 : decode k_Pl_forget.code 16 = .ok (.iconst 0, 1) := by decide +kernel
theorem d_Pl_forget_17 : decode k_Pl_forget.code 17 = .ok (.bastore, 1) := by decide +kernel
theorem d_Pl_forget_18 : decode k_Pl_forget.code 18 = .ok (.iload_n 3, 1) := by decide +kernel
theorem d_Pl_forget_19 : decode k_Pl_forget.code 19 = .ok (.ireturn, 1) := by decide +kernel
theorem d_Pl_note_0 : decode k_Pl_note.code 0 = .ok (.iload_n 1, 1) := by decide +kernel
theorem d_Pl_note_1 : decode k_Pl_note.code 1 = .ok (.iconst 4, 1) := by decide +kernel
theorem d_Pl_note_2 : decode k_Pl_note.code 2 = .ok (.imul, 1) := by decide +kernel
theorem d_Pl_note_3 : decode k_Pl_note.code 3 = .ok (.iload_n 2, 1) := by decide +kernel
theorem d_Pl_note_4 : decode k_Pl_note.code 4 = .ok (.iadd, 1) := by decide +kernel
theorem d_Pl_note_5 : decode k_Pl_note.code 5 = .ok (.istore 5, 2) := by decide +kernel
theorem d_Pl_note_7 : decode k_Pl_note.code 7 = .ok (.aload_n 0, 1) := by decide +kernel
theorem g_Pl_note_8 : SiteG k_Pl_note 8 4 1 := ⟨15, 5, R_Pl, "PhotoModels$Places", F_Pl, by decide +kernel, tx1 88 rfl rfl, i_Pl, rfl, rfl, by decide⟩
theorem d_Pl_note_11 : decode k_Pl_note.code 11 = .ok (.iload 5, 2) := by decide +kernel
theorem d_Pl_note_13 : decode k_Pl_note.code 13 = .ok (.baload, 1) := by decide +kernel
theorem d_Pl_note_14 : decode k_Pl_note.code 14 = .ok (.istore 6, 2) := by decide +kernel
theorem d_Pl_note_16 : decode k_Pl_note.code 16 = .ok (.aload_n 0, 1) := by decide +kernel
theorem g_Pl_note_17 : SiteG k_Pl_note 17 4 1 := ⟨15, 5, R_Pl, "PhotoModels$Places", F_Pl, by decide +kernel, tx1 88 rfl rfl, i_Pl, rfl, rfl, by decide⟩
theorem d_Pl_note_20 : decode k_Pl_note.code 20 = .ok (.iload 5, 2) := by decide +kernel
theorem d_Pl_note_22 : decode k_Pl_note.code 22 = .ok (.iconst 1, 1) := by decide +kernel
theorem d_Pl_note_23 : decode k_Pl_note.code 23 = .ok (.bastore, 1) := by decide +kernel
theorem d_Pl_note_24 : decode k_Pl_note.code 24 = .ok (.aload_n 0, 1) := by decide +kernel
theorem g_Pl_note_25 : SiteG k_Pl_note 25 4 2 := ⟨18, 5, R_Pl, "PhotoModels$Places", F_Pl, by decide +kernel, tx1 89 rfl rfl, i_Pl, rfl, rfl, by decide⟩
theorem d_Pl_note_28 : decode k_Pl_note.code 28 = .ok (.iload 5, 2) := by decide +kernel
theorem d_Pl_note_30 : decode k_Pl_note.code 30 = .ok (.iconst 2, 1) := by decide +kernel
theorem d_Pl_note_31 : decode k_Pl_note.code 31 = .ok (.imul, 1) := by decide +kernel
theorem d_Pl_note_32 : decode k_Pl_note.code 32 = .ok (.iload_n 3, 1) := by decide +kernel
theorem d_Pl_note_33 : decode k_Pl_note.code 33 = .ok (.iastore, 1) := by decide +kernel
theorem d_Pl_note_34 : decode k_Pl_note.code 34 = .ok (.aload_n 0, 1) := by decide +kernel
theorem g_Pl_note_35 : SiteG k_Pl_note 35 4 2 := ⟨18, 5, R_Pl, "PhotoModels$Places", F_Pl, by decide +kernel, tx1 89 rfl rfl, i_Pl, rfl, rfl, by decide⟩
theorem d_Pl_note_38 : decode k_Pl_note.code 38 = .ok (.iload 5, 2) := by decide +kernel
theorem d_Pl_note_40 : decode k_Pl_note.code 40 = .ok (.iconst 2, 1) := by decide +kernel
theorem d_Pl_note_41 : decode k_Pl_note.code 41 = .ok (.imul, 1) := by decide +kernel
theorem d_Pl_note_42 : decode k_Pl_note.code 42 = .ok (.iconst 1, 1) := by decide +kernel
theorem d_Pl_note_43 : decode k_Pl_note.code 43 = .ok (.iadd, 1) := by decide +kernel
theorem d_Pl_note_44 : decode k_Pl_note.code 44 = .ok (.iload 4, 2) := by decide +kernel
theorem d_Pl_note_46 : decode k_Pl_note.code 46 = .ok (.iastore, 1) := by decide +kernel
theorem d_Pl_note_47 : decode k_Pl_note.code 47 = .ok (.iload 6, 2) := by decide +kernel
theorem d_Pl_note_49 : decode k_Pl_note.code 49 = .ok (.ireturn, 1) := by decide +kernel
theorem d_Pl_setAside_0 : decode k_Pl_setAside.code 0 = .ok (.aload_n 0, 1) := by decide +kernel
theorem g_Pl_setAside_1 : SiteG k_Pl_setAside 1 4 0 := ⟨9, 5, R_Pl, "PhotoModels$Places", F_Pl, by decide +kernel, tx1 87 rfl rfl, i_Pl, rfl, rfl, by decide⟩
theorem d_Pl_setAside_4 : decode k_Pl_setAside.code 4 = .ok (.iload_n 1, 1) := by decide +kernel
theorem d_Pl_setAside_5 : decode k_Pl_setAside.code 5 = .ok (.baload, 1) := by decide +kernel
theorem d_Pl_setAside_6 : decode k_Pl_setAside.code 6 = .ok (.iload_n 2, 1) := by decide +kernel
theorem d_Pl_setAside_7 : decode k_Pl_setAside.code 7 = .ok (.if_icmp .ne 5, 3) := by decide +kernel
theorem d_Pl_setAside_10 : decode k_Pl_setAside.code 10 = .ok (.iconst 0, 1) := by decide +kernel
theorem d_Pl_setAside_11 : decode k_Pl_setAside.code 11 = .ok (.ireturn, 1) := by decide +kernel
theorem d_Pl_setAside_12 : decode k_Pl_setAside.code 12 = .ok (.aload_n 0, 1) := by decide +kernel
theorem g_Pl_setAside_13 : SiteG k_Pl_setAside 13 4 0 := ⟨9, 5, R_Pl, "PhotoModels$Places", F_Pl, by decide +kernel, tx1 87 rfl rfl, i_Pl, rfl, rfl, by decide⟩
theorem d_Pl_setAside_16 : decode k_Pl_setAside.code 16 = .ok (.iload_n 1, 1) := by decide +kernel
theorem d_Pl_setAside_17 : decode k_Pl_setAside.code 17 = .ok (.iload_n 2, 1) := by decide +kernel
theorem d_Pl_setAside_18 : decode k_Pl_setAside.code 18 = .ok (.bastore, 1) := by decide +kernel
theorem d_Pl_setAside_19 : decode k_Pl_setAside.code 19 = .ok (.aload_n 0, 1) := by decide +kernel
theorem d_Pl_setAside_20 : decode k_Pl_setAside.code 20 = .ok (.dup, 1) := by decide +kernel
theorem g_Pl_setAside_21 : SiteG k_Pl_setAside 21 4 4 := ⟨26, 5, R_Pl, "PhotoModels$Places", F_Pl, by decide +kernel, tx1 91 rfl rfl, i_Pl, rfl, rfl, by decide⟩
theorem d_Pl_setAside_24 : decode k_Pl_setAside.code 24 = .ok (.iload_n 2, 1) := by decide +kernel
theorem d_Pl_setAside_25 : decode k_Pl_setAside.code 25 = .ok (.ifCond .eq 7, 3) := by decide +kernel
theorem d_Pl_setAside_28 : decode k_Pl_setAside.code 28 = .ok (.iconst 1, 1) := by decide +kernel
theorem d_Pl_setAside_29 : decode k_Pl_setAside.code 29 = .ok (.goto 4, 3) := by decide +kernel
theorem d_Pl_setAside_32 : decode k_Pl_setAside.code 32 = .ok (.iconst (-1), 1) := by decide +kernel
theorem d_Pl_setAside_33 : decode k_Pl_setAside.code 33 = .ok (.iadd, 1) := by decide +kernel
theorem p_Pl_setAside_34 : SiteP k_Pl_setAside 34 4 4 .int := ⟨26, 5, R_Pl, "PhotoModels$Places", F_Pl, t_Pl, t_Pl_ok, n_Pl, by decide +kernel, tx1 91 rfl rfl, i_Pl, rfl, Or.inl rfl, rfl, by decide, rfl⟩
theorem d_Pl_setAside_37 : decode k_Pl_setAside.code 37 = .ok (.iconst 1, 1) := by decide +kernel
theorem d_Pl_setAside_38 : decode k_Pl_setAside.code 38 = .ok (.ireturn, 1) := by decide +kernel
theorem d_Arr_fill_0 : decode k_Arr_fill.code 0 = .ok (.iconst 0, 1) := by decide +kernel
theorem d_Arr_fill_1 : decode k_Arr_fill.code 1 = .ok (.istore_n 2, 1) := by decide +kernel
theorem d_Arr_fill_2 : decode k_Arr_fill.code 2 = .ok (.aload_n 0, 1) := by decide +kernel
theorem d_Arr_fill_3 : decode k_Arr_fill.code 3 = .ok (.arraylength, 1) := by decide +kernel
theorem d_Arr_fill_4 : decode k_Arr_fill.code 4 = .ok (.istore_n 3, 1) := by decide +kernel
theorem d_Arr_fill_5 : decode k_Arr_fill.code 5 = .ok (.iload_n 2, 1) := by decide +kernel
theorem d_Arr_fill_6 : decode k_Arr_fill.code 6 = .ok (.iload_n 3, 1) := by decide +kernel
theorem d_Arr_fill_7 : decode k_Arr_fill.code 7 = .ok (.if_icmp .ge 13, 3) := by decide +kernel
theorem d_Arr_fill_10 : decode k_Arr_fill.code 10 = .ok (.aload_n 0, 1) := by decide +kernel
theorem d_Arr_fill_11 : decode k_Arr_fill.code 11 = .ok (.iload_n 2, 1) := by decide +kernel
theorem d_Arr_fill_12 : decode k_Arr_fill.code 12 = .ok (.iload_n 1, 1) := by decide +kernel
theorem d_Arr_fill_13 : decode k_Arr_fill.code 13 = .ok (.iastore, 1) := by decide +kernel
theorem d_Arr_fill_14 : decode k_Arr_fill.code 14 = .ok (.iinc 2 1, 3) := by decide +kernel
theorem d_Arr_fill_17 : decode k_Arr_fill.code 17 = .ok (.goto (-12), 3) := by decide +kernel
theorem d_Arr_fill_20 : decode k_Arr_fill.code 20 = .ok (.return_, 1) := by decide +kernel
theorem d_Math_floorDiv_0 : decode k_Math_floorDiv.code 0 = .ok (.lload_n 0, 1) := by decide +kernel
theorem d_Math_floorDiv_1 : decode k_Math_floorDiv.code 1 = .ok (.lload_n 2, 1) := by decide +kernel
theorem d_Math_floorDiv_2 : decode k_Math_floorDiv.code 2 = .ok (.ldiv, 1) := by decide +kernel
theorem d_Math_floorDiv_3 : decode k_Math_floorDiv.code 3 = .ok (.lstore 4, 2) := by decide +kernel
theorem d_Math_floorDiv_5 : decode k_Math_floorDiv.code 5 = .ok (.lload_n 0, 1) := by decide +kernel
theorem d_Math_floorDiv_6 : decode k_Math_floorDiv.code 6 = .ok (.lload_n 2, 1) := by decide +kernel
theorem d_Math_floorDiv_7 : decode k_Math_floorDiv.code 7 = .ok (.lxor, 1) := by decide +kernel
theorem d_Math_floorDiv_8 : decode k_Math_floorDiv.code 8 = .ok (.lconst 0, 1) := by decide +kernel
theorem d_Math_floorDiv_9 : decode k_Math_floorDiv.code 9 = .ok (.lcmp, 1) := by decide +kernel
theorem d_Math_floorDiv_10 : decode k_Math_floorDiv.code 10 = .ok (.ifCond .ge 17, 3) := by decide +kernel
theorem d_Math_floorDiv_13 : decode k_Math_floorDiv.code 13 = .ok (.lload 4, 2) := by decide +kernel
theorem d_Math_floorDiv_15 : decode k_Math_floorDiv.code 15 = .ok (.lload_n 2, 1) := by decide +kernel
theorem d_Math_floorDiv_16 : decode k_Math_floorDiv.code 16 = .ok (.lmul, 1) := by decide +kernel
theorem d_Math_floorDiv_17 : decode k_Math_floorDiv.code 17 = .ok (.lload_n 0, 1) := by decide +kernel
theorem d_Math_floorDiv_18 : decode k_Math_floorDiv.code 18 = .ok (.lcmp, 1) := by decide +kernel
theorem d_Math_floorDiv_19 : decode k_Math_floorDiv.code 19 = .ok (.ifCond .eq 8, 3) := by decide +kernel
theorem d_Math_floorDiv_22 : decode k_Math_floorDiv.code 22 = .ok (.lload 4, 2) := by decide +kernel
theorem d_Math_floorDiv_24 : decode k_Math_floorDiv.code 24 = .ok (.lconst 1, 1) := by decide +kernel
theorem d_Math_floorDiv_25 : decode k_Math_floorDiv.code 25 = .ok (.lsub, 1) := by decide +kernel
theorem d_Math_floorDiv_26 : decode k_Math_floorDiv.code 26 = .ok (.lreturn, 1) := by decide +kernel
theorem d_Math_floorDiv_27 : decode k_Math_floorDiv.code 27 = .ok (.lload 4, 2) := by decide +kernel
theorem d_Math_floorDiv_29 : decode k_Math_floorDiv.code 29 = .ok (.lreturn, 1) := by decide +kernel
theorem d_Le_number_0 : decode k_Le_number.code 0 = .ok (.aload_n 0, 1) := by decide +kernel
theorem g_Le_number_1 : SiteG k_Le_number 1 2 3 := ⟨21, 4, R_Le, "PhotoModels$Lengths", F_Le, by decide +kernel, tx1 161 rfl rfl, i_Le, rfl, rfl, by decide⟩
theorem d_Le_number_4 : decode k_Le_number.code 4 = .ok (.ireturn, 1) := by decide +kernel
theorem d_Le_add_0 : decode k_Le_add.code 0 = .ok (.aload_n 0, 1) := by decide +kernel
theorem g_Le_add_1 : SiteG k_Le_add 1 2 0 := ⟨9, 4, R_Le, "PhotoModels$Lengths", F_Le, by decide +kernel, tx1 158 rfl rfl, i_Le, rfl, rfl, by decide⟩
theorem d_Le_add_4 : decode k_Le_add.code 4 = .ok (.aload_n 0, 1) := by decide +kernel
theorem g_Le_add_5 : SiteG k_Le_add 5 2 3 := ⟨21, 4, R_Le, "PhotoModels$Lengths", F_Le, by decide +kernel, tx1 161 rfl rfl, i_Le, rfl, rfl, by decide⟩
theorem d_Le_add_8 : decode k_Le_add.code 8 = .ok (.iload_n 1, 1) := by decide +kernel
theorem d_Le_add_9 : decode k_Le_add.code 9 = .ok (.iastore, 1) := by decide +kernel
theorem d_Le_add_10 : decode k_Le_add.code 10 = .ok (.aload_n 0, 1) := by decide +kernel
theorem g_Le_add_11 : SiteG k_Le_add 11 2 1 := ⟨15, 4, R_Le, "PhotoModels$Lengths", F_Le, by decide +kernel, tx1 159 rfl rfl, i_Le, rfl, rfl, by decide⟩
theorem d_Le_add_14 : decode k_Le_add.code 14 = .ok (.aload_n 0, 1) := by decide +kernel
theorem g_Le_add_15 : SiteG k_Le_add 15 2 3 := ⟨21, 4, R_Le, "PhotoModels$Lengths", F_Le, by decide +kernel, tx1 161 rfl rfl, i_Le, rfl, rfl, by decide⟩
theorem d_Le_add_18 : decode k_Le_add.code 18 = .ok (.iload_n 2, 1) := by decide +kernel
theorem d_Le_add_19 : decode k_Le_add.code 19 = .ok (.iastore, 1) := by decide +kernel
theorem d_Le_add_20 : decode k_Le_add.code 20 = .ok (.aload_n 0, 1) := by decide +kernel
theorem g_Le_add_21 : SiteG k_Le_add 21 2 2 := ⟨18, 4, R_Le, "PhotoModels$Lengths", F_Le, by decide +kernel, tx1 160 rfl rfl, i_Le, rfl, rfl, by decide⟩
theorem d_Le_add_24 : decode k_Le_add.code 24 = .ok (.aload_n 0, 1) := by decide +kernel
theorem g_Le_add_25 : SiteG k_Le_add 25 2 3 := ⟨21, 4, R_Le, "PhotoModels$Lengths", F_Le, by decide +kernel, tx1 161 rfl rfl, i_Le, rfl, rfl, by decide⟩
theorem d_Le_add_28 : decode k_Le_add.code 28 = .ok (.iload_n 3, 1) := by decide +kernel
theorem d_Le_add_29 : decode k_Le_add.code 29 = .ok (.iastore, 1) := by decide +kernel
theorem d_Le_add_30 : decode k_Le_add.code 30 = .ok (.aload_n 0, 1) := by decide +kernel
theorem d_Le_add_31 : decode k_Le_add.code 31 = .ok (.dup, 1) := by decide +kernel
theorem g_Le_add_32 : SiteG k_Le_add 32 2 3 := ⟨21, 4, R_Le, "PhotoModels$Lengths", F_Le, by decide +kernel, tx1 161 rfl rfl, i_Le, rfl, rfl, by decide⟩
theorem d_Le_add_35 : decode k_Le_add.code 35 = .ok (.iconst 1, 1) := by decide +kernel
theorem d_Le_add_36 : decode k_Le_add.code 36 = .ok (.iadd, 1) := by decide +kernel
theorem p_Le_add_37 : SiteP k_Le_add 37 2 3 .int := ⟨21, 4, R_Le, "PhotoModels$Lengths", F_Le, t_Le, t_Le_ok, n_Le, by decide +kernel, tx1 161 rfl rfl, i_Le, rfl, Or.inl rfl, rfl, by decide, rfl⟩
theorem d_Le_add_40 : decode k_Le_add.code 40 = .ok (.aload_n 0, 1) := by decide +kernel
theorem g_Le_add_41 : SiteG k_Le_add 41 2 3 := ⟨21, 4, R_Le, "PhotoModels$Lengths", F_Le, by decide +kernel, tx1 161 rfl rfl, i_Le, rfl, rfl, by decide⟩
theorem d_Le_add_44 : decode k_Le_add.code 44 = .ok (.ireturn, 1) := by decide +kernel
theorem d_Le_fraction_0 : decode k_Le_fraction.code 0 = .ok (.lconst 0, 1) := by decide +kernel
theorem d_Le_fraction_1 : decode k_Le_fraction.code 1 = .ok (.lstore_n 3, 1) := by decide +kernel
theorem d_Le_fraction_2 : decode k_Le_fraction.code 2 = .ok (.lconst 0, 1) := by decide +kernel
theorem d_Le_fraction_3 : decode k_Le_fraction.code 3 = .ok (.lstore 5, 2) := by decide +kernel
theorem d_Le_fraction_5 : decode k_Le_fraction.code 5 = .ok (.iconst 0, 1) := by decide +kernel
theorem d_Le_fraction_6 : decode k_Le_fraction.code 6 = .ok (.istore 7, 2) := by decide +kernel
theorem d_Le_fraction_8 : decode k_Le_fraction.code 8 = .ok (.iload 7, 2) := by decide +kernel
theorem d_Le_fraction_10 : decode k_Le_fraction.code 10 = .ok (.aload_n 0, 1) := by decide +kernel
theorem g_Le_fraction_11 : SiteG k_Le_fraction 11 2 3 := ⟨21, 4, R_Le, "PhotoModels$Lengths", F_Le, by decide +kernel, tx1 161 rfl rfl, i_Le, rfl, rfl, by decide⟩
theorem d_Le_fraction_14 : decode k_Le_fraction.code 14 = .ok (.if_icmp .ge 53, 3) := by decide +kernel
theorem d_Le_fraction_17 : decode k_Le_fraction.code 17 = .ok (.aload_n 1, 1) := by decide +kernel
theorem d_Le_fraction_18 : decode k_Le_fraction.code 18 = .ok (.aload_n 0, 1) := by decide +kernel
theorem g_Le_fraction_19 : SiteG k_Le_fraction 19 2 0 := ⟨9, 4, R_Le, "PhotoModels$Lengths", F_Le, by decide +kernel, tx1 158 rfl rfl, i_Le, rfl, rfl, by decide⟩
theorem d_Le_fraction_22 : decode k_Le_fraction.code 22 = .ok (.iload 7, 2) := by decide +kernel
theorem d_Le_fraction_24 : decode k_Le_fraction.code 24 = .ok (.iaload, 1) := by decide +kernel
theorem d_Le_fraction_25 : decode k_Le_fraction.code 25 = .ok (.aload_n 0, 1) := by decide +kernel
theorem g_Le_fraction_26 : SiteG k_Le_fraction 26 2 1 := ⟨15, 4, R_Le, "PhotoModels$Lengths", F_Le, by decide +kernel, tx1 159 rfl rfl, i_Le, rfl, rfl, by decide⟩
theorem d_Le_fraction_29 : decode k_Le_fraction.code 29 = .ok (.iload 7, 2) := by decide +kernel
theorem d_Le_fraction_31 : decode k_Le_fraction.code 31 = .ok (.iaload, 1) := by decide +kernel
theorem s_Le_fraction_32 : SiteS k_Le_fraction k_Le_distance 32 3 := ⟨25, by decide +kernel, ⟨kw_Le_distance, tx1 8 rfl rfl, by decide, by decide⟩, Or.inl (tx3 167 rfl rfl), tx3 168 rfl rfl, ⟨by decide +kernel, by decide +kernel⟩, np_Le_distance⟩
theorem d_Le_fraction_35 : decode k_Le_fraction.code 35 = .ok (.lstore 8, 2) := by decide +kernel
theorem d_Le_fraction_37 : decode k_Le_fraction.code 37 = .ok (.lload_n 3, 1) := by decide +kernel
theorem d_Le_fraction_38 : decode k_Le_fraction.code 38 = .ok (.aload_n 0, 1) := by decide +kernel
theorem g_Le_fraction_39 : SiteG k_Le_fraction 39 2 2 := ⟨18, 4, R_Le, "PhotoModels$Lengths", F_Le, by decide +kernel, tx1 160 rfl rfl, i_Le, rfl, rfl, by decide⟩
theorem d_Le_fraction_42 : decode k_Le_fraction.code 42 = .ok (.iload 7, 2) := by decide +kernel
theorem d_Le_fraction_44 : decode k_Le_fraction.code 44 = .ok (.iaload, 1) := by decide +kernel
theorem d_Le_fraction_45 : decode k_Le_fraction.code 45 = .ok (.i2l, 1) := by decide +kernel
theorem d_Le_fraction_46 : decode k_Le_fraction.code 46 = .ok (.lload 8, 2) := by decide +kernel
theorem d_Le_fraction_48 : decode k_Le_fraction.code 48 = .ok (.lmul, 1) := by decide +kernel
theorem d_Le_fraction_49 : decode k_Le_fraction.code 49 = .ok (.ladd, 1) := by decide +kernel
theorem d_Le_fraction_50 : decode k_Le_fraction.code 50 = .ok (.lstore_n 3, 1) := by decide +kernel
theorem d_Le_fraction_51 : decode k_Le_fraction.code 51 = .ok (.lload 5, 2) := by decide +kernel
theorem d_Le_fraction_53 : decode k_Le_fraction.code 53 = .ok (.lload 8, 2) := by decide +kernel
theorem d_Le_fraction_55 : decode k_Le_fraction.code 55 = .ok (.lload 8, 2) := by decide +kernel
theorem d_Le_fraction_57 : decode k_Le_fraction.code 57 = .ok (.lmul, 1) := by decide +kernel
theorem d_Le_fraction_58 : decode k_Le_fraction.code 58 = .ok (.ladd, 1) := by decide +kernel
theorem d_Le_fraction_59 : decode k_Le_fraction.code 59 = .ok (.lstore 5, 2) := by decide +kernel
theorem d_Le_fraction_61 : decode k_Le_fraction.code 61 = .ok (.iinc 7 1, 3) := by decide +kernel
theorem d_Le_fraction_64 : decode k_Le_fraction.code 64 = .ok (.goto (-56), 3) := by decide +kernel
theorem d_Le_fraction_67 : decode k_Le_fraction.code 67 = .ok (.lload_n 3, 1) := by decide +kernel
theorem d_Le_fraction_68 : decode k_Le_fraction.code 68 = .ok (.lload 5, 2) := by decide +kernel
theorem s_Le_fraction_70 : SiteS k_Le_fraction k_Le_commonDivisor 70 2 := ⟨29, by decide +kernel, ⟨kw_Le_commonDivisor, tx1 8 rfl rfl, by decide, by decide⟩, Or.inl (tx3 174 rfl rfl), tx3 175 rfl rfl, ⟨by decide +kernel, by decide +kernel⟩, np_Le_commonDivisor⟩
theorem d_Le_fraction_73 : decode k_Le_fraction.code 73 = .ok (.lstore 7, 2) := by decide +kernel
theorem d_Le_fraction_75 : decode k_Le_fraction.code 75 = .ok (.lload 7, 2) := by decide +kernel
theorem d_Le_fraction_77 : decode k_Le_fraction.code 77 = .ok (.lconst 0, 1) := by decide +kernel
theorem d_Le_fraction_78 : decode k_Le_fraction.code 78 = .ok (.lcmp, 1) := by decide +kernel
theorem d_Le_fraction_79 : decode k_Le_fraction.code 79 = .ok (.ifCond .ne 13, 3) := by decide +kernel
theorem d_Le_fraction_82 : decode k_Le_fraction.code 82 = .ok (.iload_n 2, 1) := by decide +kernel
theorem d_Le_fraction_83 : decode k_Le_fraction.code 83 = .ok (.ifCond .ne 7, 3) := by decide +kernel
theorem d_Le_fraction_86 : decode k_Le_fraction.code 86 = .ok (.lconst 0, 1) := by decide +kernel
theorem d_Le_fraction_87 : decode k_Le_fraction.code 87 = .ok (.goto 4, 3) := by decide +kernel
theorem d_Le_fraction_90 : decode k_Le_fraction.code 90 = .ok (.lconst 1, 1) := by decide +kernel
theorem d_Le_fraction_91 : decode k_Le_fraction.code 91 = .ok (.lreturn, 1) := by decide +kernel
theorem d_Le_fraction_92 : decode k_Le_fraction.code 92 = .ok (.iload_n 2, 1) := by decide +kernel
theorem d_Le_fraction_93 : decode k_Le_fraction.code 93 = .ok (.ifCond .ne 7, 3) := by decide +kernel
theorem d_Le_fraction_96 : decode k_Le_fraction.code 96 = .ok (.lload_n 3, 1) := by decide +kernel
theorem d_Le_fraction_97 : decode k_Le_fraction.code 97 = .ok (.goto 5, 3) := by decide +kernel
theorem d_Le_fraction_100 : decode k_Le_fraction.code 100 = .ok (.lload 5, 2) := by decide +kernel
theorem d_Le_fraction_102 : decode k_Le_fraction.code 102 = .ok (.lload 7, 2) := by decide +kernel
theorem d_Le_fraction_104 : decode k_Le_fraction.code 104 = .ok (.ldiv, 1) := by decide +kernel
theorem d_Le_fraction_105 : decode k_Le_fraction.code 105 = .ok (.lreturn, 1) := by decide +kernel
theorem d_Le_distance_0 : decode k_Le_distance.code 0 = .ok (.aload_n 0, 1) := by decide +kernel
theorem d_Le_distance_1 : decode k_Le_distance.code 1 = .ok (.iload_n 1, 1) := by decide +kernel
theorem d_Le_distance_2 : decode k_Le_distance.code 2 = .ok (.iconst 0, 1) := by decide +kernel
theorem s_Le_distance_3 : SiteV k_Le_distance k_Ad_position 3 0 2 := ⟨33, (R_Ad, F_Ad, 4), by decide +kernel, ⟨kw_Ad_position, tx1 7 rfl rfl, by decide, by decide⟩, tx3 170 rfl rfl, tx2 20 rfl rfl, tx2 21 rfl rfl, rfl, ⟨by decide +kernel, by decide +kernel⟩, np_Ad_position⟩
theorem d_Le_distance_6 : decode k_Le_distance.code 6 = .ok (.i2l, 1) := by decide +kernel
theorem d_Le_distance_7 : decode k_Le_distance.code 7 = .ok (.aload_n 0, 1) := by decide +kernel
theorem d_Le_distance_8 : decode k_Le_distance.code 8 = .ok (.iload_n 2, 1) := by decide +kernel
theorem d_Le_distance_9 : decode k_Le_distance.code 9 = .ok (.iconst 0, 1) := by decide +kernel
theorem s_Le_distance_10 : SiteV k_Le_distance k_Ad_position 10 0 2 := ⟨33, (R_Ad, F_Ad, 4), by decide +kernel, ⟨kw_Ad_position, tx1 7 rfl rfl, by decide, by decide⟩, tx3 170 rfl rfl, tx2 20 rfl rfl, tx2 21 rfl rfl, rfl, ⟨by decide +kernel, by decide +kernel⟩, np_Ad_position⟩
theorem d_Le_distance_13 : decode k_Le_distance.code 13 = .ok (.i2l, 1) := by decide +kernel
theorem d_Le_distance_14 : decode k_Le_distance.code 14 = .ok (.lsub, 1) := by decide +kernel
theorem d_Le_distance_15 : decode k_Le_distance.code 15 = .ok (.lstore_n 3, 1) := by decide +kernel
theorem d_Le_distance_16 : decode k_Le_distance.code 16 = .ok (.aload_n 0, 1) := by decide +kernel
theorem d_Le_distance_17 : decode k_Le_distance.code 17 = .ok (.iload_n 1, 1) := by decide +kernel
theorem d_Le_distance_18 : decode k_Le_distance.code 18 = .ok (.iconst 1, 1) := by decide +kernel
theorem s_Le_distance_19 : SiteV k_Le_distance k_Ad_position 19 0 2 := ⟨33, (R_Ad, F_Ad, 4), by decide +kernel, ⟨kw_Ad_position, tx1 7 rfl rfl, by decide, by decide⟩, tx3 170 rfl rfl, tx2 20 rfl rfl, tx2 21 rfl rfl, rfl, ⟨by decide +kernel, by decide +kernel⟩, np_Ad_position⟩
theorem d_Le_distance_22 : decode k_Le_distance.code 22 = .ok (.i2l, 1) := by decide +kernel
theorem d_Le_distance_23 : decode k_Le_distance.code 23 = .ok (.aload_n 0, 1) := by decide +kernel
theorem d_Le_distance_24 : decode k_Le_distance.code 24 = .ok (.iload_n 2, 1) := by decide +kernel
theorem d_Le_distance_25 : decode k_Le_distance.code 25 = .ok (.iconst 1, 1) := by decide +kernel
theorem s_Le_distance_26 : SiteV k_Le_distance k_Ad_position 26 0 2 := ⟨33, (R_Ad, F_Ad, 4), by decide +kernel, ⟨kw_Ad_position, tx1 7 rfl rfl, by decide, by decide⟩, tx3 170 rfl rfl, tx2 20 rfl rfl, tx2 21 rfl rfl, rfl, ⟨by decide +kernel, by decide +kernel⟩, np_Ad_position⟩
theorem d_Le_distance_29 : decode k_Le_distance.code 29 = .ok (.i2l, 1) := by decide +kernel
theorem d_Le_distance_30 : decode k_Le_distance.code 30 = .ok (.lsub, 1) := by decide +kernel
theorem d_Le_distance_31 : decode k_Le_distance.code 31 = .ok (.lstore 5, 2) := by decide +kernel
theorem d_Le_distance_33 : decode k_Le_distance.code 33 = .ok (.lload_n 3, 1) := by decide +kernel
theorem d_Le_distance_34 : decode k_Le_distance.code 34 = .ok (.lload_n 3, 1) := by decide +kernel
theorem d_Le_distance_35 : decode k_Le_distance.code 35 = .ok (.lmul, 1) := by decide +kernel
theorem d_Le_distance_36 : decode k_Le_distance.code 36 = .ok (.lload 5, 2) := by decide +kernel
theorem d_Le_distance_38 : decode k_Le_distance.code 38 = .ok (.lload 5, 2) := by decide +kernel
theorem d_Le_distance_40 : decode k_Le_distance.code 40 = .ok (.lmul, 1) := by decide +kernel
theorem d_Le_distance_41 : decode k_Le_distance.code 41 = .ok (.ladd, 1) := by decide +kernel
theorem s_Le_distance_42 : SiteS k_Le_distance k_Le_rootDown 42 1 := ⟨39, by decide +kernel, ⟨kw_Le_rootDown, tx1 8 rfl rfl, by decide, by decide⟩, Or.inl (tx3 171 rfl rfl), tx3 172 rfl rfl, ⟨by decide +kernel, by decide +kernel⟩, np_Le_rootDown⟩
theorem d_Le_distance_45 : decode k_Le_distance.code 45 = .ok (.lreturn, 1) := by decide +kernel
theorem d_Le_rootDown_0 : decode k_Le_rootDown.code 0 = .ok (.lconst 0, 1) := by decide +kernel
theorem d_Le_rootDown_1 : decode k_Le_rootDown.code 1 = .ok (.lstore_n 2, 1) := by decide +kernel
theorem d_Le_rootDown_2 : decode k_Le_rootDown.code 2 = .ok (.bipush 30, 2) := by decide +kernel
theorem d_Le_rootDown_4 : decode k_Le_rootDown.code 4 = .ok (.istore 4, 2) := by decide +kernel
theorem d_Le_rootDown_6 : decode k_Le_rootDown.code 6 = .ok (.iload 4, 2) := by decide +kernel
theorem d_Le_rootDown_8 : decode k_Le_rootDown.code 8 = .ok (.ifCond .lt 30, 3) := by decide +kernel
theorem d_Le_rootDown_11 : decode k_Le_rootDown.code 11 = .ok (.lload_n 2, 1) := by decide +kernel
theorem d_Le_rootDown_12 : decode k_Le_rootDown.code 12 = .ok (.lconst 1, 1) := by decide +kernel
theorem d_Le_rootDown_13 : decode k_Le_rootDown.code 13 = .ok (.iload 4, 2) := by decide +kernel
theorem d_Le_rootDown_15 : decode k_Le_rootDown.code 15 = .ok (.lshl, 1) := by decide +kernel
theorem d_Le_rootDown_16 : decode k_Le_rootDown.code 16 = .ok (.ladd, 1) := by decide +kernel
theorem d_Le_rootDown_17 : decode k_Le_rootDown.code 17 = .ok (.lstore 5, 2) := by decide +kernel
theorem d_Le_rootDown_19 : decode k_Le_rootDown.code 19 = .ok (.lload 5, 2) := by decide +kernel
theorem d_Le_rootDown_21 : decode k_Le_rootDown.code 21 = .ok (.lload 5, 2) := by decide +kernel
theorem d_Le_rootDown_23 : decode k_Le_rootDown.code 23 = .ok (.lmul, 1) := by decide +kernel
theorem d_Le_rootDown_24 : decode k_Le_rootDown.code 24 = .ok (.lload_n 0, 1) := by decide +kernel
theorem d_Le_rootDown_25 : decode k_Le_rootDown.code 25 = .ok (.lcmp, 1) := by decide +kernel
theorem d_Le_rootDown_26 : decode k_Le_rootDown.code 26 = .ok (.ifCond .gt 6, 3) := by decide +kernel
theorem d_Le_rootDown_29 : decode k_Le_rootDown.code 29 = .ok (.lload 5, 2) := by decide +kernel
theorem d_Le_rootDown_31 : decode k_Le_rootDown.code 31 = .ok (.lstore_n 2, 1) := by decide +kernel
theorem d_Le_rootDown_32 : decode k_Le_rootDown.code 32 = .ok (.iinc 4 (-1), 3) := by decide +kernel
theorem d_Le_rootDown_35 : decode k_Le_rootDown.code 35 = .ok (.goto (-29), 3) := by decide +kernel
theorem d_Le_rootDown_38 : decode k_Le_rootDown.code 38 = .ok (.lload_n 2, 1) := by decide +kernel
theorem d_Le_rootDown_39 : decode k_Le_rootDown.code 39 = .ok (.lreturn, 1) := by decide +kernel
theorem d_Le_commonDivisor_0 : decode k_Le_commonDivisor.code 0 = .ok (.lload_n 0, 1) := by decide +kernel
theorem d_Le_commonDivisor_1 : decode k_Le_commonDivisor.code 1 = .ok (.lstore 4, 2) := by decide +kernel
theorem d_Le_commonDivisor_3 : decode k_Le_commonDivisor.code 3 = .ok (.lload_n 2, 1) := by decide +kernel
theorem d_Le_commonDivisor_4 : decode k_Le_commonDivisor.code 4 = .ok (.lstore 6, 2) := by decide +kernel
theorem d_Le_commonDivisor_6 : decode k_Le_commonDivisor.code 6 = .ok (.iconst 0, 1) := by decide +kernel
theorem d_Le_commonDivisor_7 : decode k_Le_commonDivisor.code 7 = .ok (.istore 8, 2) := by decide +kernel
theorem d_Le_commonDivisor_9 : decode k_Le_commonDivisor.code 9 = .ok (.iload 8, 2) := by decide +kernel
theorem d_Le_commonDivisor_11 : decode k_Le_commonDivisor.code 11 = .ok (.bipush 100, 2) := by decide +kernel
theorem d_Le_commonDivisor_13 : decode k_Le_commonDivisor.code 13 = .ok (.if_icmp .ge 31, 3) := by decide +kernel
theorem d_Le_commonDivisor_16 : decode k_Le_commonDivisor.code 16 = .ok (.lload 6, 2) := by decide +kernel
theorem d_Le_commonDivisor_18 : decode k_Le_commonDivisor.code 18 = .ok (.lconst 0, 1) := by decide +kernel
theorem d_Le_commonDivisor_19 : decode k_Le_commonDivisor.code 19 = .ok (.lcmp, 1) := by decide +kernel
theorem d_Le_commonDivisor_20 : decode k_Le_commonDivisor.code 20 = .ok (.ifCond .eq 24, 3) := by decide +kernel
theorem d_Le_commonDivisor_23 : decode k_Le_commonDivisor.code 23 = .ok (.lload 4, 2) := by decide +kernel
theorem d_Le_commonDivisor_25 : decode k_Le_commonDivisor.code 25 = .ok (.lload 6, 2) := by decide +kernel
theorem d_Le_commonDivisor_27 : decode k_Le_commonDivisor.code 27 = .ok (.lrem, 1) := by decide +kernel
theorem d_Le_commonDivisor_28 : decode k_Le_commonDivisor.code 28 = .ok (.lstore 9, 2) := by decide +kernel
theorem d_Le_commonDivisor_30 : decode k_Le_commonDivisor.code 30 = .ok (.lload 6, 2) := by decide +kernel
theorem d_Le_commonDivisor_32 : decode k_Le_commonDivisor.code 32 = .ok (.lstore 4, 2) := by decide +kernel
theorem d_Le_commonDivisor_34 : decode k_Le_commonDivisor.code 34 = .ok (.lload 9, 2) := by decide +kernel
theorem d_Le_commonDivisor_36 : decode k_Le_commonDivisor.code 36 = .ok (.lstore 6, 2) := by decide +kernel
theorem d_Le_commonDivisor_38 : decode k_Le_commonDivisor.code 38 = .ok (.iinc 8 1, 3) := by decide +kernel
theorem d_Le_commonDivisor_41 : decode k_Le_commonDivisor.code 41 = .ok (.goto (-32), 3) := by decide +kernel
theorem d_Le_commonDivisor_44 : decode k_Le_commonDivisor.code 44 = .ok (.lload 4, 2) := by decide +kernel
theorem d_Le_commonDivisor_46 : decode k_Le_commonDivisor.code 46 = .ok (.lreturn, 1) := by decide +kernel
theorem d_Ph_value_0 : decode k_Ph_value.code 0 = .ok (.aload_n 0, 1) := by decide +kernel
theorem g_Ph_value_1 : SiteG k_Ph_value 1 3 2 := ⟨18, 3, R_Ph, "PhotoModels$Photos", F_Ph, by decide +kernel, tx1 44 rfl rfl, i_Ph, rfl, rfl, by decide⟩
theorem d_Ph_value_4 : decode k_Ph_value.code 4 = .ok (.aload_n 0, 1) := by decide +kernel
theorem d_Ph_value_5 : decode k_Ph_value.code 5 = .ok (.iload_n 1, 1) := by decide +kernel
theorem d_Ph_value_6 : decode k_Ph_value.code 6 = .ok (.iload_n 2, 1) := by decide +kernel
theorem d_Ph_value_7 : decode k_Ph_value.code 7 = .ok (.iload_n 3, 1) := by decide +kernel
theorem s_Ph_value_8 : SiteV k_Ph_value k_Ph_index 8 3 3 := ⟨26, (R_Ph, F_Ph, 3), by decide +kernel, ⟨kw_Ph_index, tx1 3 rfl rfl, by decide, by decide⟩, tx2 144 rfl rfl, tx2 146 rfl rfl, twp 1 rfl rfl, rfl, ⟨by decide +kernel, by decide +kernel⟩, np_Ph_index⟩
theorem d_Ph_value_11 : decode k_Ph_value.code 11 = .ok (.iaload, 1) := by decide +kernel
theorem d_Ph_value_12 : decode k_Ph_value.code 12 = .ok (.ireturn, 1) := by decide +kernel
theorem d_Ph_width_0 : decode k_Ph_width.code 0 = .ok (.aload_n 0, 1) := by decide +kernel
theorem g_Ph_width_1 : SiteG k_Ph_width 1 3 0 := ⟨9, 3, R_Ph, "PhotoModels$Photos", F_Ph, by decide +kernel, tx1 42 rfl rfl, i_Ph, rfl, rfl, by decide⟩
theorem d_Ph_width_4 : decode k_Ph_width.code 4 = .ok (.ireturn, 1) := by decide +kernel
theorem d_Ph_height_0 : decode k_Ph_height.code 0 = .ok (.aload_n 0, 1) := by decide +kernel
theorem g_Ph_height_1 : SiteG k_Ph_height 1 3 1 := ⟨15, 3, R_Ph, "PhotoModels$Photos", F_Ph, by decide +kernel, tx1 43 rfl rfl, i_Ph, rfl, rfl, by decide⟩
theorem d_Ph_height_4 : decode k_Ph_height.code 4 = .ok (.ireturn, 1) := by decide +kernel
theorem d_Pl_spares_0 : decode k_Pl_spares.code 0 = .ok (.aload_n 0, 1) := by decide +kernel
theorem g_Pl_spares_1 : SiteG k_Pl_spares 1 4 4 := ⟨26, 5, R_Pl, "PhotoModels$Places", F_Pl, by decide +kernel, tx1 91 rfl rfl, i_Pl, rfl, rfl, by decide⟩
theorem d_Pl_spares_4 : decode k_Pl_spares.code 4 = .ok (.ireturn, 1) := by decide +kernel
