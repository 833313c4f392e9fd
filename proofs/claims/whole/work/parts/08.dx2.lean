theorem d_Ag_init_0 : decode k_Ag_init.code 0 = .ok (.aload_n 0, 1) := by decide +kernel
theorem s_Ag_init_1 : SiteO k_Ag_init 1 := ⟨3, by decide +kernel, tx1 110 rfl rfl, tx1 25 rfl rfl, tx1 26 rfl rfl, by decide, by decide⟩
theorem d_Ag_init_4 : decode k_Ag_init.code 4 = .ok (.aload_n 0, 1) := by decide +kernel
theorem d_Ag_init_5 : decode k_Ag_init.code 5 = .ok (.bipush 12, 2) := by decide +kernel
theorem d_Ag_init_7 : decode k_Ag_init.code 7 = .ok (.newarray .int, 2) := by decide +kernel
theorem p_Ag_init_9 : SiteP k_Ag_init 9 1 1 (.array .int) := ⟨9, 7, R_Ag, "PhotoModels$Agreement", F_Ag, t_Ag, t_Ag_ok, n_Ag, by decide +kernel, tx1 112 rfl rfl, i_Ag, rfl, Or.inr ⟨rfl, rfl, rfl⟩, rfl, by decide, rfl⟩
theorem d_Ag_init_12 : decode k_Ag_init.code 12 = .ok (.aload_n 0, 1) := by decide +kernel
theorem d_Ag_init_13 : decode k_Ag_init.code 13 = .ok (.bipush 12, 2) := by decide +kernel
theorem d_Ag_init_15 : decode k_Ag_init.code 15 = .ok (.newarray .int, 2) := by decide +kernel
theorem p_Ag_init_17 : SiteP k_Ag_init 17 1 2 (.array .int) := ⟨15, 7, R_Ag, "PhotoModels$Agreement", F_Ag, t_Ag, t_Ag_ok, n_Ag, by decide +kernel, tx1 113 rfl rfl, i_Ag, rfl, Or.inr ⟨rfl, rfl, rfl⟩, rfl, by decide, rfl⟩
theorem d_Ag_init_20 : decode k_Ag_init.code 20 = .ok (.aload_n 0, 1) := by decide +kernel
theorem d_Ag_init_21 : decode k_Ag_init.code 21 = .ok (.iload_n 1, 1) := by decide +kernel
theorem p_Ag_init_22 : SiteP k_Ag_init 22 1 0 .int := ⟨18, 7, R_Ag, "PhotoModels$Agreement", F_Ag, t_Ag, t_Ag_ok, n_Ag, by decide +kernel, tx1 111 rfl rfl, i_Ag, rfl, Or.inr ⟨rfl, rfl, rfl⟩, rfl, by decide, rfl⟩
theorem d_Ag_init_25 : decode k_Ag_init.code 25 = .ok (.return_, 1) := by decide +kernel
theorem d_Ad_init_0 : decode k_Ad_init.code 0 = .ok (.aload_n 0, 1) := by decide +kernel
theorem s_Ad_init_1 : SiteO k_Ad_init 1 := ⟨3, by decide +kernel, tx1 138 rfl rfl, tx1 25 rfl rfl, tx1 26 rfl rfl, by decide, by decide⟩
theorem d_Ad_init_4 : decode k_Ad_init.code 4 = .ok (.aload_n 0, 1) := by decide +kernel
theorem d_Ad_init_5 : decode k_Ad_init.code 5 = .ok (.bipush 24, 2) := by decide +kernel
theorem d_Ad_init_7 : decode k_Ad_init.code 7 = .ok (.newarray .int, 2) := by decide +kernel
theorem p_Ad_init_9 : SiteP k_Ad_init 9 0 0 (.array .int) := ⟨9, 4, R_Ad, "PhotoModels$Adjustment", F_Ad, t_Ad, t_Ad_ok, n_Ad, by decide +kernel, tx1 139 rfl rfl, i_Ad, rfl, Or.inr ⟨rfl, rfl, rfl⟩, rfl, by decide, rfl⟩
theorem d_Ad_init_12 : decode k_Ad_init.code 12 = .ok (.aload_n 0, 1) := by decide +kernel
theorem d_Ad_init_13 : decode k_Ad_init.code 13 = .ok (.bipush 8, 2) := by decide +kernel
theorem d_Ad_init_15 : decode k_Ad_init.code 15 = .ok (.newarray .int, 2) := by decide +kernel
theorem p_Ad_init_17 : SiteP k_Ad_init 17 0 1 (.array .int) := ⟨15, 4, R_Ad, "PhotoModels$Adjustment", F_Ad, t_Ad, t_Ad_ok, n_Ad, by decide +kernel, tx1 140 rfl rfl, i_Ad, rfl, Or.inr ⟨rfl, rfl, rfl⟩, rfl, by decide, rfl⟩
theorem d_Ad_init_20 : decode k_Ad_init.code 20 = .ok (.aload_n 0, 1) := by decide +kernel
theorem d_Ad_init_21 : decode k_Ad_init.code 21 = .ok (.bipush 24, 2) := by decide +kernel
theorem d_Ad_init_23 : decode k_Ad_init.code 23 = .ok (.newarray .int, 2) := by decide +kernel
theorem p_Ad_init_25 : SiteP k_Ad_init 25 0 2 (.array .int) := ⟨18, 4, R_Ad, "PhotoModels$Adjustment", F_Ad, t_Ad, t_Ad_ok, n_Ad, by decide +kernel, tx1 141 rfl rfl, i_Ad, rfl, Or.inr ⟨rfl, rfl, rfl⟩, rfl, by decide, rfl⟩
theorem d_Ad_init_28 : decode k_Ad_init.code 28 = .ok (.aload_n 0, 1) := by decide +kernel
theorem d_Ad_init_29 : decode k_Ad_init.code 29 = .ok (.bipush 8, 2) := by decide +kernel
theorem d_Ad_init_31 : decode k_Ad_init.code 31 = .ok (.newarray .int, 2) := by decide +kernel
theorem p_Ad_init_33 : SiteP k_Ad_init 33 0 3 (.array .int) := ⟨21, 4, R_Ad, "PhotoModels$Adjustment", F_Ad, t_Ad, t_Ad_ok, n_Ad, by decide +kernel, tx1 142 rfl rfl, i_Ad, rfl, Or.inr ⟨rfl, rfl, rfl⟩, rfl, by decide, rfl⟩
theorem d_Ad_init_36 : decode k_Ad_init.code 36 = .ok (.return_, 1) := by decide +kernel
theorem d_Re_init_0 : decode k_Re_init.code 0 = .ok (.aload_n 0, 1) := by decide +kernel
theorem s_Re_init_1 : SiteO k_Re_init 1 := ⟨3, by decide +kernel, tx1 176 rfl rfl, tx1 25 rfl rfl, tx1 26 rfl rfl, by decide, by decide⟩
theorem d_Re_init_4 : decode k_Re_init.code 4 = .ok (.aload_n 0, 1) := by decide +kernel
theorem d_Re_init_5 : decode k_Re_init.code 5 = .ok (.iload_n 1, 1) := by decide +kernel
theorem p_Re_init_6 : SiteP k_Re_init 6 5 0 .int := ⟨9, 10, R_Re, "PhotoModels$Relief", F_Re, t_Re, t_Re_ok, n_Re, by decide +kernel, tx1 177 rfl rfl, i_Re, rfl, Or.inr ⟨rfl, rfl, rfl⟩, rfl, by decide, rfl⟩
theorem d_Re_init_9 : decode k_Re_init.code 9 = .ok (.aload_n 0, 1) := by decide +kernel
theorem d_Re_init_10 : decode k_Re_init.code 10 = .ok (.iload_n 2, 1) := by decide +kernel
theorem p_Re_init_11 : SiteP k_Re_init 11 5 1 .int := ⟨15, 10, R_Re, "PhotoModels$Relief", F_Re, t_Re, t_Re_ok, n_Re, by decide +kernel, tx1 178 rfl rfl, i_Re, rfl, Or.inr ⟨rfl, rfl, rfl⟩, rfl, by decide, rfl⟩
theorem d_Re_init_14 : decode k_Re_init.code 14 = .ok (.aload_n 0, 1) := by decide +kernel
theorem d_Re_init_15 : decode k_Re_init.code 15 = .ok (.iload_n 1, 1) := by decide +kernel
theorem d_Re_init_16 : decode k_Re_init.code 16 = .ok (.iload_n 2, 1) := by decide +kernel
theorem d_Re_init_17 : decode k_Re_init.code 17 = .ok (.imul, 1) := by decide +kernel
theorem d_Re_init_18 : decode k_Re_init.code 18 = .ok (.newarray .int, 2) := by decide +kernel
theorem p_Re_init_20 : SiteP k_Re_init 20 5 2 (.array .int) := ⟨18, 10, R_Re, "PhotoModels$Relief", F_Re, t_Re, t_Re_ok, n_Re, by decide +kernel, tx1 179 rfl rfl, i_Re, rfl, Or.inr ⟨rfl, rfl, rfl⟩, rfl, by decide, rfl⟩
theorem d_Re_init_23 : decode k_Re_init.code 23 = .ok (.aload_n 0, 1) := by decide +kernel
theorem d_Re_init_24 : decode k_Re_init.code 24 = .ok (.iload_n 1, 1) := by decide +kernel
theorem d_Re_init_25 : decode k_Re_init.code 25 = .ok (.iload_n 2, 1) := by decide +kernel
theorem d_Re_init_26 : decode k_Re_init.code 26 = .ok (.imul, 1) := by decide +kernel
theorem d_Re_init_27 : decode k_Re_init.code 27 = .ok (.newarray .int, 2) := by decide +kernel
theorem p_Re_init_29 : SiteP k_Re_init 29 5 3 (.array .int) := ⟨22, 10, R_Re, "PhotoModels$Relief", F_Re, t_Re, t_Re_ok, n_Re, by decide +kernel, tx1 180 rfl rfl, i_Re, rfl, Or.inr ⟨rfl, rfl, rfl⟩, rfl, by decide, rfl⟩
theorem d_Re_init_32 : decode k_Re_init.code 32 = .ok (.aload_n 0, 1) := by decide +kernel
theorem d_Re_init_33 : decode k_Re_init.code 33 = .ok (.iload_n 1, 1) := by decide +kernel
theorem d_Re_init_34 : decode k_Re_init.code 34 = .ok (.bipush 6, 2) := by decide +kernel
theorem d_Re_init_36 : decode k_Re_init.code 36 = .ok (.imul, 1) := by decide +kernel
theorem d_Re_init_37 : decode k_Re_init.code 37 = .ok (.newarray .int, 2) := by decide +kernel
theorem p_Re_init_39 : SiteP k_Re_init 39 5 4 (.array .int) := ⟨25, 10, R_Re, "PhotoModels$Relief", F_Re, t_Re, t_Re_ok, n_Re, by decide +kernel, tx1 181 rfl rfl, i_Re, rfl, Or.inr ⟨rfl, rfl, rfl⟩, rfl, by decide, rfl⟩
theorem d_Re_init_42 : decode k_Re_init.code 42 = .ok (.aload_n 0, 1) := by decide +kernel
theorem d_Re_init_43 : decode k_Re_init.code 43 = .ok (.iload_n 1, 1) := by decide +kernel
theorem d_Re_init_44 : decode k_Re_init.code 44 = .ok (.iconst 2, 1) := by decide +kernel
theorem d_Re_init_45 : decode k_Re_init.code 45 = .ok (.iadd, 1) := by decide +kernel
theorem p_Re_init_46 : SiteP k_Re_init 46 5 5 .int := ⟨28, 10, R_Re, "PhotoModels$Relief", F_Re, t_Re, t_Re_ok, n_Re, by decide +kernel, tx1 182 rfl rfl, i_Re, rfl, Or.inr ⟨rfl, rfl, rfl⟩, rfl, by decide, rfl⟩
theorem d_Re_init_49 : decode k_Re_init.code 49 = .ok (.aload_n 0, 1) := by decide +kernel
theorem d_Re_init_50 : decode k_Re_init.code 50 = .ok (.aload_n 0, 1) := by decide +kernel
theorem g_Re_init_51 : SiteG k_Re_init 51 5 5 := ⟨28, 10, R_Re, "PhotoModels$Relief", F_Re, by decide +kernel, tx1 182 rfl rfl, i_Re, rfl, rfl, by decide⟩
theorem d_Re_init_54 : decode k_Re_init.code 54 = .ok (.iload_n 2, 1) := by decide +kernel
theorem d_Re_init_55 : decode k_Re_init.code 55 = .ok (.iconst 2, 1) := by decide +kernel
theorem d_Re_init_56 : decode k_Re_init.code 56 = .ok (.iadd, 1) := by decide +kernel
theorem d_Re_init_57 : decode k_Re_init.code 57 = .ok (.imul, 1) := by decide +kernel
theorem d_Re_init_58 : decode k_Re_init.code 58 = .ok (.newarray .boolean, 2) := by decide +kernel
theorem p_Re_init_60 : SiteP k_Re_init 60 5 6 (.array .boolean) := ⟨31, 10, R_Re, "PhotoModels$Relief", F_Re, t_Re, t_Re_ok, n_Re, by decide +kernel, tx1 183 rfl rfl, i_Re, rfl, Or.inr ⟨rfl, rfl, rfl⟩, rfl, by decide, rfl⟩
theorem d_Re_init_63 : decode k_Re_init.code 63 = .ok (.aload_n 0, 1) := by decide +kernel
theorem d_Re_init_64 : decode k_Re_init.code 64 = .ok (.iload_n 1, 1) := by decide +kernel
theorem d_Re_init_65 : decode k_Re_init.code 65 = .ok (.iload_n 2, 1) := by decide +kernel
theorem d_Re_init_66 : decode k_Re_init.code 66 = .ok (.imul, 1) := by decide +kernel
theorem d_Re_init_67 : decode k_Re_init.code 67 = .ok (.newarray .int, 2) := by decide +kernel
theorem p_Re_init_69 : SiteP k_Re_init 69 5 7 (.array .int) := ⟨35, 10, R_Re, "PhotoModels$Relief", F_Re, t_Re, t_Re_ok, n_Re, by decide +kernel, tx1 184 rfl rfl, i_Re, rfl, Or.inr ⟨rfl, rfl, rfl⟩, rfl, by decide, rfl⟩
theorem d_Re_init_72 : decode k_Re_init.code 72 = .ok (.return_, 1) := by decide +kernel
theorem d_Ad_total_0 : decode k_Ad_total.code 0 = .ok (.lconst 0, 1) := by decide +kernel
theorem d_Ad_total_1 : decode k_Ad_total.code 1 = .ok (.lstore_n 2, 1) := by decide +kernel
theorem d_Ad_total_2 : decode k_Ad_total.code 2 = .ok (.iconst 0, 1) := by decide +kernel
theorem d_Ad_total_3 : decode k_Ad_total.code 3 = .ok (.istore 4, 2) := by decide +kernel
theorem d_Ad_total_5 : decode k_Ad_total.code 5 = .ok (.iload 4, 2) := by decide +kernel
theorem d_Ad_total_7 : decode k_Ad_total.code 7 = .ok (.aload_n 1, 1) := by decide +kernel
theorem s_Ad_total_8 : SiteV k_Ad_total k_Pl_number 8 4 0 := ⟨41, (R_Pl, F_Pl, 5), by decide +kernel, ⟨kw_Pl_number, tx1 5 rfl rfl, by decide, by decide⟩, tx1 238 rfl rfl, tx1 239 rfl rfl, tx2 0 rfl rfl, rfl, ⟨by decide +kernel, by decide +kernel⟩, np_Pl_number⟩
theorem d_Ad_total_11 : decode k_Ad_total.code 11 = .ok (.if_icmp .ge 28, 3) := by decide +kernel
theorem d_Ad_total_14 : decode k_Ad_total.code 14 = .ok (.aload_n 1, 1) := by decide +kernel
theorem d_Ad_total_15 : decode k_Ad_total.code 15 = .ok (.iload 4, 2) := by decide +kernel
theorem s_Ad_total_17 : SiteV k_Ad_total k_Pl_isSpare 17 4 1 := ⟨47, (R_Pl, F_Pl, 5), by decide +kernel, ⟨kw_Pl_isSpare, tx1 5 rfl rfl, by decide, by decide⟩, tx2 2 rfl rfl, tx2 3 rfl rfl, tx2 4 rfl rfl, rfl, ⟨by decide +kernel, by decide +kernel⟩, np_Pl_isSpare⟩
theorem d_Ad_total_20 : decode k_Ad_total.code 20 = .ok (.ifCond .ne 13, 3) := by decide +kernel
theorem d_Ad_total_23 : decode k_Ad_total.code 23 = .ok (.lload_n 2, 1) := by decide +kernel
theorem d_Ad_total_24 : decode k_Ad_total.code 24 = .ok (.aload_n 0, 1) := by decide +kernel
theorem d_Ad_total_25 : decode k_Ad_total.code 25 = .ok (.aload_n 1, 1) := by decide +kernel
theorem d_Ad_total_26 : decode k_Ad_total.code 26 = .ok (.iload 4, 2) := by decide +kernel
theorem s_Ad_total_28 : SiteV k_Ad_total k_Ad_share 28 0 2 := ⟨51, (R_Ad, F_Ad, 4), by decide +kernel, ⟨kw_Ad_share, tx1 7 rfl rfl, by decide, by decide⟩, tx2 6 rfl rfl, tx2 7 rfl rfl, tx2 8 rfl rfl, rfl, ⟨by decide +kernel, by decide +kernel⟩, np_Ad_share⟩
theorem d_Ad_total_31 : decode k_Ad_total.code 31 = .ok (.ladd, 1) := by decide +kernel
theorem d_Ad_total_32 : decode k_Ad_total.code 32 = .ok (.lstore_n 2, 1) := by decide +kernel
theorem d_Ad_total_33 : decode k_Ad_total.code 33 = .ok (.iinc 4 1, 3) := by decide +kernel
theorem d_Ad_total_36 : decode k_Ad_total.code 36 = .ok (.goto (-31), 3) := by decide +kernel
theorem d_Ad_total_39 : decode k_Ad_total.code 39 = .ok (.lload_n 2, 1) := by decide +kernel
theorem d_Ad_total_40 : decode k_Ad_total.code 40 = .ok (.lreturn, 1) := by decide +kernel
theorem d_Ad_share_0 : decode k_Ad_share.code 0 = .ok (.lconst 0, 1) := by decide +kernel
theorem d_Ad_share_1 : decode k_Ad_share.code 1 = .ok (.lstore_n 3, 1) := by decide +kernel
theorem d_Ad_share_2 : decode k_Ad_share.code 2 = .ok (.iconst 0, 1) := by decide +kernel
theorem d_Ad_share_3 : decode k_Ad_share.code 3 = .ok (.istore 5, 2) := by decide +kernel
theorem d_Ad_share_5 : decode k_Ad_share.code 5 = .ok (.iload 5, 2) := by decide +kernel
theorem d_Ad_share_7 : decode k_Ad_share.code 7 = .ok (.iconst 4, 1) := by decide +kernel
theorem d_Ad_share_8 : decode k_Ad_share.code 8 = .ok (.if_icmp .ge 77, 3) := by decide +kernel
theorem d_Ad_share_11 : decode k_Ad_share.code 11 = .ok (.aload_n 1, 1) := by decide +kernel
theorem d_Ad_share_12 : decode k_Ad_share.code 12 = .ok (.iload_n 2, 1) := by decide +kernel
theorem d_Ad_share_13 : decode k_Ad_share.code 13 = .ok (.iload 5, 2) := by decide +kernel
theorem s_Ad_share_15 : SiteV k_Ad_share k_Pl_isNoted 15 4 2 := ⟨55, (R_Pl, F_Pl, 5), by decide +kernel, ⟨kw_Pl_isNoted, tx1 5 rfl rfl, by decide, by decide⟩, tx2 10 rfl rfl, tx2 11 rfl rfl, tx2 12 rfl rfl, rfl, ⟨by decide +kernel, by decide +kernel⟩, np_Pl_isNoted⟩
theorem d_Ad_share_18 : decode k_Ad_share.code 18 = .ok (.ifCond .eq 61, 3) := by decide +kernel
theorem d_Ad_share_21 : decode k_Ad_share.code 21 = .ok (.iconst 0, 1) := by decide +kernel
theorem d_Ad_share_22 : decode k_Ad_share.code 22 = .ok (.istore 6, 2) := by decide +kernel
theorem d_Ad_share_24 : decode k_Ad_share.code 24 = .ok (.iload 6, 2) := by decide +kernel
theorem d_Ad_share_26 : decode k_Ad_share.code 26 = .ok (.iconst 2, 1) := by decide +kernel
theorem d_Ad_share_27 : decode k_Ad_share.code 27 = .ok (.if_icmp .ge 52, 3) := by decide +kernel
theorem d_Ad_share_30 : decode k_Ad_share.code 30 = .ok (.ldc2_w 59, 3) := by decide +kernel
theorem c_Ad_share_30 : Cond.constantLong k_Ad_share.y.cls 59 1000 ∈ tw := tx2 14 rfl rfl
theorem d_Ad_share_33 : decode k_Ad_share.code 33 = .ok (.aload_n 1, 1) := by decide +kernel
theorem d_Ad_share_34 : decode k_Ad_share.code 34 = .ok (.iload_n 2, 1) := by decide +kernel
theorem d_Ad_share_35 : decode k_Ad_share.code 35 = .ok (.iload 5, 2) := by decide +kernel
theorem d_Ad_share_37 : decode k_Ad_share.code 37 = .ok (.iload 6, 2) := by decide +kernel
theorem s_Ad_share_39 : SiteV k_Ad_share k_Pl_where 39 4 3 := ⟨61, (R_Pl, F_Pl, 5), by decide +kernel, ⟨kw_Pl_where, tx1 5 rfl rfl, by decide, by decide⟩, tx2 15 rfl rfl, tx2 16 rfl rfl, tx2 17 rfl rfl, rfl, ⟨by decide +kernel, by decide +kernel⟩, np_Pl_where⟩
theorem d_Ad_share_42 : decode k_Ad_share.code 42 = .ok (.i2l, 1) := by decide +kernel
theorem d_Ad_share_43 : decode k_Ad_share.code 43 = .ok (.lmul, 1) := by decide +kernel
theorem d_Ad_share_44 : decode k_Ad_share.code 44 = .ok (.aload_n 0, 1) := by decide +kernel
theorem d_Ad_share_45 : decode k_Ad_share.code 45 = .ok (.iload_n 2, 1) := by decide +kernel
theorem d_Ad_share_46 : decode k_Ad_share.code 46 = .ok (.iload 6, 2) := by decide +kernel
theorem s_Ad_share_48 : SiteV k_Ad_share k_Ad_position 48 0 2 := ⟨65, (R_Ad, F_Ad, 4), by decide +kernel, ⟨kw_Ad_position, tx1 7 rfl rfl, by decide, by decide⟩, tx2 19 rfl rfl, tx2 20 rfl rfl, tx2 21 rfl rfl, rfl, ⟨by decide +kernel, by decide +kernel⟩, np_Ad_position⟩
theorem d_Ad_share_51 : decode k_Ad_share.code 51 = .ok (.i2l, 1) := by decide +kernel
theorem d_Ad_share_52 : decode k_Ad_share.code 52 = .ok (.lsub, 1) := by decide +kernel
theorem d_Ad_share_53 : decode k_Ad_share.code 53 = .ok (.aload_n 0, 1) := by decide +kernel
theorem d_Ad_share_54 : decode k_Ad_share.code 54 = .ok (.iload 5, 2) := by decide +kernel
theorem d_Ad_share_56 : decode k_Ad_share.code 56 = .ok (.iload 6, 2) := by decide +kernel
theorem s_Ad_share_58 : SiteV k_Ad_share k_Ad_moved 58 0 2 := ⟨69, (R_Ad, F_Ad, 4), by decide +kernel, ⟨kw_Ad_moved, tx1 7 rfl rfl, by decide, by decide⟩, tx2 23 rfl rfl, tx2 24 rfl rfl, tx2 25 rfl rfl, rfl, ⟨by decide +kernel, by decide +kernel⟩, np_Ad_moved⟩
theorem d_Ad_share_61 : decode k_Ad_share.code 61 = .ok (.i2l, 1) := by decide +kernel
theorem d_Ad_share_62 : decode k_Ad_share.code 62 = .ok (.lsub, 1) := by decide +kernel
theorem d_Ad_share_63 : decode k_Ad_share.code 63 = .ok (.lstore 7, 2) := by decide +kernel
theorem d_Ad_share_65 : decode k_Ad_share.code 65 = .ok (.lload_n 3, 1) := by decide +kernel
theorem d_Ad_share_66 : decode k_Ad_share.code 66 = .ok (.lload 7, 2) := by decide +kernel
theorem d_Ad_share_68 : decode k_Ad_share.code 68 = .ok (.lload 7, 2) := by decide +kernel
theorem d_Ad_share_70 : decode k_Ad_share.code 70 = .ok (.lmul, 1) := by decide +kernel
theorem d_Ad_share_71 : decode k_Ad_share.code 71 = .ok (.ladd, 1) := by decide +kernel
theorem d_Ad_share_72 : decode k_Ad_share.code 72 = .ok (.lstore_n 3, 1) := by decide +kernel
theorem d_Ad_share_73 : decode k_Ad_share.code 73 = .ok (.iinc 6 1, 3) := by decide +kernel
theorem d_Ad_share_76 : decode k_Ad_share.code 76 = .ok (.goto (-52), 3) := by decide +kernel
theorem d_Ad_share_79 : decode k_Ad_share.code 79 = .ok (.iinc 5 1, 3) := by decide +kernel
theorem d_Ad_share_82 : decode k_Ad_share.code 82 = .ok (.goto (-77), 3) := by decide +kernel
theorem d_Ad_share_85 : decode k_Ad_share.code 85 = .ok (.lload_n 3, 1) := by decide +kernel
theorem d_Ad_share_86 : decode k_Ad_share.code 86 = .ok (.lreturn, 1) := by decide +kernel
theorem d_Ad_position_0 : decode k_Ad_position.code 0 = .ok (.aload_n 0, 1) := by decide +kernel
theorem g_Ad_position_1 : SiteG k_Ad_position 1 0 0 := ⟨9, 4, R_Ad, "PhotoModels$Adjustment", F_Ad, by decide +kernel, tx1 139 rfl rfl, i_Ad, rfl, rfl, by decide⟩
theorem d_Ad_position_4 : decode k_Ad_position.code 4 = .ok (.iload_n 1, 1) := by decide +kernel
theorem d_Ad_position_5 : decode k_Ad_position.code 5 = .ok (.iconst 2, 1) := by decide +kernel
theorem d_Ad_position_6 : decode k_Ad_position.code 6 = .ok (.imul, 1) := by decide +kernel
theorem d_Ad_position_7 : decode k_Ad_position.code 7 = .ok (.iload_n 2, 1) := by decide +kernel
theorem d_Ad_position_8 : decode k_Ad_position.code 8 = .ok (.iadd, 1) := by decide +kernel
theorem d_Ad_position_9 : decode k_Ad_position.code 9 = .ok (.iaload, 1) := by decide +kernel
theorem d_Ad_position_10 : decode k_Ad_position.code 10 = .ok (.ireturn, 1) := by decide +kernel
theorem d_Ad_moved_0 : decode k_Ad_moved.code 0 = .ok (.aload_n 0, 1) := by decide +kernel
theorem g_Ad_moved_1 : SiteG k_Ad_moved 1 0 1 := ⟨15, 4, R_Ad, "PhotoModels$Adjustment", F_Ad, by decide +kernel, tx1 140 rfl rfl, i_Ad, rfl, rfl, by decide⟩
theorem d_Ad_moved_4 : decode k_Ad_moved.code 4 = .ok (.iload_n 1, 1) := by decide +kernel
theorem d_Ad_moved_5 : decode k_Ad_moved.code 5 = .ok (.iconst 2, 1) := by decide +kernel
theorem d_Ad_moved_6 : decode k_Ad_moved.code 6 = .ok (.imul, 1) := by decide +kernel
theorem d_Ad_moved_7 : decode k_Ad_moved.code 7 = .ok (.iload_n 2, 1) := by decide +kernel
theorem d_Ad_moved_8 : decode k_Ad_moved.code 8 = .ok (.iadd, 1) := by decide +kernel
theorem d_Ad_moved_9 : decode k_Ad_moved.code 9 = .ok (.iaload, 1) := by decide +kernel
theorem d_Ad_moved_10 : decode k_Ad_moved.code 10 = .ok (.ireturn, 1) := by decide +kernel
theorem d_Ag_draw_0 : decode k_Ag_draw.code 0 = .ok (.aload_n 0, 1) := by decide +kernel
theorem d_Ag_draw_1 : decode k_Ag_draw.code 1 = .ok (.aload_n 1, 1) := by decide +kernel
theorem d_Ag_draw_2 : decode k_Ag_draw.code 2 = .ok (.iload_n 2, 1) := by decide +kernel
theorem d_Ag_draw_3 : decode k_Ag_draw.code 3 = .ok (.iload_n 3, 1) := by decide +kernel
theorem s_Ag_draw_4 : SiteV k_Ag_draw k_Ag_gatherShifts 4 1 3 := ⟨32, (R_Ag, F_Ag, 7), by decide +kernel, ⟨kw_Ag_gatherShifts, tx1 6 rfl rfl, by decide, by decide⟩, tx3 19 rfl rfl, tx3 21 rfl rfl, twp 4 rfl rfl, rfl, ⟨by decide +kernel, by decide +kernel⟩, np_Ag_gatherShifts⟩
theorem d_Ag_draw_7 : decode k_Ag_draw.code 7 = .ok (.aload_n 0, 1) := by decide +kernel
theorem d_Ag_draw_8 : decode k_Ag_draw.code 8 = .ok (.aload_n 0, 1) := by decide +kernel
theorem g_Ag_draw_9 : SiteG k_Ag_draw 9 1 3 := ⟨36, 7, R_Ag, "PhotoModels$Agreement", F_Ag, by decide +kernel, tx1 114 rfl rfl, i_Ag, rfl, rfl, by decide⟩
theorem d_Ag_draw_12 : decode k_Ag_draw.code 12 = .ok (.ifCond .le 7, 3) := by decide +kernel
theorem d_Ag_draw_15 : decode k_Ag_draw.code 15 = .ok (.iconst 1, 1) := by decide +kernel
theorem d_Ag_draw_16 : decode k_Ag_draw.code 16 = .ok (.goto 4, 3) := by decide +kernel
theorem d_Ag_draw_19 : decode k_Ag_draw.code 19 = .ok (.iconst 0, 1) := by decide +kernel
theorem p_Ag_draw_20 : SiteP k_Ag_draw 20 1 4 .boolean := ⟨22, 7, R_Ag, "PhotoModels$Agreement", F_Ag, t_Ag, t_Ag_ok, n_Ag, by decide +kernel, tx1 115 rfl rfl, i_Ag, rfl, Or.inl rfl, rfl, by decide, rfl⟩
theorem d_Ag_draw_23 : decode k_Ag_draw.code 23 = .ok (.iconst 0, 1) := by decide +kernel
theorem d_Ag_draw_24 : decode k_Ag_draw.code 24 = .ok (.istore 6, 2) := by decide +kernel
theorem d_Ag_draw_26 : decode k_Ag_draw.code 26 = .ok (.iconst 0, 1) := by decide +kernel
theorem d_Ag_draw_27 : decode k_Ag_draw.code 27 = .ok (.istore 7, 2) := by decide +kernel
theorem d_Ag_draw_29 : decode k_Ag_draw.code 29 = .ok (.iload 7, 2) := by decide +kernel
theorem d_Ag_draw_31 : decode k_Ag_draw.code 31 = .ok (.iload 4, 2) := by decide +kernel
theorem d_Ag_draw_33 : decode k_Ag_draw.code 33 = .ok (.if_icmp .ge 72, 3) := by decide +kernel
theorem d_Ag_draw_36 : decode k_Ag_draw.code 36 = .ok (.aload_n 0, 1) := by decide +kernel
theorem g_Ag_draw_37 : SiteG k_Ag_draw 37 1 3 := ⟨36, 7, R_Ag, "PhotoModels$Agreement", F_Ag, by decide +kernel, tx1 114 rfl rfl, i_Ag, rfl, rfl, by decide⟩
theorem d_Ag_draw_40 : decode k_Ag_draw.code 40 = .ok (.ifCond .le 65, 3) := by decide +kernel
theorem d_Ag_draw_43 : decode k_Ag_draw.code 43 = .ok (.aload_n 0, 1) := by decide +kernel
theorem d_Ag_draw_44 : decode k_Ag_draw.code 44 = .ok (.iload 7, 2) := by decide +kernel
theorem s_Ag_draw_46 : SiteV k_Ag_draw k_Ag_drawnNumber 46 1 1 := ⟨39, (R_Ag, F_Ag, 7), by decide +kernel, ⟨kw_Ag_drawnNumber, tx1 6 rfl rfl, by decide, by decide⟩, tx3 26 rfl rfl, tx3 28 rfl rfl, twp 5 rfl rfl, rfl, ⟨by decide +kernel, by decide +kernel⟩, np_Ag_drawnNumber⟩
theorem d_Ag_draw_49 : decode k_Ag_draw.code 49 = .ok (.aload_n 0, 1) := by decide +kernel
theorem g_Ag_draw_50 : SiteG k_Ag_draw 50 1 3 := ⟨36, 7, R_Ag, "PhotoModels$Agreement", F_Ag, by decide +kernel, tx1 114 rfl rfl, i_Ag, rfl, rfl, by decide⟩
theorem d_Ag_draw_53 : decode k_Ag_draw.code 53 = .ok (.irem, 1) := by decide +kernel
theorem d_Ag_draw_54 : decode k_Ag_draw.code 54 = .ok (.istore 8, 2) := by decide +kernel
theorem d_Ag_draw_56 : decode k_Ag_draw.code 56 = .ok (.aload_n 0, 1) := by decide +kernel
theorem d_Ag_draw_57 : decode k_Ag_draw.code 57 = .ok (.iload 8, 2) := by decide +kernel
theorem d_Ag_draw_59 : decode k_Ag_draw.code 59 = .ok (.iload 5, 2) := by decide +kernel
theorem s_Ag_draw_61 : SiteV k_Ag_draw k_Ag_agreeingWith 61 1 2 := ⟨43, (R_Ag, F_Ag, 7), by decide +kernel, ⟨kw_Ag_agreeingWith, tx1 6 rfl rfl, by decide, by decide⟩, tx3 31 rfl rfl, tx3 33 rfl rfl, twp 6 rfl rfl, rfl, ⟨by decide +kernel, by decide +kernel⟩, np_Ag_agreeingWith⟩
theorem d_Ag_draw_64 : decode k_Ag_draw.code 64 = .ok (.istore 9, 2) := by decide +kernel
theorem d_Ag_draw_66 : decode k_Ag_draw.code 66 = .ok (.iload 9, 2) := by decide +kernel
theorem d_Ag_draw_68 : decode k_Ag_draw.code 68 = .ok (.iload 6, 2) := by decide +kernel
theorem d_Ag_draw_70 : decode k_Ag_draw.code 70 = .ok (.if_icmp .le 29, 3) := by decide +kernel
theorem d_Ag_draw_73 : decode k_Ag_draw.code 73 = .ok (.iload 9, 2) := by decide +kernel
theorem d_Ag_draw_75 : decode k_Ag_draw.code 75 = .ok (.istore 6, 2) := by decide +kernel
theorem d_Ag_draw_77 : decode k_Ag_draw.code 77 = .ok (.aload_n 0, 1) := by decide +kernel
theorem d_Ag_draw_78 : decode k_Ag_draw.code 78 = .ok (.aload_n 0, 1) := by decide +kernel
theorem g_Ag_draw_79 : SiteG k_Ag_draw 79 1 1 := ⟨9, 7, R_Ag, "PhotoModels$Agreement", F_Ag, by decide +kernel, tx1 112 rfl rfl, i_Ag, rfl, rfl, by decide⟩
theorem d_Ag_draw_82 : decode k_Ag_draw.code 82 = .ok (.iload 8, 2) := by decide +kernel
theorem d_Ag_draw_84 : decode k_Ag_draw.code 84 = .ok (.iaload, 1) := by decide +kernel
theorem p_Ag_draw_85 : SiteP k_Ag_draw 85 1 5 .int := ⟨26, 7, R_Ag, "PhotoModels$Agreement", F_Ag, t_Ag, t_Ag_ok, n_Ag, by decide +kernel, tx1 116 rfl rfl, i_Ag, rfl, Or.inl rfl, rfl, by decide, rfl⟩
theorem d_Ag_draw_88 : decode k_Ag_draw.code 88 = .ok (.aload_n 0, 1) := by decide +kernel
theorem d_Ag_draw_89 : decode k_Ag_draw.code 89 = .ok (.aload_n 0, 1) := by decide +kernel
theorem g_Ag_draw_90 : SiteG k_Ag_draw 90 1 2 := ⟨15, 7, R_Ag, "PhotoModels$Agreement", F_Ag, by decide +kernel, tx1 113 rfl rfl, i_Ag, rfl, rfl, by decide⟩
theorem d_Ag_draw_93 : decode k_Ag_draw.code 93 = .ok (.iload 8, 2) := by decide +kernel
theorem d_Ag_draw_95 : decode k_Ag_draw.code 95 = .ok (.iaload, 1) := by decide +kernel
theorem p_Ag_draw_96 : SiteP k_Ag_draw 96 1 6 .int := ⟨29, 7, R_Ag, "PhotoModels$Agreement", F_Ag, t_Ag, t_Ag_ok, n_Ag, by decide +kernel, tx1 117 rfl rfl, i_Ag, rfl, Or.inl rfl, rfl, by decide, rfl⟩
theorem d_Ag_draw_99 : decode k_Ag_draw.code 99 = .ok (.iinc 7 1, 3) := by decide +kernel
theorem d_Ag_draw_102 : decode k_Ag_draw.code 102 = .ok (.goto (-73), 3) := by decide +kernel
theorem d_Ag_draw_105 : decode k_Ag_draw.code 105 = .ok (.iload 6, 2) := by decide +kernel
theorem d_Ag_draw_107 : decode k_Ag_draw.code 107 = .ok (.ireturn, 1) := by decide +kernel
theorem d_Ag_gatherShifts_0 : decode k_Ag_gatherShifts.code 0 = .ok (.aload_n 0, 1) := by decide +kernel
theorem d_Ag_gatherShifts_1 : decode k_Ag_gatherShifts.code 1 = .ok (.iconst 0, 1) := by decide +kernel
theorem p_Ag_gatherShifts_2 : SiteP k_Ag_gatherShifts 2 1 3 .int := ⟨36, 7, R_Ag, "PhotoModels$Agreement", F_Ag, t_Ag, t_Ag_ok, n_Ag, by decide +kernel, tx1 114 rfl rfl, i_Ag, rfl, Or.inl rfl, rfl, by decide, rfl⟩
theorem d_Ag_gatherShifts_5 : decode k_Ag_gatherShifts.code 5 = .ok (.iconst 0, 1) := by decide +kernel
theorem d_Ag_gatherShifts_6 : decode k_Ag_gatherShifts.code 6 = .ok (.istore 4, 2) := by decide +kernel
theorem d_Ag_gatherShifts_8 : decode k_Ag_gatherShifts.code 8 = .ok (.iload 4, 2) := by decide +kernel
theorem d_Ag_gatherShifts_10 : decode k_Ag_gatherShifts.code 10 = .ok (.aload_n 1, 1) := by decide +kernel
theorem s_Ag_gatherShifts_11 : SiteV k_Ag_gatherShifts k_Pl_number 11 4 0 := ⟨47, (R_Pl, F_Pl, 5), by decide +kernel, ⟨kw_Pl_number, tx1 5 rfl rfl, by decide, by decide⟩, tx3 23 rfl rfl, tx1 239 rfl rfl, tx2 0 rfl rfl, rfl, ⟨by decide +kernel, by decide +kernel⟩, np_Pl_number⟩
theorem d_Ag_gatherShifts_14 : decode k_Ag_gatherShifts.code 14 = .ok (.if_icmp .ge 91, 3) := by decide +kernel
theorem d_Ag_gatherShifts_17 : decode k_Ag_gatherShifts.code 17 = .ok (.aload_n 1, 1) := by decide +kernel
theorem d_Ag_gatherShifts_18 : decode k_Ag_gatherShifts.code 18 = .ok (.iload 4, 2) := by decide +kernel
theorem d_Ag_gatherShifts_20 : decode k_Ag_gatherShifts.code 20 = .ok (.iload_n 2, 1) := by decide +kernel
theorem s_Ag_gatherShifts_21 : SiteV k_Ag_gatherShifts k_Pl_isNoted 21 4 2 := ⟨52, (R_Pl, F_Pl, 5), by decide +kernel, ⟨kw_Pl_isNoted, tx1 5 rfl rfl, by decide, by decide⟩, tx3 24 rfl rfl, tx2 11 rfl rfl, tx2 12 rfl rfl, rfl, ⟨by decide +kernel, by decide +kernel⟩, np_Pl_isNoted⟩
theorem d_Ag_gatherShifts_24 : decode k_Ag_gatherShifts.code 24 = .ok (.ifCond .eq 75, 3) := by decide +kernel
theorem d_Ag_gatherShifts_27 : decode k_Ag_gatherShifts.code 27 = .ok (.aload_n 1, 1) := by decide +kernel
theorem d_Ag_gatherShifts_28 : decode k_Ag_gatherShifts.code 28 = .ok (.iload 4, 2) := by decide +kernel
theorem d_Ag_gatherShifts_30 : decode k_Ag_gatherShifts.code 30 = .ok (.iload_n 3, 1) := by decide +kernel
theorem s_Ag_gatherShifts_31 : SiteV k_Ag_gatherShifts k_Pl_isNoted 31 4 2 := ⟨52, (R_Pl, F_Pl, 5), by decide +kernel, ⟨kw_Pl_isNoted, tx1 5 rfl rfl, by decide, by decide⟩, tx3 24 rfl rfl, tx2 11 rfl rfl, tx2 12 rfl rfl, rfl, ⟨by decide +kernel, by decide +kernel⟩, np_Pl_isNoted⟩
theorem d_Ag_gatherShifts_34 : decode k_Ag_gatherShifts.code 34 = .ok (.ifCond .eq 65, 3) := by decide +kernel
theorem d_Ag_gatherShifts_37 : decode k_Ag_gatherShifts.code 37 = .ok (.aload_n 0, 1) := by decide +kernel
theorem g_Ag_gatherShifts_38 : SiteG k_Ag_gatherShifts 38 1 1 := ⟨9, 7, R_Ag, "PhotoModels$Agreement", F_Ag, by decide +kernel, tx1 112 rfl rfl, i_Ag, rfl, rfl, by decide⟩
theorem d_Ag_gatherShifts_41 : decode k_Ag_gatherShifts.code 41 = .ok (.aload_n 0, 1) := by decide +kernel
theorem g_Ag_gatherShifts_42 : SiteG k_Ag_gatherShifts 42 1 3 := ⟨36, 7, R_Ag, "PhotoModels$Agreement", F_Ag, by decide +kernel, tx1 114 rfl rfl, i_Ag, rfl, rfl, by decide⟩
theorem d_Ag_gatherShifts_45 : decode k_Ag_gatherShifts.code 45 = .ok (.aload_n 1, 1) := by decide +kernel
theorem d_Ag_gatherShifts_46 : decode k_Ag_gatherShifts.code 46 = .ok (.iload 4, 2) := by decide +kernel
theorem d_Ag_gatherShifts_48 : decode k_Ag_gatherShifts.code 48 = .ok (.iload_n 3, 1) := by decide +kernel
theorem d_Ag_gatherShifts_49 : decode k_Ag_gatherShifts.code 49 = .ok (.iconst 0, 1) := by decide +kernel
theorem s_Ag_gatherShifts_50 : SiteV k_Ag_gatherShifts k_Pl_where 50 4 3 := ⟨56, (R_Pl, F_Pl, 5), by decide +kernel, ⟨kw_Pl_where, tx1 5 rfl rfl, by decide, by decide⟩, tx3 25 rfl rfl, tx2 16 rfl rfl, tx2 17 rfl rfl, rfl, ⟨by decide +kernel, by decide +kernel⟩, np_Pl_where⟩
theorem d_Ag_gatherShifts_53 : decode k_Ag_gatherShifts.code 53 = .ok (.aload_n 1, 1) := by decide +kernel
theorem d_Ag_gatherShifts_54 : decode k_Ag_gatherShifts.code 54 = .ok (.iload 4, 2) := by decide +kernel
theorem d_Ag_gatherShifts_56 : decode k_Ag_gatherShifts.code 56 = .ok (.iload_n 2, 1) := by decide +kernel
theorem d_Ag_gatherShifts_57 : decode k_Ag_gatherShifts.code 57 = .ok (.iconst 0, 1) := by decide +kernel
theorem s_Ag_gatherShifts_58 : SiteV k_Ag_gatherShifts k_Pl_where 58 4 3 := ⟨56, (R_Pl, F_Pl, 5), by decide +kernel, ⟨kw_Pl_where, tx1 5 rfl rfl, by decide, by decide⟩, tx3 25 rfl rfl, tx2 16 rfl rfl, tx2 17 rfl rfl, rfl, ⟨by decide +kernel, by decide +kernel⟩, np_Pl_where⟩
theorem d_Ag_gatherShifts_61 : decode k_Ag_gatherShifts.code 61 = .ok (.isub, 1) := by decide +kernel
theorem d_Ag_gatherShifts_62 : decode k_Ag_gatherShifts.code 62 = .ok (.iastore, 1) := by decide +kernel
theorem d_Ag_gatherShifts_63 : decode k_Ag_gatherShifts.code 63 = .ok (.aload_n 0, 1) := by decide +kernel
theorem g_Ag_gatherShifts_64 : SiteG k_Ag_gatherShifts 64 1 2 := ⟨15, 7, R_Ag, "PhotoModels$Agreement", F_Ag, by decide +kernel, tx1 113 rfl rfl, i_Ag, rfl, rfl, by decide⟩
theorem d_Ag_gatherShifts_67 : decode k_Ag_gatherShifts.code 67 = .ok (.aload_n 0, 1) := by decide +kernel
theorem g_Ag_gatherShifts_68 : SiteG k_Ag_gatherShifts 68 1 3 := ⟨36, 7, R_Ag, "PhotoModels$Agreement", F_Ag, by decide +kernel, tx1 114 rfl rfl, i_Ag, rfl, rfl, by decide⟩
theorem d_Ag_gatherShifts_71 : decode k_Ag_gatherShifts.code 71 = .ok (.aload_n 1, 1) := by decide +kernel
theorem d_Ag_gatherShifts_72 : decode k_Ag_gatherShifts.code 72 = .ok (.iload 4, 2) := by decide +kernel
theorem d_Ag_gatherShifts_74 : decode k_Ag_gatherShifts.code 74 = .ok (.iload_n 3, 1) := by decide +kernel
theorem d_Ag_gatherShifts_75 : decode k_Ag_gatherShifts.code 75 = .ok (.iconst 1, 1) := by decide +kernel
theorem s_Ag_gatherShifts_76 : SiteV k_Ag_gatherShifts k_Pl_where 76 4 3 := ⟨56, (R_Pl, F_Pl, 5), by decide +kernel, ⟨kw_Pl_where, tx1 5 rfl rfl, by decide, by decide⟩, tx3 25 rfl rfl, tx2 16 rfl rfl, tx2 17 rfl rfl, rfl, ⟨by decide +kernel, by decide +kernel⟩, np_Pl_where⟩
theorem d_Ag_gatherShifts_79 : decode k_Ag_gatherShifts.code 79 = .ok (.aload_n 1, 1) := by decide +kernel
theorem d_Ag_gatherShifts_80 : decode k_Ag_gatherShifts.code 80 = .ok (.iload 4, 2) := by decide +kernel
theorem d_Ag_gatherShifts_82 : decode k_Ag_gatherShifts.code 82 = .ok (.iload_n 2, 1) := by decide +kernel
theorem d_Ag_gatherShifts_83 : decode k_Ag_gatherShifts.code 83 = .ok (.iconst 1, 1) := by decide +kernel
theorem s_Ag_gatherShifts_84 : SiteV k_Ag_gatherShifts k_Pl_where 84 4 3 := ⟨56, (R_Pl, F_Pl, 5), by decide +kernel, ⟨kw_Pl_where, tx1 5 rfl rfl, by decide, by decide⟩, tx3 25 rfl rfl, tx2 16 rfl rfl, tx2 17 rfl rfl, rfl, ⟨by decide +kernel, by decide +kernel⟩, np_Pl_where⟩
theorem d_Ag_gatherShifts_87 : decode k_Ag_gatherShifts.code 87 = .ok (.isub, 1) := by decide +kernel
theorem d_Ag_gatherShifts_88 : decode k_Ag_gatherShifts.code 88 = .ok (.iastore, 1) := by decide +kernel
theorem d_Ag_gatherShifts_89 : decode k_Ag_gatherShifts.code 89 = .ok (.aload_n 0, 1) := by decide +kernel
theorem d_Ag_gatherShifts_90 : decode k_Ag_gatherShifts.code 90 = .ok (.dup, 1) := by decide +kernel
theorem g_Ag_gatherShifts_91 : SiteG k_Ag_gatherShifts 91 1 3 := ⟨36, 7, R_Ag, "PhotoModels$Agreement", F_Ag, by decide +kernel, tx1 114 rfl rfl, i_Ag, rfl, rfl, by decide⟩
theorem d_Ag_gatherShifts_94 : decode k_Ag_gatherShifts.code 94 = .ok (.iconst 1, 1) := by decide +kernel
theorem d_Ag_gatherShifts_95 : decode k_Ag_gatherShifts.code 95 = .ok (.iadd, 1) := by decide +kernel
theorem p_Ag_gatherShifts_96 : SiteP k_Ag_gatherShifts 96 1 3 .int := ⟨36, 7, R_Ag, "PhotoModels$Agreement", F_Ag, t_Ag, t_Ag_ok, n_Ag, by decide +kernel, tx1 114 rfl rfl, i_Ag, rfl, Or.inl rfl, rfl, by decide, rfl⟩
theorem d_Ag_gatherShifts_99 : decode k_Ag_gatherShifts.code 99 = .ok (.iinc 4 1, 3) := by decide +kernel
theorem d_Ag_gatherShifts_102 : decode k_Ag_gatherShifts.code 102 = .ok (.goto (-94), 3) := by decide +kernel
theorem d_Ag_gatherShifts_105 : decode k_Ag_gatherShifts.code 105 = .ok (.return_, 1) := by decide +kernel
theorem d_Ag_drawnNumber_0 : decode k_Ag_drawnNumber.code 0 = .ok (.aload_n 0, 1) := by decide +kernel
theorem g_Ag_drawnNumber_1 : SiteG k_Ag_drawnNumber 1 1 0 := ⟨18, 7, R_Ag, "PhotoModels$Agreement", F_Ag, by decide +kernel, tx1 111 rfl rfl, i_Ag, rfl, rfl, by decide⟩
theorem d_Ag_drawnNumber_4 : decode k_Ag_drawnNumber.code 4 = .ok (.bipush 101, 2) := by decide +kernel
theorem d_Ag_drawnNumber_6 : decode k_Ag_drawnNumber.code 6 = .ok (.iload_n 1, 1) := by decide +kernel
theorem d_Ag_drawnNumber_7 : decode k_Ag_drawnNumber.code 7 = .ok (.imul, 1) := by decide +kernel
theorem d_Ag_drawnNumber_8 : decode k_Ag_drawnNumber.code 8 = .ok (.iadd, 1) := by decide +kernel
theorem d_Ag_drawnNumber_9 : decode k_Ag_drawnNumber.code 9 = .ok (.ldc 65, 2) := by decide +kernel
theorem c_Ag_drawnNumber_9 : Cond.constant k_Ag_drawnNumber.y.cls 65 65537 ∈ tw := tx3 30 rfl rfl
theorem d_Ag_drawnNumber_11 : decode k_Ag_drawnNumber.code 11 = .ok (.irem, 1) := by decide +kernel
theorem d_Ag_drawnNumber_12 : decode k_Ag_drawnNumber.code 12 = .ok (.istore_n 2, 1) := by decide +kernel
theorem d_Ag_drawnNumber_13 : decode k_Ag_drawnNumber.code 13 = .ok (.iconst 0, 1) := by decide +kernel
theorem d_Ag_drawnNumber_14 : decode k_Ag_drawnNumber.code 14 = .ok (.istore_n 3, 1) := by decide +kernel
theorem d_Ag_drawnNumber_15 : decode k_Ag_drawnNumber.code 15 = .ok (.iload_n 3, 1) := by decide +kernel
theorem d_Ag_drawnNumber_16 : decode k_Ag_drawnNumber.code 16 = .ok (.iconst 3, 1) := by decide +kernel
theorem d_Ag_drawnNumber_17 : decode k_Ag_drawnNumber.code 17 = .ok (.if_icmp .ge 20, 3) := by decide +kernel
theorem d_Ag_drawnNumber_20 : decode k_Ag_drawnNumber.code 20 = .ok (.bipush 75, 2) := by decide +kernel
theorem d_Ag_drawnNumber_22 : decode k_Ag_drawnNumber.code 22 = .ok (.iload_n 2, 1) := by decide +kernel
theorem d_Ag_drawnNumber_23 : decode k_Ag_drawnNumber.code 23 = .ok (.imul, 1) := by decide +kernel
theorem d_Ag_drawnNumber_24 : decode k_Ag_drawnNumber.code 24 = .ok (.bipush 74, 2) := by decide +kernel
theorem d_Ag_drawnNumber_26 : decode k_Ag_drawnNumber.code 26 = .ok (.iadd, 1) := by decide +kernel
theorem d_Ag_drawnNumber_27 : decode k_Ag_drawnNumber.code 27 = .ok (.ldc 65, 2) := by decide +kernel
theorem c_Ag_drawnNumber_27 : Cond.constant k_Ag_drawnNumber.y.cls 65 65537 ∈ tw := tx3 30 rfl rfl
theorem d_Ag_drawnNumber_29 : decode k_Ag_drawnNumber.code 29 = .ok (.irem, 1) := by decide +kernel
theorem d_Ag_drawnNumber_30 : decode k_Ag_drawnNumber.code 30 = .ok (.istore_n 2, 1) := by decide +kernel
theorem d_Ag_drawnNumber_31 : decode k_Ag_drawnNumber.code 31 = .ok (.iinc 3 1, 3) := by decide +kernel
theorem d_Ag_drawnNumber_34 : decode k_Ag_drawnNumber.code 34 = .ok (.goto (-19), 3) := by decide +kernel
theorem d_Ag_drawnNumber_37 : decode k_Ag_drawnNumber.code 37 = .ok (.iload_n 2, 1) := by decide +kernel
theorem d_Ag_drawnNumber_38 : decode k_Ag_drawnNumber.code 38 = .ok (.ireturn, 1) := by decide +kernel
theorem d_Ag_agreeingWith_0 : decode k_Ag_agreeingWith.code 0 = .ok (.iconst 0, 1) := by decide +kernel
theorem d_Ag_agreeingWith_1 : decode k_Ag_agreeingWith.code 1 = .ok (.istore_n 3, 1) := by decide +kernel
theorem d_Ag_agreeingWith_2 : decode k_Ag_agreeingWith.code 2 = .ok (.iconst 0, 1) := by decide +kernel
theorem d_Ag_agreeingWith_3 : decode k_Ag_agreeingWith.code 3 = .ok (.istore 4, 2) := by decide +kernel
theorem d_Ag_agreeingWith_5 : decode k_Ag_agreeingWith.code 5 = .ok (.iload 4, 2) := by decide +kernel
theorem d_Ag_agreeingWith_7 : decode k_Ag_agreeingWith.code 7 = .ok (.aload_n 0, 1) := by decide +kernel
theorem g_Ag_agreeingWith_8 : SiteG k_Ag_agreeingWith 8 1 3 := ⟨36, 7, R_Ag, "PhotoModels$Agreement", F_Ag, by decide +kernel, tx1 114 rfl rfl, i_Ag, rfl, rfl, by decide⟩
theorem d_Ag_agreeingWith_11 : decode k_Ag_agreeingWith.code 11 = .ok (.if_icmp .ge 54, 3) := by decide +kernel
theorem d_Ag_agreeingWith_14 : decode k_Ag_agreeingWith.code 14 = .ok (.aload_n 0, 1) := by decide +kernel
theorem g_Ag_agreeingWith_15 : SiteG k_Ag_agreeingWith 15 1 1 := ⟨9, 7, R_Ag, "PhotoModels$Agreement", F_Ag, by decide +kernel, tx1 112 rfl rfl, i_Ag, rfl, rfl, by decide⟩
theorem d_Ag_agreeingWith_18 : decode k_Ag_agreeingWith.code 18 = .ok (.iload 4, 2) := by decide +kernel
theorem d_Ag_agreeingWith_20 : decode k_Ag_agreeingWith.code 20 = .ok (.iaload, 1) := by decide +kernel
theorem d_Ag_agreeingWith_21 : decode k_Ag_agreeingWith.code 21 = .ok (.aload_n 0, 1) := by decide +kernel
theorem g_Ag_agreeingWith_22 : SiteG k_Ag_agreeingWith 22 1 1 := ⟨9, 7, R_Ag, "PhotoModels$Agreement", F_Ag, by decide +kernel, tx1 112 rfl rfl, i_Ag, rfl, rfl, by decide⟩
theorem d_Ag_agreeingWith_25 : decode k_Ag_agreeingWith.code 25 = .ok (.iload_n 1, 1) := by decide +kernel
theorem d_Ag_agreeingWith_26 : decode k_Ag_agreeingWith.code 26 = .ok (.iaload, 1) := by decide +kernel
theorem d_Ag_agreeingWith_27 : decode k_Ag_agreeingWith.code 27 = .ok (.isub, 1) := by decide +kernel
theorem s_Ag_agreeingWith_28 : SiteM k_Ag_agreeingWith 28 Lib.Math.abs.name Lib.Math.abs.code 1 := ⟨60, by decide +kernel, tx3 35 rfl rfl, tx2 179 rfl rfl, tx1 2 rfl rfl, tx2 180 rfl rfl, by decide, by decide⟩
theorem d_Ag_agreeingWith_31 : decode k_Ag_agreeingWith.code 31 = .ok (.iload_n 2, 1) := by decide +kernel
theorem d_Ag_agreeingWith_32 : decode k_Ag_agreeingWith.code 32 = .ok (.if_icmp .gt 27, 3) := by decide +kernel
theorem d_Ag_agreeingWith_35 : decode k_Ag_agreeingWith.code 35 = .ok (.aload_n 0, 1) := by decide +kernel
theorem g_Ag_agreeingWith_36 : SiteG k_Ag_agreeingWith 36 1 2 := ⟨15, 7, R_Ag, "PhotoModels$Agreement", F_Ag, by decide +kernel, tx1 113 rfl rfl, i_Ag, rfl, rfl, by decide⟩
theorem d_Ag_agreeingWith_39 : decode k_Ag_agreeingWith.code 39 = .ok (.iload 4, 2) := by decide +kernel
theorem d_Ag_agreeingWith_41 : decode k_Ag_agreeingWith.code 41 = .ok (.iaload, 1) := by decide +kernel
theorem d_Ag_agreeingWith_42 : decode k_Ag_agreeingWith.code 42 = .ok (.aload_n 0, 1) := by decide +kernel
theorem g_Ag_agreeingWith_43 : SiteG k_Ag_agreeingWith 43 1 2 := ⟨15, 7, R_Ag, "PhotoModels$Agreement", F_Ag, by decide +kernel, tx1 113 rfl rfl, i_Ag, rfl, rfl, by decide⟩
theorem d_Ag_agreeingWith_46 : decode k_Ag_agreeingWith.code 46 = .ok (.iload_n 1, 1) := by decide +kernel
theorem d_Ag_agreeingWith_47 : decode k_Ag_agreeingWith.code 47 = .ok (.iaload, 1) := by decide +kernel
theorem d_Ag_agreeingWith_48 : decode k_Ag_agreeingWith.code 48 = .ok (.isub, 1) := by decide +kernel
theorem s_Ag_agreeingWith_49 : SiteM k_Ag_agreeingWith 49 Lib.Math.abs.name Lib.Math.abs.code 1 := ⟨60, by decide +kernel, tx3 35 rfl rfl, tx2 179 rfl rfl, tx1 2 rfl rfl, tx2 180 rfl rfl, by decide, by decide⟩
theorem d_Ag_agreeingWith_52 : decode k_Ag_agreeingWith.code 52 = .ok (.iload_n 2, 1) := by decide +kernel
theorem d_Ag_agreeingWith_53 : decode k_Ag_agreeingWith.code 53 = .ok (.if_icmp .gt 6, 3) := by decide +kernel
theorem d_Ag_agreeingWith_56 : decode k_Ag_agreeingWith.code 56 = .ok (.iinc 3 1, 3) := by decide +kernel
theorem d_Ag_agreeingWith_59 : decode k_Ag_agreeingWith.code 59 = .ok (.iinc 4 1, 3) := by decide +kernel
theorem d_Ag_agreeingWith_62 : decode k_Ag_agreeingWith.code 62 = .ok (.goto (-57), 3) := by decide +kernel
theorem d_Ag_agreeingWith_65 : decode k_Ag_agreeingWith.code 65 = .ok (.iload_n 3, 1) := by decide +kernel
theorem d_Ag_agreeingWith_66 : decode k_Ag_agreeingWith.code 66 = .ok (.ireturn, 1) := by decide +kernel
theorem d_Ag_isReached_0 : decode k_Ag_isReached.code 0 = .ok (.aload_n 0, 1) := by decide +kernel
theorem g_Ag_isReached_1 : SiteG k_Ag_isReached 1 1 4 := ⟨22, 7, R_Ag, "PhotoModels$Agreement", F_Ag, by decide +kernel, tx1 115 rfl rfl, i_Ag, rfl, rfl, by decide⟩
theorem d_Ag_isReached_4 : decode k_Ag_isReached.code 4 = .ok (.ireturn, 1) := by decide +kernel
theorem d_Ag_along_0 : decode k_Ag_along.code 0 = .ok (.iload_n 1, 1) := by decide +kernel
theorem d_Ag_along_1 : decode k_Ag_along.code 1 = .ok (.ifCond .ne 10, 3) := by decide +kernel
theorem d_Ag_along_4 : decode k_Ag_along.code 4 = .ok (.aload_n 0, 1) := by decide +kernel
theorem g_Ag_along_5 : SiteG k_Ag_along 5 1 5 := ⟨26, 7, R_Ag, "PhotoModels$Agreement", F_Ag, by decide +kernel, tx1 116 rfl rfl, i_Ag, rfl, rfl, by decide⟩
theorem d_Ag_along_8 : decode k_Ag_along.code 8 = .ok (.goto 7, 3) := by decide +kernel
theorem d_Ag_along_11 : decode k_Ag_along.code 11 = .ok (.aload_n 0, 1) := by decide +kernel
theorem g_Ag_along_12 : SiteG k_Ag_along 12 1 6 := ⟨29, 7, R_Ag, "PhotoModels$Agreement", F_Ag, by decide +kernel, tx1 117 rfl rfl, i_Ag, rfl, rfl, by decide⟩
theorem d_Ag_along_15 : decode k_Ag_along.code 15 = .ok (.ireturn, 1) := by decide +kernel
theorem d_Ad_adjust_0 : decode k_Ad_adjust.code 0 = .ok (.aload_n 0, 1) := by decide +kernel
theorem d_Ad_adjust_1 : decode k_Ad_adjust.code 1 = .ok (.aload_n 1, 1) := by decide +kernel
theorem s_Ad_adjust_2 : SiteV k_Ad_adjust k_Ad_begin 2 0 1 := ⟨24, (R_Ad, F_Ad, 4), by decide +kernel, ⟨kw_Ad_begin, tx1 7 rfl rfl, by decide, by decide⟩, tx3 76 rfl rfl, tx3 78 rfl rfl, twp 7 rfl rfl, rfl, ⟨by decide +kernel, by decide +kernel⟩, np_Ad_begin⟩
theorem d_Ad_adjust_5 : decode k_Ad_adjust.code 5 = .ok (.aload_n 0, 1) := by decide +kernel
theorem d_Ad_adjust_6 : decode k_Ad_adjust.code 6 = .ok (.aload_n 1, 1) := by decide +kernel
theorem s_Ad_adjust_7 : SiteV k_Ad_adjust k_Ad_total 7 0 1 := ⟨28, (R_Ad, F_Ad, 4), by decide +kernel, ⟨kw_Ad_total, tx1 7 rfl rfl, by decide, by decide⟩, tx3 97 rfl rfl, tx1 235 rfl rfl, tx1 236 rfl rfl, rfl, ⟨by decide +kernel, by decide +kernel⟩, np_Ad_total⟩
theorem d_Ad_adjust_10 : decode k_Ad_adjust.code 10 = .ok (.lstore_n 3, 1) := by decide +kernel
theorem d_Ad_adjust_11 : decode k_Ad_adjust.code 11 = .ok (.iconst 0, 1) := by decide +kernel
theorem d_Ad_adjust_12 : decode k_Ad_adjust.code 12 = .ok (.istore 5, 2) := by decide +kernel
theorem d_Ad_adjust_14 : decode k_Ad_adjust.code 14 = .ok (.iload 5, 2) := by decide +kernel
theorem d_Ad_adjust_16 : decode k_Ad_adjust.code 16 = .ok (.iload_n 2, 1) := by decide +kernel
theorem d_Ad_adjust_17 : decode k_Ad_adjust.code 17 = .ok (.if_icmp .ge 42, 3) := by decide +kernel
theorem d_Ad_adjust_20 : decode k_Ad_adjust.code 20 = .ok (.aload_n 0, 1) := by decide +kernel
theorem s_Ad_adjust_21 : SiteV k_Ad_adjust k_Ad_remember 21 0 0 := ⟨32, (R_Ad, F_Ad, 4), by decide +kernel, ⟨kw_Ad_remember, tx1 7 rfl rfl, by decide, by decide⟩, tx3 98 rfl rfl, tx3 100 rfl rfl, twp 10 rfl rfl, rfl, ⟨by decide +kernel, by decide +kernel⟩, np_Ad_remember⟩
theorem d_Ad_adjust_24 : decode k_Ad_adjust.code 24 = .ok (.aload_n 0, 1) := by decide +kernel
theorem d_Ad_adjust_25 : decode k_Ad_adjust.code 25 = .ok (.aload_n 1, 1) := by decide +kernel
theorem s_Ad_adjust_26 : SiteV k_Ad_adjust k_Ad_doRound 26 0 1 := ⟨35, (R_Ad, F_Ad, 4), by decide +kernel, ⟨kw_Ad_doRound, tx1 7 rfl rfl, by decide, by decide⟩, tx3 105 rfl rfl, tx3 107 rfl rfl, twp 11 rfl rfl, rfl, ⟨by decide +kernel, by decide +kernel⟩, np_Ad_doRound⟩
theorem d_Ad_adjust_29 : decode k_Ad_adjust.code 29 = .ok (.aload_n 0, 1) := by decide +kernel
theorem d_Ad_adjust_30 : decode k_Ad_adjust.code 30 = .ok (.aload_n 1, 1) := by decide +kernel
theorem s_Ad_adjust_31 : SiteV k_Ad_adjust k_Ad_total 31 0 1 := ⟨28, (R_Ad, F_Ad, 4), by decide +kernel, ⟨kw_Ad_total, tx1 7 rfl rfl, by decide, by decide⟩, tx3 97 rfl rfl, tx1 235 rfl rfl, tx1 236 rfl rfl, rfl, ⟨by decide +kernel, by decide +kernel⟩, np_Ad_total⟩
theorem d_Ad_adjust_34 : decode k_Ad_adjust.code 34 = .ok (.lstore 6, 2) := by decide +kernel
theorem d_Ad_adjust_36 : decode k_Ad_adjust.code 36 = .ok (.lload 6, 2) := by decide +kernel
theorem d_Ad_adjust_38 : decode k_Ad_adjust.code 38 = .ok (.lload_n 3, 1) := by decide +kernel
theorem d_Ad_adjust_39 : decode k_Ad_adjust.code 39 = .ok (.lcmp, 1) := by decide +kernel
theorem d_Ad_adjust_40 : decode k_Ad_adjust.code 40 = .ok (.ifCond .le 10, 3) := by decide +kernel
theorem d_Ad_adjust_43 : decode k_Ad_adjust.code 43 = .ok (.aload_n 0, 1) := by decide +kernel
theorem s_Ad_adjust_44 : SiteV k_Ad_adjust k_Ad_undo 44 0 0 := ⟨38, (R_Ad, F_Ad, 4), by decide +kernel, ⟨kw_Ad_undo, tx1 7 rfl rfl, by decide, by decide⟩, tx3 113 rfl rfl, tx3 115 rfl rfl, twp 13 rfl rfl, rfl, ⟨by decide +kernel, by decide +kernel⟩, np_Ad_undo⟩
theorem d_Ad_adjust_47 : decode k_Ad_adjust.code 47 = .ok (.iload 5, 2) := by decide +kernel
theorem d_Ad_adjust_49 : decode k_Ad_adjust.code 49 = .ok (.ireturn, 1) := by decide +kernel
theorem d_Ad_adjust_50 : decode k_Ad_adjust.code 50 = .ok (.lload 6, 2) := by decide +kernel
theorem d_Ad_adjust_52 : decode k_Ad_adjust.code 52 = .ok (.lstore_n 3, 1) := by decide +kernel
theorem d_Ad_adjust_53 : decode k_Ad_adjust.code 53 = .ok (.iinc 5 1, 3) := by decide +kernel
theorem d_Ad_adjust_56 : decode k_Ad_adjust.code 56 = .ok (.goto (-42), 3) := by decide +kernel
theorem d_Ad_adjust_59 : decode k_Ad_adjust.code 59 = .ok (.iload_n 2, 1) := by decide +kernel
theorem d_Ad_adjust_60 : decode k_Ad_adjust.code 60 = .ok (.ireturn, 1) := by decide +kernel
theorem d_Ad_begin_0 : decode k_Ad_begin.code 0 = .ok (.aload_n 0, 1) := by decide +kernel
theorem g_Ad_begin_1 : SiteG k_Ad_begin 1 0 1 := ⟨15, 4, R_Ad, "PhotoModels$Adjustment", F_Ad, by decide +kernel, tx1 140 rfl rfl, i_Ad, rfl, rfl, by decide⟩
theorem d_Ad_begin_4 : decode k_Ad_begin.code 4 = .ok (.iconst 0, 1) := by decide +kernel
theorem s_Ad_begin_5 : SiteS k_Ad_begin k_Arr_fill 5 2 := ⟨72, by decide +kernel, ⟨kw_Arr_fill, tx1 17 rfl rfl, by decide, by decide⟩, Or.inl (tx3 80 rfl rfl), tx3 81 rfl rfl, ⟨by decide +kernel, by decide +kernel⟩, np_Arr_fill⟩
theorem d_Ad_begin_8 : decode k_Ad_begin.code 8 = .ok (.aload_n 0, 1) := by decide +kernel
theorem d_Ad_begin_9 : decode k_Ad_begin.code 9 = .ok (.aload_n 1, 1) := by decide +kernel
theorem s_Ad_begin_10 : SiteV k_Ad_begin k_Ad_movePlaces 10 0 1 := ⟨78, (R_Ad, F_Ad, 4), by decide +kernel, ⟨kw_Ad_movePlaces, tx1 7 rfl rfl, by decide, by decide⟩, tx3 83 rfl rfl, tx3 85 rfl rfl, twp 8 rfl rfl, rfl, ⟨by decide +kernel, by decide +kernel⟩, np_Ad_movePlaces⟩
theorem d_Ad_begin_13 : decode k_Ad_begin.code 13 = .ok (.return_, 1) := by decide +kernel
theorem d_Ad_movePlaces_0 : decode k_Ad_movePlaces.code 0 = .ok (.iconst 0, 1) := by decide +kernel
theorem d_Ad_movePlaces_1 : decode k_Ad_movePlaces.code 1 = .ok (.istore_n 2, 1) := by decide +kernel
theorem d_Ad_movePlaces_2 : decode k_Ad_movePlaces.code 2 = .ok (.iload_n 2, 1) := by decide +kernel
theorem d_Ad_movePlaces_3 : decode k_Ad_movePlaces.code 3 = .ok (.aload_n 1, 1) := by decide +kernel
theorem s_Ad_movePlaces_4 : SiteV k_Ad_movePlaces k_Pl_number 4 4 0 := ⟨41, (R_Pl, F_Pl, 5), by decide +kernel, ⟨kw_Pl_number, tx1 5 rfl rfl, by decide, by decide⟩, tx1 238 rfl rfl, tx1 239 rfl rfl, tx2 0 rfl rfl, rfl, ⟨by decide +kernel, by decide +kernel⟩, np_Pl_number⟩
theorem d_Ad_movePlaces_7 : decode k_Ad_movePlaces.code 7 = .ok (.if_icmp .ge 29, 3) := by decide +kernel
theorem d_Ad_movePlaces_10 : decode k_Ad_movePlaces.code 10 = .ok (.iconst 0, 1) := by decide +kernel
theorem d_Ad_movePlaces_11 : decode k_Ad_movePlaces.code 11 = .ok (.istore_n 3, 1) := by decide +kernel
theorem d_Ad_movePlaces_12 : decode k_Ad_movePlaces.code 12 = .ok (.iload_n 3, 1) := by decide +kernel
theorem d_Ad_movePlaces_13 : decode k_Ad_movePlaces.code 13 = .ok (.iconst 2, 1) := by decide +kernel
theorem d_Ad_movePlaces_14 : decode k_Ad_movePlaces.code 14 = .ok (.if_icmp .ge 16, 3) := by decide +kernel
theorem d_Ad_movePlaces_17 : decode k_Ad_movePlaces.code 17 = .ok (.aload_n 0, 1) := by decide +kernel
theorem d_Ad_movePlaces_18 : decode k_Ad_movePlaces.code 18 = .ok (.aload_n 1, 1) := by decide +kernel
theorem d_Ad_movePlaces_19 : decode k_Ad_movePlaces.code 19 = .ok (.iload_n 2, 1) := by decide +kernel
theorem d_Ad_movePlaces_20 : decode k_Ad_movePlaces.code 20 = .ok (.iload_n 3, 1) := by decide +kernel
theorem s_Ad_movePlaces_21 : SiteV k_Ad_movePlaces k_Ad_movePlace 21 0 3 := ⟨89, (R_Ad, F_Ad, 4), by decide +kernel, ⟨kw_Ad_movePlace, tx1 7 rfl rfl, by decide, by decide⟩, tx3 87 rfl rfl, tx3 89 rfl rfl, twp 9 rfl rfl, rfl, ⟨by decide +kernel, by decide +kernel⟩, np_Ad_movePlace⟩
theorem d_Ad_movePlaces_24 : decode k_Ad_movePlaces.code 24 = .ok (.iinc 3 1, 3) := by decide +kernel
theorem d_Ad_movePlaces_27 : decode k_Ad_movePlaces.code 27 = .ok (.goto (-15), 3) := by decide +kernel
theorem d_Ad_movePlaces_30 : decode k_Ad_movePlaces.code 30 = .ok (.iinc 2 1, 3) := by decide +kernel
theorem d_Ad_movePlaces_33 : decode k_Ad_movePlaces.code 33 = .ok (.goto (-31), 3) := by decide +kernel
theorem d_Ad_movePlaces_36 : decode k_Ad_movePlaces.code 36 = .ok (.return_, 1) := by decide +kernel
theorem d_Ad_movePlace_0 : decode k_Ad_movePlace.code 0 = .ok (.lconst 0, 1) := by decide +kernel
theorem d_Ad_movePlace_1 : decode k_Ad_movePlace.code 1 = .ok (.lstore 4, 2) := by decide +kernel
theorem d_Ad_movePlace_3 : decode k_Ad_movePlace.code 3 = .ok (.iconst 0, 1) := by decide +kernel
theorem d_Ad_movePlace_4 : decode k_Ad_movePlace.code 4 = .ok (.istore 6, 2) := by decide +kernel
theorem d_Ad_movePlace_6 : decode k_Ad_movePlace.code 6 = .ok (.iconst 0, 1) := by decide +kernel
theorem d_Ad_movePlace_7 : decode k_Ad_movePlace.code 7 = .ok (.istore 7, 2) := by decide +kernel
theorem d_Ad_movePlace_9 : decode k_Ad_movePlace.code 9 = .ok (.iload 7, 2) := by decide +kernel
theorem d_Ad_movePlace_11 : decode k_Ad_movePlace.code 11 = .ok (.iconst 4, 1) := by decide +kernel
theorem d_Ad_movePlace_12 : decode k_Ad_movePlace.code 12 = .ok (.if_icmp .ge 49, 3) := by decide +kernel
theorem d_Ad_movePlace_15 : decode k_Ad_movePlace.code 15 = .ok (.aload_n 1, 1) := by decide +kernel
theorem d_Ad_movePlace_16 : decode k_Ad_movePlace.code 16 = .ok (.iload_n 2, 1) := by decide +kernel
theorem d_Ad_movePlace_17 : decode k_Ad_movePlace.code 17 = .ok (.iload 7, 2) := by decide +kernel
theorem s_Ad_movePlace_19 : SiteV k_Ad_movePlace k_Pl_isNoted 19 4 2 := ⟨55, (R_Pl, F_Pl, 5), by decide +kernel, ⟨kw_Pl_isNoted, tx1 5 rfl rfl, by decide, by decide⟩, tx2 10 rfl rfl, tx2 11 rfl rfl, tx2 12 rfl rfl, rfl, ⟨by decide +kernel, by decide +kernel⟩, np_Pl_isNoted⟩
theorem d_Ad_movePlace_22 : decode k_Ad_movePlace.code 22 = .ok (.ifCond .eq 33, 3) := by decide +kernel
theorem d_Ad_movePlace_25 : decode k_Ad_movePlace.code 25 = .ok (.lload 4, 2) := by decide +kernel
theorem d_Ad_movePlace_27 : decode k_Ad_movePlace.code 27 = .ok (.ldc2_w 59, 3) := by decide +kernel
theorem c_Ad_movePlace_27 : Cond.constantLong k_Ad_movePlace.y.cls 59 1000 ∈ tw := tx2 14 rfl rfl
theorem d_Ad_movePlace_30 : decode k_Ad_movePlace.code 30 = .ok (.aload_n 1, 1) := by decide +kernel
theorem d_Ad_movePlace_31 : decode k_Ad_movePlace.code 31 = .ok (.iload_n 2, 1) := by decide +kernel
theorem d_Ad_movePlace_32 : decode k_Ad_movePlace.code 32 = .ok (.iload 7, 2) := by decide +kernel
theorem d_Ad_movePlace_34 : decode k_Ad_movePlace.code 34 = .ok (.iload_n 3, 1) := by decide +kernel
theorem s_Ad_movePlace_35 : SiteV k_Ad_movePlace k_Pl_where 35 4 3 := ⟨61, (R_Pl, F_Pl, 5), by decide +kernel, ⟨kw_Pl_where, tx1 5 rfl rfl, by decide, by decide⟩, tx2 15 rfl rfl, tx2 16 rfl rfl, tx2 17 rfl rfl, rfl, ⟨by decide +kernel, by decide +kernel⟩, np_Pl_where⟩
theorem d_Ad_movePlace_38 : decode k_Ad_movePlace.code 38 = .ok (.i2l, 1) := by decide +kernel
theorem d_Ad_movePlace_39 : decode k_Ad_movePlace.code 39 = .ok (.lmul, 1) := by decide +kernel
theorem d_Ad_movePlace_40 : decode k_Ad_movePlace.code 40 = .ok (.aload_n 0, 1) := by decide +kernel
theorem d_Ad_movePlace_41 : decode k_Ad_movePlace.code 41 = .ok (.iload 7, 2) := by decide +kernel
theorem d_Ad_movePlace_43 : decode k_Ad_movePlace.code 43 = .ok (.iload_n 3, 1) := by decide +kernel
theorem s_Ad_movePlace_44 : SiteV k_Ad_movePlace k_Ad_moved 44 0 2 := ⟨69, (R_Ad, F_Ad, 4), by decide +kernel, ⟨kw_Ad_moved, tx1 7 rfl rfl, by decide, by decide⟩, tx2 23 rfl rfl, tx2 24 rfl rfl, tx2 25 rfl rfl, rfl, ⟨by decide +kernel, by decide +kernel⟩, np_Ad_moved⟩
theorem d_Ad_movePlace_47 : decode k_Ad_movePlace.code 47 = .ok (.i2l, 1) := by decide +kernel
theorem d_Ad_movePlace_48 : decode k_Ad_movePlace.code 48 = .ok (.lsub, 1) := by decide +kernel
theorem d_Ad_movePlace_49 : decode k_Ad_movePlace.code 49 = .ok (.ladd, 1) := by decide +kernel
theorem d_Ad_movePlace_50 : decode k_Ad_movePlace.code 50 = .ok (.lstore 4, 2) := by decide +kernel
theorem d_Ad_movePlace_52 : decode k_Ad_movePlace.code 52 = .ok (.iinc 6 1, 3) := by decide +kernel
theorem d_Ad_movePlace_55 : decode k_Ad_movePlace.code 55 = .ok (.iinc 7 1, 3) := by decide +kernel
theorem d_Ad_movePlace_58 : decode k_Ad_movePlace.code 58 = .ok (.goto (-49), 3) := by decide +kernel
theorem d_Ad_movePlace_61 : decode k_Ad_movePlace.code 61 = .ok (.aload_n 0, 1) := by decide +kernel
theorem g_Ad_movePlace_62 : SiteG k_Ad_movePlace 62 0 0 := ⟨9, 4, R_Ad, "PhotoModels$Adjustment", F_Ad, by decide +kernel, tx1 139 rfl rfl, i_Ad, rfl, rfl, by decide⟩
theorem d_Ad_movePlace_65 : decode k_Ad_movePlace.code 65 = .ok (.iload_n 2, 1) := by decide +kernel
theorem d_Ad_movePlace_66 : decode k_Ad_movePlace.code 66 = .ok (.iconst 2, 1) := by decide +kernel
theorem d_Ad_movePlace_67 : decode k_Ad_movePlace.code 67 = .ok (.imul, 1) := by decide +kernel
theorem d_Ad_movePlace_68 : decode k_Ad_movePlace.code 68 = .ok (.iload_n 3, 1) := by decide +kernel
theorem d_Ad_movePlace_69 : decode k_Ad_movePlace.code 69 = .ok (.iadd, 1) := by decide +kernel
theorem d_Ad_movePlace_70 : decode k_Ad_movePlace.code 70 = .ok (.lload 4, 2) := by decide +kernel
theorem d_Ad_movePlace_72 : decode k_Ad_movePlace.code 72 = .ok (.iload 6, 2) := by decide +kernel
theorem d_Ad_movePlace_74 : decode k_Ad_movePlace.code 74 = .ok (.iconst 0, 1) := by decide +kernel
theorem s_Ad_movePlace_75 : SiteS k_Ad_movePlace k_Ad_mean 75 3 := ⟨85, by decide +kernel, ⟨kw_Ad_mean, tx1 7 rfl rfl, by decide, by decide⟩, Or.inl (tx3 91 rfl rfl), tx3 92 rfl rfl, ⟨by decide +kernel, by decide +kernel⟩, np_Ad_mean⟩
theorem d_Ad_movePlace_78 : decode k_Ad_movePlace.code 78 = .ok (.iastore, 1) := by decide +kernel
theorem d_Ad_movePlace_79 : decode k_Ad_movePlace.code 79 = .ok (.return_, 1) := by decide +kernel
theorem d_Ad_mean_0 : decode k_Ad_mean.code 0 = .ok (.iload_n 2, 1) := by decide +kernel
theorem d_Ad_mean_1 : decode k_Ad_mean.code 1 = .ok (.ifCond .ne 7, 3) := by decide +kernel
theorem d_Ad_mean_4 : decode k_Ad_mean.code 4 = .ok (.iload_n 3, 1) := by decide +kernel
theorem d_Ad_mean_5 : decode k_Ad_mean.code 5 = .ok (.goto 10, 3) := by decide +kernel
theorem d_Ad_mean_8 : decode k_Ad_mean.code 8 = .ok (.lload_n 0, 1) := by decide +kernel
theorem d_Ad_mean_9 : decode k_Ad_mean.code 9 = .ok (.iload_n 2, 1) := by decide +kernel
theorem d_Ad_mean_10 : decode k_Ad_mean.code 10 = .ok (.i2l, 1) := by decide +kernel
theorem s_Ad_mean_11 : SiteS k_Ad_mean k_Math_floorDiv 11 2 := ⟨92, by decide +kernel, ⟨kw_Math_floorDiv, tx1 2 rfl rfl, by decide, by decide⟩, Or.inl (tx3 94 rfl rfl), tx3 95 rfl rfl, ⟨by decide +kernel, by decide +kernel⟩, np_Math_floorDiv⟩
theorem d_Ad_mean_14 : decode k_Ad_mean.code 14 = .ok (.l2i, 1) := by decide +kernel
theorem d_Ad_mean_15 : decode k_Ad_mean.code 15 = .ok (.ireturn, 1) := by decide +kernel
theorem d_Ad_remember_0 : decode k_Ad_remember.code 0 = .ok (.aload_n 0, 1) := by decide +kernel
theorem g_Ad_remember_1 : SiteG k_Ad_remember 1 0 0 := ⟨9, 4, R_Ad, "PhotoModels$Adjustment", F_Ad, by decide +kernel, tx1 139 rfl rfl, i_Ad, rfl, rfl, by decide⟩
theorem d_Ad_remember_4 : decode k_Ad_remember.code 4 = .ok (.iconst 0, 1) := by decide +kernel
theorem d_Ad_remember_5 : decode k_Ad_remember.code 5 = .ok (.aload_n 0, 1) := by decide +kernel
theorem g_Ad_remember_6 : SiteG k_Ad_remember 6 0 2 := ⟨18, 4, R_Ad, "PhotoModels$Adjustment", F_Ad, by decide +kernel, tx1 141 rfl rfl, i_Ad, rfl, rfl, by decide⟩
theorem d_Ad_remember_9 : decode k_Ad_remember.code 9 = .ok (.iconst 0, 1) := by decide +kernel
theorem d_Ad_remember_10 : decode k_Ad_remember.code 10 = .ok (.aload_n 0, 1) := by decide +kernel
theorem g_Ad_remember_11 : SiteG k_Ad_remember 11 0 0 := ⟨9, 4, R_Ad, "PhotoModels$Adjustment", F_Ad, by decide +kernel, tx1 139 rfl rfl, i_Ad, rfl, rfl, by decide⟩
theorem d_Ad_remember_14 : decode k_Ad_remember.code 14 = .ok (.arraylength, 1) := by decide +kernel
theorem s_Ad_remember_15 : SiteC k_Ad_remember 15 := ⟨98, by decide +kernel, tx3 102 rfl rfl, tx3 104 rfl rfl, tx3 103 rfl rfl, tx1 18 rfl rfl, by decide, by decide⟩
theorem d_Ad_remember_18 : decode k_Ad_remember.code 18 = .ok (.aload_n 0, 1) := by decide +kernel
theorem g_Ad_remember_19 : SiteG k_Ad_remember 19 0 1 := ⟨15, 4, R_Ad, "PhotoModels$Adjustment", F_Ad, by decide +kernel, tx1 140 rfl rfl, i_Ad, rfl, rfl, by decide⟩
theorem d_Ad_remember_22 : decode k_Ad_remember.code 22 = .ok (.iconst 0, 1) := by decide +kernel
theorem d_Ad_remember_23 : decode k_Ad_remember.code 23 = .ok (.aload_n 0, 1) := by decide +kernel
theorem g_Ad_remember_24 : SiteG k_Ad_remember 24 0 3 := ⟨21, 4, R_Ad, "PhotoModels$Adjustment", F_Ad, by decide +kernel, tx1 142 rfl rfl, i_Ad, rfl, rfl, by decide⟩
theorem d_Ad_remember_27 : decode k_Ad_remember.code 27 = .ok (.iconst 0, 1) := by decide +kernel
theorem d_Ad_remember_28 : decode k_Ad_remember.code 28 = .ok (.aload_n 0, 1) := by decide +kernel
theorem g_Ad_remember_29 : SiteG k_Ad_remember 29 0 1 := ⟨15, 4, R_Ad, "PhotoModels$Adjustment", F_Ad, by decide +kernel, tx1 140 rfl rfl, i_Ad, rfl, rfl, by decide⟩
theorem d_Ad_remember_32 : decode k_Ad_remember.code 32 = .ok (.arraylength, 1) := by decide +kernel
theorem s_Ad_remember_33 : SiteC k_Ad_remember 33 := ⟨98, by decide +kernel, tx3 102 rfl rfl, tx3 104 rfl rfl, tx3 103 rfl rfl, tx1 18 rfl rfl, by decide, by decide⟩
theorem d_Ad_remember_36 : decode k_Ad_remember.code 36 = .ok (.return_, 1) := by decide +kernel
theorem d_Ad_doRound_0 : decode k_Ad_doRound.code 0 = .ok (.iconst 1, 1) := by decide +kernel
theorem d_Ad_doRound_1 : decode k_Ad_doRound.code 1 = .ok (.istore_n 2, 1) := by decide +kernel
theorem d_Ad_doRound_2 : decode k_Ad_doRound.code 2 = .ok (.iload_n 2, 1) := by decide +kernel
theorem d_Ad_doRound_3 : decode k_Ad_doRound.code 3 = .ok (.iconst 4, 1) := by decide +kernel
theorem d_Ad_doRound_4 : decode k_Ad_doRound.code 4 = .ok (.if_icmp .ge 29, 3) := by decide +kernel
theorem d_Ad_doRound_7 : decode k_Ad_doRound.code 7 = .ok (.iconst 0, 1) := by decide +kernel
theorem d_Ad_doRound_8 : decode k_Ad_doRound.code 8 = .ok (.istore_n 3, 1) := by decide +kernel
theorem d_Ad_doRound_9 : decode k_Ad_doRound.code 9 = .ok (.iload_n 3, 1) := by decide +kernel
theorem d_Ad_doRound_10 : decode k_Ad_doRound.code 10 = .ok (.iconst 2, 1) := by decide +kernel
theorem d_Ad_doRound_11 : decode k_Ad_doRound.code 11 = .ok (.if_icmp .ge 16, 3) := by decide +kernel
theorem d_Ad_doRound_14 : decode k_Ad_doRound.code 14 = .ok (.aload_n 0, 1) := by decide +kernel
theorem d_Ad_doRound_15 : decode k_Ad_doRound.code 15 = .ok (.aload_n 1, 1) := by decide +kernel
theorem d_Ad_doRound_16 : decode k_Ad_doRound.code 16 = .ok (.iload_n 2, 1) := by decide +kernel
theorem d_Ad_doRound_17 : decode k_Ad_doRound.code 17 = .ok (.iload_n 3, 1) := by decide +kernel
theorem s_Ad_doRound_18 : SiteV k_Ad_doRound k_Ad_movePhoto 18 0 3 := ⟨81, (R_Ad, F_Ad, 4), by decide +kernel, ⟨kw_Ad_movePhoto, tx1 7 rfl rfl, by decide, by decide⟩, tx3 109 rfl rfl, tx3 111 rfl rfl, twp 12 rfl rfl, rfl, ⟨by decide +kernel, by decide +kernel⟩, np_Ad_movePhoto⟩
theorem d_Ad_doRound_21 : decode k_Ad_doRound.code 21 = .ok (.iinc 3 1, 3) := by decide +kernel
theorem d_Ad_doRound_24 : decode k_Ad_doRound.code 24 = .ok (.goto (-15), 3) := by decide +kernel
theorem d_Ad_doRound_27 : decode k_Ad_doRound.code 27 = .ok (.iinc 2 1, 3) := by decide +kernel
theorem d_Ad_doRound_30 : decode k_Ad_doRound.code 30 = .ok (.goto (-28), 3) := by decide +kernel
theorem d_Ad_doRound_33 : decode k_Ad_doRound.code 33 = .ok (.aload_n 0, 1) := by decide +kernel
theorem d_Ad_doRound_34 : decode k_Ad_doRound.code 34 = .ok (.aload_n 1, 1) := by decide +kernel
theorem s_Ad_doRound_35 : SiteV k_Ad_doRound k_Ad_movePlaces 35 0 1 := ⟨78, (R_Ad, F_Ad, 4), by decide +kernel, ⟨kw_Ad_movePlaces, tx1 7 rfl rfl, by decide, by decide⟩, tx3 83 rfl rfl, tx3 85 rfl rfl, twp 8 rfl rfl, rfl, ⟨by decide +kernel, by decide +kernel⟩, np_Ad_movePlaces⟩
theorem d_Ad_doRound_38 : decode k_Ad_doRound.code 38 = .ok (.return_, 1) := by decide +kernel
theorem d_Ad_movePhoto_0 : decode k_Ad_movePhoto.code 0 = .ok (.lconst 0, 1) := by decide +kernel
theorem d_Ad_movePhoto_1 : decode k_Ad_movePhoto.code 1 = .ok (.lstore 4, 2) := by decide +kernel
theorem d_Ad_movePhoto_3 : decode k_Ad_movePhoto.code 3 = .ok (.iconst 0, 1) := by decide +kernel
theorem d_Ad_movePhoto_4 : decode k_Ad_movePhoto.code 4 = .ok (.istore 6, 2) := by decide +kernel
theorem d_Ad_movePhoto_6 : decode k_Ad_movePhoto.code 6 = .ok (.iconst 0, 1) := by decide +kernel
theorem d_Ad_movePhoto_7 : decode k_Ad_movePhoto.code 7 = .ok (.istore 7, 2) := by decide +kernel
theorem d_Ad_movePhoto_9 : decode k_Ad_movePhoto.code 9 = .ok (.iload 7, 2) := by decide +kernel
theorem d_Ad_movePhoto_11 : decode k_Ad_movePhoto.code 11 = .ok (.aload_n 1, 1) := by decide +kernel
theorem s_Ad_movePhoto_12 : SiteV k_Ad_movePhoto k_Pl_number 12 4 0 := ⟨41, (R_Pl, F_Pl, 5), by decide +kernel, ⟨kw_Pl_number, tx1 5 rfl rfl, by decide, by decide⟩, tx1 238 rfl rfl, tx1 239 rfl rfl, tx2 0 rfl rfl, rfl, ⟨by decide +kernel, by decide +kernel⟩, np_Pl_number⟩
theorem d_Ad_movePhoto_15 : decode k_Ad_movePhoto.code 15 = .ok (.if_icmp .ge 58, 3) := by decide +kernel
theorem d_Ad_movePhoto_18 : decode k_Ad_movePhoto.code 18 = .ok (.aload_n 1, 1) := by decide +kernel
theorem d_Ad_movePhoto_19 : decode k_Ad_movePhoto.code 19 = .ok (.iload 7, 2) := by decide +kernel
theorem s_Ad_movePhoto_21 : SiteV k_Ad_movePhoto k_Pl_isSpare 21 4 1 := ⟨47, (R_Pl, F_Pl, 5), by decide +kernel, ⟨kw_Pl_isSpare, tx1 5 rfl rfl, by decide, by decide⟩, tx2 2 rfl rfl, tx2 3 rfl rfl, tx2 4 rfl rfl, rfl, ⟨by decide +kernel, by decide +kernel⟩, np_Pl_isSpare⟩
theorem d_Ad_movePhoto_24 : decode k_Ad_movePhoto.code 24 = .ok (.ifCond .ne 43, 3) := by decide +kernel
theorem d_Ad_movePhoto_27 : decode k_Ad_movePhoto.code 27 = .ok (.aload_n 1, 1) := by decide +kernel
theorem d_Ad_movePhoto_28 : decode k_Ad_movePhoto.code 28 = .ok (.iload 7, 2) := by decide +kernel
theorem d_Ad_movePhoto_30 : decode k_Ad_movePhoto.code 30 = .ok (.iload_n 2, 1) := by decide +kernel
theorem s_Ad_movePhoto_31 : SiteV k_Ad_movePhoto k_Pl_isNoted 31 4 2 := ⟨55, (R_Pl, F_Pl, 5), by decide +kernel, ⟨kw_Pl_isNoted, tx1 5 rfl rfl, by decide, by decide⟩, tx2 10 rfl rfl, tx2 11 rfl rfl, tx2 12 rfl rfl, rfl, ⟨by decide +kernel, by decide +kernel⟩, np_Pl_isNoted⟩
theorem d_Ad_movePhoto_34 : decode k_Ad_movePhoto.code 34 = .ok (.ifCond .eq 33, 3) := by decide +kernel
theorem d_Ad_movePhoto_37 : decode k_Ad_movePhoto.code 37 = .ok (.lload 4, 2) := by decide +kernel
theorem d_Ad_movePhoto_39 : decode k_Ad_movePhoto.code 39 = .ok (.ldc2_w 59, 3) := by decide +kernel
theorem c_Ad_movePhoto_39 : Cond.constantLong k_Ad_movePhoto.y.cls 59 1000 ∈ tw := tx2 14 rfl rfl
theorem d_Ad_movePhoto_42 : decode k_Ad_movePhoto.code 42 = .ok (.aload_n 1, 1) := by decide +kernel
theorem d_Ad_movePhoto_43 : decode k_Ad_movePhoto.code 43 = .ok (.iload 7, 2) := by decide +kernel
theorem d_Ad_movePhoto_45 : decode k_Ad_movePhoto.code 45 = .ok (.iload_n 2, 1) := by decide +kernel
theorem d_Ad_movePhoto_46 : decode k_Ad_movePhoto.code 46 = .ok (.iload_n 3, 1) := by decide +kernel
theorem s_Ad_movePhoto_47 : SiteV k_Ad_movePhoto k_Pl_where 47 4 3 := ⟨61, (R_Pl, F_Pl, 5), by decide +kernel, ⟨kw_Pl_where, tx1 5 rfl rfl, by decide, by decide⟩, tx2 15 rfl rfl, tx2 16 rfl rfl, tx2 17 rfl rfl, rfl, ⟨by decide +kernel, by decide +kernel⟩, np_Pl_where⟩
theorem d_Ad_movePhoto_50 : decode k_Ad_movePhoto.code 50 = .ok (.i2l, 1) := by decide +kernel
theorem d_Ad_movePhoto_51 : decode k_Ad_movePhoto.code 51 = .ok (.lmul, 1) := by decide +kernel
theorem d_Ad_movePhoto_52 : decode k_Ad_movePhoto.code 52 = .ok (.aload_n 0, 1) := by decide +kernel
theorem d_Ad_movePhoto_53 : decode k_Ad_movePhoto.code 53 = .ok (.iload 7, 2) := by decide +kernel
theorem d_Ad_movePhoto_55 : decode k_Ad_movePhoto.code 55 = .ok (.iload_n 3, 1) := by decide +kernel
theorem s_Ad_movePhoto_56 : SiteV k_Ad_movePhoto k_Ad_position 56 0 2 := ⟨65, (R_Ad, F_Ad, 4), by decide +kernel, ⟨kw_Ad_position, tx1 7 rfl rfl, by decide, by decide⟩, tx2 19 rfl rfl, tx2 20 rfl rfl, tx2 21 rfl rfl, rfl, ⟨by decide +kernel, by decide +kernel⟩, np_Ad_position⟩
theorem d_Ad_movePhoto_59 : decode k_Ad_movePhoto.code 59 = .ok (.i2l, 1) := by decide +kernel
theorem d_Ad_movePhoto_60 : decode k_Ad_movePhoto.code 60 = .ok (.lsub, 1) := by decide +kernel
theorem d_Ad_movePhoto_61 : decode k_Ad_movePhoto.code 61 = .ok (.ladd, 1) := by decide +kernel
theorem d_Ad_movePhoto_62 : decode k_Ad_movePhoto.code 62 = .ok (.lstore 4, 2) := by decide +kernel
theorem d_Ad_movePhoto_64 : decode k_Ad_movePhoto.code 64 = .ok (.iinc 6 1, 3) := by decide +kernel
theorem d_Ad_movePhoto_67 : decode k_Ad_movePhoto.code 67 = .ok (.iinc 7 1, 3) := by decide +kernel
theorem d_Ad_movePhoto_70 : decode k_Ad_movePhoto.code 70 = .ok (.goto (-61), 3) := by decide +kernel
theorem d_Ad_movePhoto_73 : decode k_Ad_movePhoto.code 73 = .ok (.aload_n 0, 1) := by decide +kernel
theorem g_Ad_movePhoto_74 : SiteG k_Ad_movePhoto 74 0 1 := ⟨15, 4, R_Ad, "PhotoModels$Adjustment", F_Ad, by decide +kernel, tx1 140 rfl rfl, i_Ad, rfl, rfl, by decide⟩
theorem d_Ad_movePhoto_77 : decode k_Ad_movePhoto.code 77 = .ok (.iload_n 2, 1) := by decide +kernel
theorem d_Ad_movePhoto_78 : decode k_Ad_movePhoto.code 78 = .ok (.iconst 2, 1) := by decide +kernel
theorem d_Ad_movePhoto_79 : decode k_Ad_movePhoto.code 79 = .ok (.imul, 1) := by decide +kernel
theorem d_Ad_movePhoto_80 : decode k_Ad_movePhoto.code 80 = .ok (.iload_n 3, 1) := by decide +kernel
theorem d_Ad_movePhoto_81 : decode k_Ad_movePhoto.code 81 = .ok (.iadd, 1) := by decide +kernel
theorem d_Ad_movePhoto_82 : decode k_Ad_movePhoto.code 82 = .ok (.lload 4, 2) := by decide +kernel
theorem d_Ad_movePhoto_84 : decode k_Ad_movePhoto.code 84 = .ok (.iload 6, 2) := by decide +kernel
theorem d_Ad_movePhoto_86 : decode k_Ad_movePhoto.code 86 = .ok (.aload_n 0, 1) := by decide +kernel
theorem d_Ad_movePhoto_87 : decode k_Ad_movePhoto.code 87 = .ok (.iload_n 2, 1) := by decide +kernel
theorem d_Ad_movePhoto_88 : decode k_Ad_movePhoto.code 88 = .ok (.iload_n 3, 1) := by decide +kernel
theorem s_Ad_movePhoto_89 : SiteV k_Ad_movePhoto k_Ad_moved 89 0 2 := ⟨69, (R_Ad, F_Ad, 4), by decide +kernel, ⟨kw_Ad_moved, tx1 7 rfl rfl, by decide, by decide⟩, tx2 23 rfl rfl, tx2 24 rfl rfl, tx2 25 rfl rfl, rfl, ⟨by decide +kernel, by decide +kernel⟩, np_Ad_moved⟩
theorem s_Ad_movePhoto_92 : SiteS k_Ad_movePhoto k_Ad_mean 92 3 := ⟨85, by decide +kernel, ⟨kw_Ad_mean, tx1 7 rfl rfl, by decide, by decide⟩, Or.inl (tx3 91 rfl rfl), tx3 92 rfl rfl, ⟨by decide +kernel, by decide +kernel⟩, np_Ad_mean⟩
theorem d_Ad_movePhoto_95 : decode k_Ad_movePhoto.code 95 = .ok (.iastore, 1) := by decide +kernel
theorem d_Ad_movePhoto_96 : decode k_Ad_movePhoto.code 96 = .ok (.return_, 1) := by decide +kernel
theorem d_Ad_undo_0 : decode k_Ad_undo.code 0 = .ok (.aload_n 0, 1) := by decide +kernel
theorem g_Ad_undo_1 : SiteG k_Ad_undo 1 0 2 := ⟨18, 4, R_Ad, "PhotoModels$Adjustment", F_Ad, by decide +kernel, tx1 141 rfl rfl, i_Ad, rfl, rfl, by decide⟩
theorem d_Ad_undo_4 : decode k_Ad_undo.code 4 = .ok (.iconst 0, 1) := by decide +kernel
theorem d_Ad_undo_5 : decode k_Ad_undo.code 5 = .ok (.aload_n 0, 1) := by decide +kernel
theorem g_Ad_undo_6 : SiteG k_Ad_undo 6 0 0 := ⟨9, 4, R_Ad, "PhotoModels$Adjustment", F_Ad, by decide +kernel, tx1 139 rfl rfl, i_Ad, rfl, rfl, by decide⟩
theorem d_Ad_undo_9 : decode k_Ad_undo.code 9 = .ok (.iconst 0, 1) := by decide +kernel
theorem d_Ad_undo_10 : decode k_Ad_undo.code 10 = .ok (.aload_n 0, 1) := by decide +kernel
theorem g_Ad_undo_11 : SiteG k_Ad_undo 11 0 0 := ⟨9, 4, R_Ad, "PhotoModels$Adjustment", F_Ad, by decide +kernel, tx1 139 rfl rfl, i_Ad, rfl, rfl, by decide⟩
theorem d_Ad_undo_14 : decode k_Ad_undo.code 14 = .ok (.arraylength, 1) := by decide +kernel
theorem s_Ad_undo_15 : SiteC k_Ad_undo 15 := ⟨98, by decide +kernel, tx3 102 rfl rfl, tx3 104 rfl rfl, tx3 103 rfl rfl, tx1 18 rfl rfl, by decide, by decide⟩
theorem d_Ad_undo_18 : decode k_Ad_undo.code 18 = .ok (.aload_n 0, 1) := by decide +kernel
theorem g_Ad_undo_19 : SiteG k_Ad_undo 19 0 3 := ⟨21, 4, R_Ad, "PhotoModels$Adjustment", F_Ad, by decide +kernel, tx1 142 rfl rfl, i_Ad, rfl, rfl, by decide⟩
theorem d_Ad_undo_22 : decode k_Ad_undo.code 22 = .ok (.iconst 0, 1) := by decide +kernel
theorem d_Ad_undo_23 : decode k_Ad_undo.code 23 = .ok (.aload_n 0, 1) := by decide +kernel
theorem g_Ad_undo_24 : SiteG k_Ad_undo 24 0 1 := ⟨15, 4, R_Ad, "PhotoModels$Adjustment", F_Ad, by decide +kernel, tx1 140 rfl rfl, i_Ad, rfl, rfl, by decide⟩
theorem d_Ad_undo_27 : decode k_Ad_undo.code 27 = .ok (.iconst 0, 1) := by decide +kernel
theorem d_Ad_undo_28 : decode k_Ad_undo.code 28 = .ok (.aload_n 0, 1) := by decide +kernel
theorem g_Ad_undo_29 : SiteG k_Ad_undo 29 0 1 := ⟨15, 4, R_Ad, "PhotoModels$Adjustment", F_Ad, by decide +kernel, tx1 140 rfl rfl, i_Ad, rfl, rfl, by decide⟩
theorem d_Ad_undo_32 : decode k_Ad_undo.code 32 = .ok (.arraylength, 1) := by decide +kernel
theorem s_Ad_undo_33 : SiteC k_Ad_undo 33 := ⟨98, by decide +kernel, tx3 102 rfl rfl, tx3 104 rfl rfl, tx3 103 rfl rfl, tx1 18 rfl rfl, by decide, by decide⟩
theorem d_Ad_undo_36 : decode k_Ad_undo.code 36 = .ok (.return_, 1) := by decide +kernel
theorem d_Re_raise_0 : decode k_Re_raise.code 0 = .ok (.iconst 0, 1) := by decide +kernel
theorem d_Re_raise_1 : decode k_Re_raise.code 1 = .ok (.istore 5, 2) := by decide +kernel
theorem d_Re_raise_3 : decode k_Re_raise.code 3 = .ok (.iconst 0, 1) := by decide +kernel
theorem d_Re_raise_4 : decode k_Re_raise.code 4 = .ok (.istore 6, 2) := by decide +kernel
theorem d_Re_raise_6 : decode k_Re_raise.code 6 = .ok (.iload 6, 2) := by decide +kernel
theorem d_Re_raise_8 : decode k_Re_raise.code 8 = .ok (.aload_n 0, 1) := by decide +kernel
theorem g_Re_raise_9 : SiteG k_Re_raise 9 5 1 := ⟨15, 10, R_Re, "PhotoModels$Relief", F_Re, by decide +kernel, tx1 178 rfl rfl, i_Re, rfl, rfl, by decide⟩
theorem d_Re_raise_12 : decode k_Re_raise.code 12 = .ok (.if_icmp .ge 36, 3) := by decide +kernel
theorem d_Re_raise_15 : decode k_Re_raise.code 15 = .ok (.aload_n 0, 1) := by decide +kernel
theorem d_Re_raise_16 : decode k_Re_raise.code 16 = .ok (.aload_n 1, 1) := by decide +kernel
theorem d_Re_raise_17 : decode k_Re_raise.code 17 = .ok (.iload_n 2, 1) := by decide +kernel
theorem d_Re_raise_18 : decode k_Re_raise.code 18 = .ok (.iload_n 3, 1) := by decide +kernel
theorem d_Re_raise_19 : decode k_Re_raise.code 19 = .ok (.iload 6, 2) := by decide +kernel
theorem d_Re_raise_21 : decode k_Re_raise.code 21 = .ok (.iload 4, 2) := by decide +kernel
theorem s_Re_raise_23 : SiteV k_Re_raise k_Re_fillCosts 23 5 5 := ⟨42, (R_Re, F_Re, 10), by decide +kernel, ⟨kw_Re_fillCosts, tx1 9 rfl rfl, by decide, by decide⟩, tx3 188 rfl rfl, tx3 190 rfl rfl, twp 14 rfl rfl, rfl, ⟨by decide +kernel, by decide +kernel⟩, np_Re_fillCosts⟩
theorem d_Re_raise_26 : decode k_Re_raise.code 26 = .ok (.iload 5, 2) := by decide +kernel
theorem d_Re_raise_28 : decode k_Re_raise.code 28 = .ok (.aload_n 0, 1) := by decide +kernel
theorem d_Re_raise_29 : decode k_Re_raise.code 29 = .ok (.aload_n 1, 1) := by decide +kernel
theorem d_Re_raise_30 : decode k_Re_raise.code 30 = .ok (.iload_n 2, 1) := by decide +kernel
theorem d_Re_raise_31 : decode k_Re_raise.code 31 = .ok (.iload_n 3, 1) := by decide +kernel
theorem d_Re_raise_32 : decode k_Re_raise.code 32 = .ok (.iload 6, 2) := by decide +kernel
theorem d_Re_raise_34 : decode k_Re_raise.code 34 = .ok (.iload 4, 2) := by decide +kernel
theorem s_Re_raise_36 : SiteV k_Re_raise k_Re_traceBack 36 5 5 := ⟨46, (R_Re, F_Re, 10), by decide +kernel, ⟨kw_Re_traceBack, tx1 9 rfl rfl, by decide, by decide⟩, tx3 212 rfl rfl, tx3 214 rfl rfl, twp 17 rfl rfl, rfl, ⟨by decide +kernel, by decide +kernel⟩, np_Re_traceBack⟩
theorem d_Re_raise_39 : decode k_Re_raise.code 39 = .ok (.iadd, 1) := by decide +kernel
theorem d_Re_raise_40 : decode k_Re_raise.code 40 = .ok (.istore 5, 2) := by decide +kernel
theorem d_Re_raise_42 : decode k_Re_raise.code 42 = .ok (.iinc 6 1, 3) := by decide +kernel
theorem d_Re_raise_45 : decode k_Re_raise.code 45 = .ok (.goto (-39), 3) := by decide +kernel
theorem d_Re_raise_48 : decode k_Re_raise.code 48 = .ok (.aload_n 0, 1) := by decide +kernel
theorem d_Re_raise_49 : decode k_Re_raise.code 49 = .ok (.iconst 1, 1) := by decide +kernel
theorem p_Re_raise_50 : SiteP k_Re_raise 50 5 9 .boolean := ⟨38, 10, R_Re, "PhotoModels$Relief", F_Re, t_Re, t_Re_ok, n_Re, by decide +kernel, tx1 186 rfl rfl, i_Re, rfl, Or.inl rfl, rfl, by decide, rfl⟩
theorem d_Re_raise_53 : decode k_Re_raise.code 53 = .ok (.iload 5, 2) := by decide +kernel
theorem d_Re_raise_55 : decode k_Re_raise.code 55 = .ok (.ireturn, 1) := by decide +kernel
theorem d_Re_fillCosts_0 : decode k_Re_fillCosts.code 0 = .ok (.iconst 0, 1) := by decide +kernel
theorem d_Re_fillCosts_1 : decode k_Re_fillCosts.code 1 = .ok (.istore 6, 2) := by decide +kernel
theorem d_Re_fillCosts_3 : decode k_Re_fillCosts.code 3 = .ok (.iload 6, 2) := by decide +kernel
theorem d_Re_fillCosts_5 : decode k_Re_fillCosts.code 5 = .ok (.aload_n 0, 1) := by decide +kernel
theorem g_Re_fillCosts_6 : SiteG k_Re_fillCosts 6 5 0 := ⟨9, 10, R_Re, "PhotoModels$Relief", F_Re, by decide +kernel, tx1 177 rfl rfl, i_Re, rfl, rfl, by decide⟩
theorem d_Re_fillCosts_9 : decode k_Re_fillCosts.code 9 = .ok (.if_icmp .ge 91, 3) := by decide +kernel
theorem d_Re_fillCosts_12 : decode k_Re_fillCosts.code 12 = .ok (.iconst 0, 1) := by decide +kernel
theorem d_Re_fillCosts_13 : decode k_Re_fillCosts.code 13 = .ok (.istore 7, 2) := by decide +kernel
theorem d_Re_fillCosts_15 : decode k_Re_fillCosts.code 15 = .ok (.iload 7, 2) := by decide +kernel
theorem d_Re_fillCosts_17 : decode k_Re_fillCosts.code 17 = .ok (.iload 6, 2) := by decide +kernel
theorem s_Re_fillCosts_19 : SiteS k_Re_fillCosts k_Re_depthsAt 19 1 := ⟨50, by decide +kernel, ⟨kw_Re_depthsAt, tx1 9 rfl rfl, by decide, by decide⟩, Or.inl (tx3 192 rfl rfl), tx3 193 rfl rfl, ⟨by decide +kernel, by decide +kernel⟩, np_Re_depthsAt⟩
theorem d_Re_fillCosts_22 : decode k_Re_fillCosts.code 22 = .ok (.if_icmp .ge 72, 3) := by decide +kernel
theorem d_Re_fillCosts_25 : decode k_Re_fillCosts.code 25 = .ok (.aload_n 1, 1) := by decide +kernel
theorem d_Re_fillCosts_26 : decode k_Re_fillCosts.code 26 = .ok (.iload_n 2, 1) := by decide +kernel
theorem d_Re_fillCosts_27 : decode k_Re_fillCosts.code 27 = .ok (.iload_n 3, 1) := by decide +kernel
theorem d_Re_fillCosts_28 : decode k_Re_fillCosts.code 28 = .ok (.iload 6, 2) := by decide +kernel
theorem d_Re_fillCosts_30 : decode k_Re_fillCosts.code 30 = .ok (.iload 4, 2) := by decide +kernel
theorem d_Re_fillCosts_32 : decode k_Re_fillCosts.code 32 = .ok (.iload 7, 2) := by decide +kernel
theorem s_Re_fillCosts_34 : SiteS k_Re_fillCosts k_Re_difference 34 6 := ⟨54, by decide +kernel, ⟨kw_Re_difference, tx1 9 rfl rfl, by decide, by decide⟩, Or.inl (tx3 196 rfl rfl), tx3 197 rfl rfl, ⟨by decide +kernel, by decide +kernel⟩, np_Re_difference⟩
theorem d_Re_fillCosts_37 : decode k_Re_fillCosts.code 37 = .ok (.istore 8, 2) := by decide +kernel
theorem d_Re_fillCosts_39 : decode k_Re_fillCosts.code 39 = .ok (.iload 6, 2) := by decide +kernel
theorem d_Re_fillCosts_41 : decode k_Re_fillCosts.code 41 = .ok (.ifCond .le 32, 3) := by decide +kernel
theorem d_Re_fillCosts_44 : decode k_Re_fillCosts.code 44 = .ok (.aload_n 0, 1) := by decide +kernel
theorem d_Re_fillCosts_45 : decode k_Re_fillCosts.code 45 = .ok (.iload 6, 2) := by decide +kernel
theorem d_Re_fillCosts_47 : decode k_Re_fillCosts.code 47 = .ok (.iload 7, 2) := by decide +kernel
theorem d_Re_fillCosts_49 : decode k_Re_fillCosts.code 49 = .ok (.iload 5, 2) := by decide +kernel
theorem s_Re_fillCosts_51 : SiteV k_Re_fillCosts k_Re_bestAhead 51 5 3 := ⟨58, (R_Re, F_Re, 10), by decide +kernel, ⟨kw_Re_bestAhead, tx1 9 rfl rfl, by decide, by decide⟩, tx3 204 rfl rfl, tx3 206 rfl rfl, twp 15 rfl rfl, rfl, ⟨by decide +kernel, by decide +kernel⟩, np_Re_bestAhead⟩
theorem d_Re_fillCosts_54 : decode k_Re_fillCosts.code 54 = .ok (.istore 9, 2) := by decide +kernel
theorem d_Re_fillCosts_56 : decode k_Re_fillCosts.code 56 = .ok (.iload 8, 2) := by decide +kernel
theorem d_Re_fillCosts_58 : decode k_Re_fillCosts.code 58 = .ok (.aload_n 0, 1) := by decide +kernel
theorem d_Re_fillCosts_59 : decode k_Re_fillCosts.code 59 = .ok (.iload 6, 2) := by decide +kernel
theorem d_Re_fillCosts_61 : decode k_Re_fillCosts.code 61 = .ok (.iload 9, 2) := by decide +kernel
theorem d_Re_fillCosts_63 : decode k_Re_fillCosts.code 63 = .ok (.iload 7, 2) := by decide +kernel
theorem d_Re_fillCosts_65 : decode k_Re_fillCosts.code 65 = .ok (.iload 5, 2) := by decide +kernel
theorem s_Re_fillCosts_67 : SiteV k_Re_fillCosts k_Re_costAhead 67 5 4 := ⟨62, (R_Re, F_Re, 10), by decide +kernel, ⟨kw_Re_costAhead, tx1 9 rfl rfl, by decide, by decide⟩, tx3 208 rfl rfl, tx3 210 rfl rfl, twp 16 rfl rfl, rfl, ⟨by decide +kernel, by decide +kernel⟩, np_Re_costAhead⟩
theorem d_Re_fillCosts_70 : decode k_Re_fillCosts.code 70 = .ok (.iadd, 1) := by decide +kernel
theorem d_Re_fillCosts_71 : decode k_Re_fillCosts.code 71 = .ok (.istore 8, 2) := by decide +kernel
theorem d_Re_fillCosts_73 : decode k_Re_fillCosts.code 73 = .ok (.aload_n 0, 1) := by decide +kernel
theorem g_Re_fillCosts_74 : SiteG k_Re_fillCosts 74 5 4 := ⟨25, 10, R_Re, "PhotoModels$Relief", F_Re, by decide +kernel, tx1 181 rfl rfl, i_Re, rfl, rfl, by decide⟩
theorem d_Re_fillCosts_77 : decode k_Re_fillCosts.code 77 = .ok (.iload 6, 2) := by decide +kernel
theorem d_Re_fillCosts_79 : decode k_Re_fillCosts.code 79 = .ok (.bipush 6, 2) := by decide +kernel
theorem d_Re_fillCosts_81 : decode k_Re_fillCosts.code 81 = .ok (.imul, 1) := by decide +kernel
theorem d_Re_fillCosts_82 : decode k_Re_fillCosts.code 82 = .ok (.iload 7, 2) := by decide +kernel
theorem d_Re_fillCosts_84 : decode k_Re_fillCosts.code 84 = .ok (.iadd, 1) := by decide +kernel
theorem d_Re_fillCosts_85 : decode k_Re_fillCosts.code 85 = .ok (.iload 8, 2) := by decide +kernel
theorem d_Re_fillCosts_87 : decode k_Re_fillCosts.code 87 = .ok (.iastore, 1) := by decide +kernel
theorem d_Re_fillCosts_88 : decode k_Re_fillCosts.code 88 = .ok (.iinc 7 1, 3) := by decide +kernel
theorem d_Re_fillCosts_91 : decode k_Re_fillCosts.code 91 = .ok (.goto (-76), 3) := by decide +kernel
theorem d_Re_fillCosts_94 : decode k_Re_fillCosts.code 94 = .ok (.iinc 6 1, 3) := by decide +kernel
theorem d_Re_fillCosts_97 : decode k_Re_fillCosts.code 97 = .ok (.goto (-94), 3) := by decide +kernel
theorem d_Re_fillCosts_100 : decode k_Re_fillCosts.code 100 = .ok (.return_, 1) := by decide +kernel
theorem d_Re_depthsAt_0 : decode k_Re_depthsAt.code 0 = .ok (.bipush 6, 2) := by decide +kernel
theorem d_Re_depthsAt_2 : decode k_Re_depthsAt.code 2 = .ok (.iload_n 0, 1) := by decide +kernel
theorem d_Re_depthsAt_3 : decode k_Re_depthsAt.code 3 = .ok (.iconst 1, 1) := by decide +kernel
theorem d_Re_depthsAt_4 : decode k_Re_depthsAt.code 4 = .ok (.iadd, 1) := by decide +kernel
theorem s_Re_depthsAt_5 : SiteM k_Re_depthsAt 5 Lib.Math.min.name Lib.Math.min.code 2 := ⟨71, by decide +kernel, tx3 195 rfl rfl, tx1 31 rfl rfl, tx1 2 rfl rfl, tx1 32 rfl rfl, by decide, by decide⟩
theorem d_Re_depthsAt_8 : decode k_Re_depthsAt.code 8 = .ok (.ireturn, 1) := by decide +kernel
theorem d_Re_difference_0 : decode k_Re_difference.code 0 = .ok (.aload_n 0, 1) := by decide +kernel
theorem d_Re_difference_1 : decode k_Re_difference.code 1 = .ok (.iload_n 1, 1) := by decide +kernel
theorem d_Re_difference_2 : decode k_Re_difference.code 2 = .ok (.iload_n 3, 1) := by decide +kernel
theorem d_Re_difference_3 : decode k_Re_difference.code 3 = .ok (.iload 4, 2) := by decide +kernel
theorem s_Re_difference_5 : SiteV k_Re_difference k_Ph_value 5 3 3 := ⟨75, (R_Ph, F_Ph, 3), by decide +kernel, ⟨kw_Ph_value, tx1 3 rfl rfl, by decide, by decide⟩, tx3 199 rfl rfl, tx3 200 rfl rfl, tx3 201 rfl rfl, rfl, ⟨by decide +kernel, by decide +kernel⟩, np_Ph_value⟩
theorem d_Re_difference_8 : decode k_Re_difference.code 8 = .ok (.aload_n 0, 1) := by decide +kernel
theorem d_Re_difference_9 : decode k_Re_difference.code 9 = .ok (.iload_n 2, 1) := by decide +kernel
theorem d_Re_difference_10 : decode k_Re_difference.code 10 = .ok (.iload_n 3, 1) := by decide +kernel
theorem d_Re_difference_11 : decode k_Re_difference.code 11 = .ok (.iload 5, 2) := by decide +kernel
theorem d_Re_difference_13 : decode k_Re_difference.code 13 = .ok (.isub, 1) := by decide +kernel
theorem d_Re_difference_14 : decode k_Re_difference.code 14 = .ok (.iload 4, 2) := by decide +kernel
theorem s_Re_difference_16 : SiteV k_Re_difference k_Ph_value 16 3 3 := ⟨75, (R_Ph, F_Ph, 3), by decide +kernel, ⟨kw_Ph_value, tx1 3 rfl rfl, by decide, by decide⟩, tx3 199 rfl rfl, tx3 200 rfl rfl, tx3 201 rfl rfl, rfl, ⟨by decide +kernel, by decide +kernel⟩, np_Ph_value⟩
theorem d_Re_difference_19 : decode k_Re_difference.code 19 = .ok (.isub, 1) := by decide +kernel
theorem s_Re_difference_20 : SiteM k_Re_difference 20 Lib.Math.abs.name Lib.Math.abs.code 1 := ⟨66, by decide +kernel, tx3 203 rfl rfl, tx2 179 rfl rfl, tx1 2 rfl rfl, tx2 180 rfl rfl, by decide, by decide⟩
theorem d_Re_difference_23 : decode k_Re_difference.code 23 = .ok (.ireturn, 1) := by decide +kernel
theorem d_Re_bestAhead_0 : decode k_Re_bestAhead.code 0 = .ok (.iconst 0, 1) := by decide +kernel
theorem d_Re_bestAhead_1 : decode k_Re_bestAhead.code 1 = .ok (.istore 4, 2) := by decide +kernel
theorem d_Re_bestAhead_3 : decode k_Re_bestAhead.code 3 = .ok (.aload_n 0, 1) := by decide +kernel
theorem d_Re_bestAhead_4 : decode k_Re_bestAhead.code 4 = .ok (.iload_n 1, 1) := by decide +kernel
theorem d_Re_bestAhead_5 : decode k_Re_bestAhead.code 5 = .ok (.iconst 0, 1) := by decide +kernel
theorem d_Re_bestAhead_6 : decode k_Re_bestAhead.code 6 = .ok (.iload_n 2, 1) := by decide +kernel
theorem d_Re_bestAhead_7 : decode k_Re_bestAhead.code 7 = .ok (.iload_n 3, 1) := by decide +kernel
theorem s_Re_bestAhead_8 : SiteV k_Re_bestAhead k_Re_costAhead 8 5 4 := ⟨62, (R_Re, F_Re, 10), by decide +kernel, ⟨kw_Re_costAhead, tx1 9 rfl rfl, by decide, by decide⟩, tx3 208 rfl rfl, tx3 210 rfl rfl, twp 16 rfl rfl, rfl, ⟨by decide +kernel, by decide +kernel⟩, np_Re_costAhead⟩
theorem d_Re_bestAhead_11 : decode k_Re_bestAhead.code 11 = .ok (.istore 5, 2) := by decide +kernel
theorem d_Re_bestAhead_13 : decode k_Re_bestAhead.code 13 = .ok (.iconst 1, 1) := by decide +kernel
theorem d_Re_bestAhead_14 : decode k_Re_bestAhead.code 14 = .ok (.istore 6, 2) := by decide +kernel
theorem d_Re_bestAhead_16 : decode k_Re_bestAhead.code 16 = .ok (.iload 6, 2) := by decide +kernel
theorem d_Re_bestAhead_18 : decode k_Re_bestAhead.code 18 = .ok (.iload_n 1, 1) := by decide +kernel
theorem d_Re_bestAhead_19 : decode k_Re_bestAhead.code 19 = .ok (.iconst 1, 1) := by decide +kernel
theorem d_Re_bestAhead_20 : decode k_Re_bestAhead.code 20 = .ok (.isub, 1) := by decide +kernel
theorem s_Re_bestAhead_21 : SiteS k_Re_bestAhead k_Re_depthsAt 21 1 := ⟨50, by decide +kernel, ⟨kw_Re_depthsAt, tx1 9 rfl rfl, by decide, by decide⟩, Or.inl (tx3 192 rfl rfl), tx3 193 rfl rfl, ⟨by decide +kernel, by decide +kernel⟩, np_Re_depthsAt⟩
theorem d_Re_bestAhead_24 : decode k_Re_bestAhead.code 24 = .ok (.if_icmp .ge 35, 3) := by decide +kernel
theorem d_Re_bestAhead_27 : decode k_Re_bestAhead.code 27 = .ok (.aload_n 0, 1) := by decide +kernel
theorem d_Re_bestAhead_28 : decode k_Re_bestAhead.code 28 = .ok (.iload_n 1, 1) := by decide +kernel
theorem d_Re_bestAhead_29 : decode k_Re_bestAhead.code 29 = .ok (.iload 6, 2) := by decide +kernel
theorem d_Re_bestAhead_31 : decode k_Re_bestAhead.code 31 = .ok (.iload_n 2, 1) := by decide +kernel
theorem d_Re_bestAhead_32 : decode k_Re_bestAhead.code 32 = .ok (.iload_n 3, 1) := by decide +kernel
theorem s_Re_bestAhead_33 : SiteV k_Re_bestAhead k_Re_costAhead 33 5 4 := ⟨62, (R_Re, F_Re, 10), by decide +kernel, ⟨kw_Re_costAhead, tx1 9 rfl rfl, by decide, by decide⟩, tx3 208 rfl rfl, tx3 210 rfl rfl, twp 16 rfl rfl, rfl, ⟨by decide +kernel, by decide +kernel⟩, np_Re_costAhead⟩
theorem d_Re_bestAhead_36 : decode k_Re_bestAhead.code 36 = .ok (.istore 7, 2) := by decide +kernel
theorem d_Re_bestAhead_38 : decode k_Re_bestAhead.code 38 = .ok (.iload 7, 2) := by decide +kernel
theorem d_Re_bestAhead_40 : decode k_Re_bestAhead.code 40 = .ok (.iload 5, 2) := by decide +kernel
theorem d_Re_bestAhead_42 : decode k_Re_bestAhead.code 42 = .ok (.if_icmp .ge 11, 3) := by decide +kernel
theorem d_Re_bestAhead_45 : decode k_Re_bestAhead.code 45 = .ok (.iload 7, 2) := by decide +kernel
theorem d_Re_bestAhead_47 : decode k_Re_bestAhead.code 47 = .ok (.istore 5, 2) := by decide +kernel
theorem d_Re_bestAhead_49 : decode k_Re_bestAhead.code 49 = .ok (.iload 6, 2) := by decide +kernel
theorem d_Re_bestAhead_51 : decode k_Re_bestAhead.code 51 = .ok (.istore 4, 2) := by decide +kernel
theorem d_Re_bestAhead_53 : decode k_Re_bestAhead.code 53 = .ok (.iinc 6 1, 3) := by decide +kernel
theorem d_Re_bestAhead_56 : decode k_Re_bestAhead.code 56 = .ok (.goto (-40), 3) := by decide +kernel
theorem d_Re_bestAhead_59 : decode k_Re_bestAhead.code 59 = .ok (.iload 4, 2) := by decide +kernel
theorem d_Re_bestAhead_61 : decode k_Re_bestAhead.code 61 = .ok (.ireturn, 1) := by decide +kernel
theorem d_Re_costAhead_0 : decode k_Re_costAhead.code 0 = .ok (.aload_n 0, 1) := by decide +kernel
theorem g_Re_costAhead_1 : SiteG k_Re_costAhead 1 5 4 := ⟨25, 10, R_Re, "PhotoModels$Relief", F_Re, by decide +kernel, tx1 181 rfl rfl, i_Re, rfl, rfl, by decide⟩
theorem d_Re_costAhead_4 : decode k_Re_costAhead.code 4 = .ok (.iload_n 1, 1) := by decide +kernel
theorem d_Re_costAhead_5 : decode k_Re_costAhead.code 5 = .ok (.iconst 1, 1) := by decide +kernel
theorem d_Re_costAhead_6 : decode k_Re_costAhead.code 6 = .ok (.isub, 1) := by decide +kernel
theorem d_Re_costAhead_7 : decode k_Re_costAhead.code 7 = .ok (.bipush 6, 2) := by decide +kernel
theorem d_Re_costAhead_9 : decode k_Re_costAhead.code 9 = .ok (.imul, 1) := by decide +kernel
theorem d_Re_costAhead_10 : decode k_Re_costAhead.code 10 = .ok (.iload_n 2, 1) := by decide +kernel
theorem d_Re_costAhead_11 : decode k_Re_costAhead.code 11 = .ok (.iadd, 1) := by decide +kernel
theorem d_Re_costAhead_12 : decode k_Re_costAhead.code 12 = .ok (.iaload, 1) := by decide +kernel
theorem d_Re_costAhead_13 : decode k_Re_costAhead.code 13 = .ok (.iload 4, 2) := by decide +kernel
theorem d_Re_costAhead_15 : decode k_Re_costAhead.code 15 = .ok (.iload_n 3, 1) := by decide +kernel
theorem d_Re_costAhead_16 : decode k_Re_costAhead.code 16 = .ok (.iload_n 2, 1) := by decide +kernel
theorem d_Re_costAhead_17 : decode k_Re_costAhead.code 17 = .ok (.isub, 1) := by decide +kernel
theorem s_Re_costAhead_18 : SiteM k_Re_costAhead 18 Lib.Math.abs.name Lib.Math.abs.code 1 := ⟨66, by decide +kernel, tx3 203 rfl rfl, tx2 179 rfl rfl, tx1 2 rfl rfl, tx2 180 rfl rfl, by decide, by decide⟩
theorem d_Re_costAhead_21 : decode k_Re_costAhead.code 21 = .ok (.imul, 1) := by decide +kernel
theorem d_Re_costAhead_22 : decode k_Re_costAhead.code 22 = .ok (.iadd, 1) := by decide +kernel
theorem d_Re_costAhead_23 : decode k_Re_costAhead.code 23 = .ok (.ireturn, 1) := by decide +kernel
theorem d_Re_traceBack_0 : decode k_Re_traceBack.code 0 = .ok (.aload_n 0, 1) := by decide +kernel
theorem d_Re_traceBack_1 : decode k_Re_traceBack.code 1 = .ok (.aload_n 0, 1) := by decide +kernel
theorem g_Re_traceBack_2 : SiteG k_Re_traceBack 2 5 0 := ⟨9, 10, R_Re, "PhotoModels$Relief", F_Re, by decide +kernel, tx1 177 rfl rfl, i_Re, rfl, rfl, by decide⟩
theorem d_Re_traceBack_5 : decode k_Re_traceBack.code 5 = .ok (.iconst 0, 1) := by decide +kernel
theorem d_Re_traceBack_6 : decode k_Re_traceBack.code 6 = .ok (.iconst 0, 1) := by decide +kernel
theorem s_Re_traceBack_7 : SiteV k_Re_traceBack k_Re_bestAhead 7 5 3 := ⟨58, (R_Re, F_Re, 10), by decide +kernel, ⟨kw_Re_bestAhead, tx1 9 rfl rfl, by decide, by decide⟩, tx3 204 rfl rfl, tx3 206 rfl rfl, twp 15 rfl rfl, rfl, ⟨by decide +kernel, by decide +kernel⟩, np_Re_bestAhead⟩
theorem d_Re_traceBack_10 : decode k_Re_traceBack.code 10 = .ok (.istore 6, 2) := by decide +kernel
theorem d_Re_traceBack_12 : decode k_Re_traceBack.code 12 = .ok (.aload_n 0, 1) := by decide +kernel
theorem d_Re_traceBack_13 : decode k_Re_traceBack.code 13 = .ok (.aload_n 0, 1) := by decide +kernel
theorem g_Re_traceBack_14 : SiteG k_Re_traceBack 14 5 0 := ⟨9, 10, R_Re, "PhotoModels$Relief", F_Re, by decide +kernel, tx1 177 rfl rfl, i_Re, rfl, rfl, by decide⟩
theorem d_Re_traceBack_17 : decode k_Re_traceBack.code 17 = .ok (.iload 6, 2) := by decide +kernel
theorem d_Re_traceBack_19 : decode k_Re_traceBack.code 19 = .ok (.iconst 0, 1) := by decide +kernel
theorem d_Re_traceBack_20 : decode k_Re_traceBack.code 20 = .ok (.iconst 0, 1) := by decide +kernel
theorem s_Re_traceBack_21 : SiteV k_Re_traceBack k_Re_costAhead 21 5 4 := ⟨62, (R_Re, F_Re, 10), by decide +kernel, ⟨kw_Re_costAhead, tx1 9 rfl rfl, by decide, by decide⟩, tx3 208 rfl rfl, tx3 210 rfl rfl, twp 16 rfl rfl, rfl, ⟨by decide +kernel, by decide +kernel⟩, np_Re_costAhead⟩
theorem d_Re_traceBack_24 : decode k_Re_traceBack.code 24 = .ok (.istore 7, 2) := by decide +kernel
theorem d_Re_traceBack_26 : decode k_Re_traceBack.code 26 = .ok (.aload_n 0, 1) := by decide +kernel
theorem g_Re_traceBack_27 : SiteG k_Re_traceBack 27 5 0 := ⟨9, 10, R_Re, "PhotoModels$Relief", F_Re, by decide +kernel, tx1 177 rfl rfl, i_Re, rfl, rfl, by decide⟩
theorem d_Re_traceBack_30 : decode k_Re_traceBack.code 30 = .ok (.iconst 1, 1) := by decide +kernel
theorem d_Re_traceBack_31 : decode k_Re_traceBack.code 31 = .ok (.isub, 1) := by decide +kernel
theorem d_Re_traceBack_32 : decode k_Re_traceBack.code 32 = .ok (.istore 8, 2) := by decide +kernel
theorem d_Re_traceBack_34 : decode k_Re_traceBack.code 34 = .ok (.iload 8, 2) := by decide +kernel
theorem d_Re_traceBack_36 : decode k_Re_traceBack.code 36 = .ok (.ifCond .lt 70, 3) := by decide +kernel
theorem d_Re_traceBack_39 : decode k_Re_traceBack.code 39 = .ok (.aload_n 0, 1) := by decide +kernel
theorem g_Re_traceBack_40 : SiteG k_Re_traceBack 40 5 2 := ⟨18, 10, R_Re, "PhotoModels$Relief", F_Re, by decide +kernel, tx1 179 rfl rfl, i_Re, rfl, rfl, by decide⟩
theorem d_Re_traceBack_43 : decode k_Re_traceBack.code 43 = .ok (.iload 4, 2) := by decide +kernel
theorem d_Re_traceBack_45 : decode k_Re_traceBack.code 45 = .ok (.aload_n 0, 1) := by decide +kernel
theorem g_Re_traceBack_46 : SiteG k_Re_traceBack 46 5 0 := ⟨9, 10, R_Re, "PhotoModels$Relief", F_Re, by decide +kernel, tx1 177 rfl rfl, i_Re, rfl, rfl, by decide⟩
theorem d_Re_traceBack_49 : decode k_Re_traceBack.code 49 = .ok (.imul, 1) := by decide +kernel
theorem d_Re_traceBack_50 : decode k_Re_traceBack.code 50 = .ok (.iload 8, 2) := by decide +kernel
theorem d_Re_traceBack_52 : decode k_Re_traceBack.code 52 = .ok (.iadd, 1) := by decide +kernel
theorem d_Re_traceBack_53 : decode k_Re_traceBack.code 53 = .ok (.iload 6, 2) := by decide +kernel
theorem d_Re_traceBack_55 : decode k_Re_traceBack.code 55 = .ok (.iastore, 1) := by decide +kernel
theorem d_Re_traceBack_56 : decode k_Re_traceBack.code 56 = .ok (.aload_n 0, 1) := by decide +kernel
theorem g_Re_traceBack_57 : SiteG k_Re_traceBack 57 5 3 := ⟨22, 10, R_Re, "PhotoModels$Relief", F_Re, by decide +kernel, tx1 180 rfl rfl, i_Re, rfl, rfl, by decide⟩
theorem d_Re_traceBack_60 : decode k_Re_traceBack.code 60 = .ok (.iload 4, 2) := by decide +kernel
theorem d_Re_traceBack_62 : decode k_Re_traceBack.code 62 = .ok (.aload_n 0, 1) := by decide +kernel
theorem g_Re_traceBack_63 : SiteG k_Re_traceBack 63 5 0 := ⟨9, 10, R_Re, "PhotoModels$Relief", F_Re, by decide +kernel, tx1 177 rfl rfl, i_Re, rfl, rfl, by decide⟩
theorem d_Re_traceBack_66 : decode k_Re_traceBack.code 66 = .ok (.imul, 1) := by decide +kernel
theorem d_Re_traceBack_67 : decode k_Re_traceBack.code 67 = .ok (.iload 8, 2) := by decide +kernel
theorem d_Re_traceBack_69 : decode k_Re_traceBack.code 69 = .ok (.iadd, 1) := by decide +kernel
theorem d_Re_traceBack_70 : decode k_Re_traceBack.code 70 = .ok (.aload_n 1, 1) := by decide +kernel
theorem d_Re_traceBack_71 : decode k_Re_traceBack.code 71 = .ok (.iload_n 2, 1) := by decide +kernel
theorem d_Re_traceBack_72 : decode k_Re_traceBack.code 72 = .ok (.iload_n 3, 1) := by decide +kernel
theorem d_Re_traceBack_73 : decode k_Re_traceBack.code 73 = .ok (.iload 8, 2) := by decide +kernel
theorem d_Re_traceBack_75 : decode k_Re_traceBack.code 75 = .ok (.iload 4, 2) := by decide +kernel
theorem d_Re_traceBack_77 : decode k_Re_traceBack.code 77 = .ok (.iload 6, 2) := by decide +kernel
theorem s_Re_traceBack_79 : SiteS k_Re_traceBack k_Re_difference 79 6 := ⟨54, by decide +kernel, ⟨kw_Re_difference, tx1 9 rfl rfl, by decide, by decide⟩, Or.inl (tx3 196 rfl rfl), tx3 197 rfl rfl, ⟨by decide +kernel, by decide +kernel⟩, np_Re_difference⟩
theorem d_Re_traceBack_82 : decode k_Re_traceBack.code 82 = .ok (.iastore, 1) := by decide +kernel
theorem d_Re_traceBack_83 : decode k_Re_traceBack.code 83 = .ok (.iload 8, 2) := by decide +kernel
theorem d_Re_traceBack_85 : decode k_Re_traceBack.code 85 = .ok (.ifCond .le 15, 3) := by decide +kernel
theorem d_Re_traceBack_88 : decode k_Re_traceBack.code 88 = .ok (.aload_n 0, 1) := by decide +kernel
theorem d_Re_traceBack_89 : decode k_Re_traceBack.code 89 = .ok (.iload 8, 2) := by decide +kernel
theorem d_Re_traceBack_91 : decode k_Re_traceBack.code 91 = .ok (.iload 6, 2) := by decide +kernel
theorem d_Re_traceBack_93 : decode k_Re_traceBack.code 93 = .ok (.iload 5, 2) := by decide +kernel
theorem s_Re_traceBack_95 : SiteV k_Re_traceBack k_Re_bestAhead 95 5 3 := ⟨58, (R_Re, F_Re, 10), by decide +kernel, ⟨kw_Re_bestAhead, tx1 9 rfl rfl, by decide, by decide⟩, tx3 204 rfl rfl, tx3 206 rfl rfl, twp 15 rfl rfl, rfl, ⟨by decide +kernel, by decide +kernel⟩, np_Re_bestAhead⟩
theorem d_Re_traceBack_98 : decode k_Re_traceBack.code 98 = .ok (.istore 6, 2) := by decide +kernel
theorem d_Re_traceBack_100 : decode k_Re_traceBack.code 100 = .ok (.iinc 8 (-1), 3) := by decide +kernel
theorem d_Re_traceBack_103 : decode k_Re_traceBack.code 103 = .ok (.goto (-69), 3) := by decide +kernel
theorem d_Re_traceBack_106 : decode k_Re_traceBack.code 106 = .ok (.iload 7, 2) := by decide +kernel
theorem d_Re_traceBack_108 : decode k_Re_traceBack.code 108 = .ok (.ireturn, 1) := by decide +kernel
theorem d_Re_isRaised_0 : decode k_Re_isRaised.code 0 = .ok (.aload_n 0, 1) := by decide +kernel
theorem g_Re_isRaised_1 : SiteG k_Re_isRaised 1 5 9 := ⟨38, 10, R_Re, "PhotoModels$Relief", F_Re, by decide +kernel, tx1 186 rfl rfl, i_Re, rfl, rfl, by decide⟩
theorem d_Re_isRaised_4 : decode k_Re_isRaised.code 4 = .ok (.ireturn, 1) := by decide +kernel
theorem d_Re_depthOf_0 : decode k_Re_depthOf.code 0 = .ok (.aload_n 0, 1) := by decide +kernel
theorem g_Re_depthOf_1 : SiteG k_Re_depthOf 1 5 2 := ⟨18, 10, R_Re, "PhotoModels$Relief", F_Re, by decide +kernel, tx1 179 rfl rfl, i_Re, rfl, rfl, by decide⟩
theorem d_Re_depthOf_4 : decode k_Re_depthOf.code 4 = .ok (.iload_n 2, 1) := by decide +kernel
theorem d_Re_depthOf_5 : decode k_Re_depthOf.code 5 = .ok (.aload_n 0, 1) := by decide +kernel
theorem g_Re_depthOf_6 : SiteG k_Re_depthOf 6 5 0 := ⟨9, 10, R_Re, "PhotoModels$Relief", F_Re, by decide +kernel, tx1 177 rfl rfl, i_Re, rfl, rfl, by decide⟩
theorem d_Re_depthOf_9 : decode k_Re_depthOf.code 9 = .ok (.imul, 1) := by decide +kernel
theorem d_Re_depthOf_10 : decode k_Re_depthOf.code 10 = .ok (.iload_n 1, 1) := by decide +kernel
theorem d_Re_depthOf_11 : decode k_Re_depthOf.code 11 = .ok (.iadd, 1) := by decide +kernel
theorem d_Re_depthOf_12 : decode k_Re_depthOf.code 12 = .ok (.iaload, 1) := by decide +kernel
theorem d_Re_depthOf_13 : decode k_Re_depthOf.code 13 = .ok (.ireturn, 1) := by decide +kernel
theorem d_Re_holesAbove_0 : decode k_Re_holesAbove.code 0 = .ok (.aload_n 0, 1) := by decide +kernel
theorem d_Re_holesAbove_1 : decode k_Re_holesAbove.code 1 = .ok (.iload_n 1, 1) := by decide +kernel
theorem s_Re_holesAbove_2 : SiteV k_Re_holesAbove k_Re_openAbove 2 5 1 := ⟨80, (R_Re, F_Re, 10), by decide +kernel, ⟨kw_Re_openAbove, tx1 9 rfl rfl, by decide, by decide⟩, tx4 2 rfl rfl, tx4 4 rfl rfl, twp 18 rfl rfl, rfl, ⟨by decide +kernel, by decide +kernel⟩, np_Re_openAbove⟩
theorem d_Re_holesAbove_5 : decode k_Re_holesAbove.code 5 = .ok (.iconst 0, 1) := by decide +kernel
theorem d_Re_holesAbove_6 : decode k_Re_holesAbove.code 6 = .ok (.istore_n 2, 1) := by decide +kernel
theorem d_Re_holesAbove_7 : decode k_Re_holesAbove.code 7 = .ok (.iconst 0, 1) := by decide +kernel
theorem d_Re_holesAbove_8 : decode k_Re_holesAbove.code 8 = .ok (.istore_n 3, 1) := by decide +kernel
theorem d_Re_holesAbove_9 : decode k_Re_holesAbove.code 9 = .ok (.iload_n 3, 1) := by decide +kernel
theorem d_Re_holesAbove_10 : decode k_Re_holesAbove.code 10 = .ok (.aload_n 0, 1) := by decide +kernel
theorem g_Re_holesAbove_11 : SiteG k_Re_holesAbove 11 5 1 := ⟨15, 10, R_Re, "PhotoModels$Relief", F_Re, by decide +kernel, tx1 178 rfl rfl, i_Re, rfl, rfl, by decide⟩
theorem d_Re_holesAbove_14 : decode k_Re_holesAbove.code 14 = .ok (.if_icmp .ge 55, 3) := by decide +kernel
theorem d_Re_holesAbove_17 : decode k_Re_holesAbove.code 17 = .ok (.iconst 0, 1) := by decide +kernel
theorem d_Re_holesAbove_18 : decode k_Re_holesAbove.code 18 = .ok (.istore 4, 2) := by decide +kernel
theorem d_Re_holesAbove_20 : decode k_Re_holesAbove.code 20 = .ok (.iload 4, 2) := by decide +kernel
theorem d_Re_holesAbove_22 : decode k_Re_holesAbove.code 22 = .ok (.aload_n 0, 1) := by decide +kernel
theorem g_Re_holesAbove_23 : SiteG k_Re_holesAbove 23 5 0 := ⟨9, 10, R_Re, "PhotoModels$Relief", F_Re, by decide +kernel, tx1 177 rfl rfl, i_Re, rfl, rfl, by decide⟩
theorem d_Re_holesAbove_26 : decode k_Re_holesAbove.code 26 = .ok (.if_icmp .ge 37, 3) := by decide +kernel
theorem d_Re_holesAbove_29 : decode k_Re_holesAbove.code 29 = .ok (.aload_n 0, 1) := by decide +kernel
theorem d_Re_holesAbove_30 : decode k_Re_holesAbove.code 30 = .ok (.iload 4, 2) := by decide +kernel
theorem d_Re_holesAbove_32 : decode k_Re_holesAbove.code 32 = .ok (.iload_n 3, 1) := by decide +kernel
theorem s_Re_holesAbove_33 : SiteV k_Re_holesAbove k_Re_marginedIndex 33 5 2 := ⟨84, (R_Re, F_Re, 10), by decide +kernel, ⟨kw_Re_marginedIndex, tx1 9 rfl rfl, by decide, by decide⟩, tx4 6 rfl rfl, tx4 8 rfl rfl, twp 19 rfl rfl, rfl, ⟨by decide +kernel, by decide +kernel⟩, np_Re_marginedIndex⟩
theorem d_Re_holesAbove_36 : decode k_Re_holesAbove.code 36 = .ok (.istore 5, 2) := by decide +kernel
theorem d_Re_holesAbove_38 : decode k_Re_holesAbove.code 38 = .ok (.aload_n 0, 1) := by decide +kernel
theorem g_Re_holesAbove_39 : SiteG k_Re_holesAbove 39 5 6 := ⟨31, 10, R_Re, "PhotoModels$Relief", F_Re, by decide +kernel, tx1 183 rfl rfl, i_Re, rfl, rfl, by decide⟩
theorem d_Re_holesAbove_42 : decode k_Re_holesAbove.code 42 = .ok (.iload 5, 2) := by decide +kernel
theorem d_Re_holesAbove_44 : decode k_Re_holesAbove.code 44 = .ok (.baload, 1) := by decide +kernel
theorem d_Re_holesAbove_45 : decode k_Re_holesAbove.code 45 = .ok (.ifCond .eq 12, 3) := by decide +kernel
theorem d_Re_holesAbove_48 : decode k_Re_holesAbove.code 48 = .ok (.iinc 2 1, 3) := by decide +kernel
theorem d_Re_holesAbove_51 : decode k_Re_holesAbove.code 51 = .ok (.aload_n 0, 1) := by decide +kernel
theorem d_Re_holesAbove_52 : decode k_Re_holesAbove.code 52 = .ok (.iload 5, 2) := by decide +kernel
theorem s_Re_holesAbove_54 : SiteV k_Re_holesAbove k_Re_closeAround 54 5 1 := ⟨87, (R_Re, F_Re, 10), by decide +kernel, ⟨kw_Re_closeAround, tx1 9 rfl rfl, by decide, by decide⟩, tx4 10 rfl rfl, tx4 12 rfl rfl, twp 20 rfl rfl, rfl, ⟨by decide +kernel, by decide +kernel⟩, np_Re_closeAround⟩
theorem d_Re_holesAbove_57 : decode k_Re_holesAbove.code 57 = .ok (.iinc 4 1, 3) := by decide +kernel
theorem d_Re_holesAbove_60 : decode k_Re_holesAbove.code 60 = .ok (.goto (-40), 3) := by decide +kernel
theorem d_Re_holesAbove_63 : decode k_Re_holesAbove.code 63 = .ok (.iinc 3 1, 3) := by decide +kernel
theorem d_Re_holesAbove_66 : decode k_Re_holesAbove.code 66 = .ok (.goto (-57), 3) := by decide +kernel
theorem d_Re_holesAbove_69 : decode k_Re_holesAbove.code 69 = .ok (.iload_n 2, 1) := by decide +kernel
theorem d_Re_holesAbove_70 : decode k_Re_holesAbove.code 70 = .ok (.ireturn, 1) := by decide +kernel
theorem d_Re_openAbove_0 : decode k_Re_openAbove.code 0 = .ok (.iconst 0, 1) := by decide +kernel
theorem d_Re_openAbove_1 : decode k_Re_openAbove.code 1 = .ok (.istore_n 2, 1) := by decide +kernel
theorem d_Re_openAbove_2 : decode k_Re_openAbove.code 2 = .ok (.iload_n 2, 1) := by decide +kernel
theorem d_Re_openAbove_3 : decode k_Re_openAbove.code 3 = .ok (.aload_n 0, 1) := by decide +kernel
theorem g_Re_openAbove_4 : SiteG k_Re_openAbove 4 5 1 := ⟨15, 10, R_Re, "PhotoModels$Relief", F_Re, by decide +kernel, tx1 178 rfl rfl, i_Re, rfl, rfl, by decide⟩
theorem d_Re_openAbove_7 : decode k_Re_openAbove.code 7 = .ok (.if_icmp .ge 58, 3) := by decide +kernel
theorem d_Re_openAbove_10 : decode k_Re_openAbove.code 10 = .ok (.iconst 0, 1) := by decide +kernel
theorem d_Re_openAbove_11 : decode k_Re_openAbove.code 11 = .ok (.istore_n 3, 1) := by decide +kernel
theorem d_Re_openAbove_12 : decode k_Re_openAbove.code 12 = .ok (.iload_n 3, 1) := by decide +kernel
theorem d_Re_openAbove_13 : decode k_Re_openAbove.code 13 = .ok (.aload_n 0, 1) := by decide +kernel
theorem g_Re_openAbove_14 : SiteG k_Re_openAbove 14 5 0 := ⟨9, 10, R_Re, "PhotoModels$Relief", F_Re, by decide +kernel, tx1 177 rfl rfl, i_Re, rfl, rfl, by decide⟩
theorem d_Re_openAbove_17 : decode k_Re_openAbove.code 17 = .ok (.if_icmp .ge 42, 3) := by decide +kernel
theorem d_Re_openAbove_20 : decode k_Re_openAbove.code 20 = .ok (.aload_n 0, 1) := by decide +kernel
theorem g_Re_openAbove_21 : SiteG k_Re_openAbove 21 5 6 := ⟨31, 10, R_Re, "PhotoModels$Relief", F_Re, by decide +kernel, tx1 183 rfl rfl, i_Re, rfl, rfl, by decide⟩
theorem d_Re_openAbove_24 : decode k_Re_openAbove.code 24 = .ok (.aload_n 0, 1) := by decide +kernel
theorem d_Re_openAbove_25 : decode k_Re_openAbove.code 25 = .ok (.iload_n 3, 1) := by decide +kernel
theorem d_Re_openAbove_26 : decode k_Re_openAbove.code 26 = .ok (.iload_n 2, 1) := by decide +kernel
theorem s_Re_openAbove_27 : SiteV k_Re_openAbove k_Re_marginedIndex 27 5 2 := ⟨84, (R_Re, F_Re, 10), by decide +kernel, ⟨kw_Re_marginedIndex, tx1 9 rfl rfl, by decide, by decide⟩, tx4 6 rfl rfl, tx4 8 rfl rfl, twp 19 rfl rfl, rfl, ⟨by decide +kernel, by decide +kernel⟩, np_Re_marginedIndex⟩
theorem d_Re_openAbove_30 : decode k_Re_openAbove.code 30 = .ok (.aload_n 0, 1) := by decide +kernel
theorem g_Re_openAbove_31 : SiteG k_Re_openAbove 31 5 3 := ⟨22, 10, R_Re, "PhotoModels$Relief", F_Re, by decide +kernel, tx1 180 rfl rfl, i_Re, rfl, rfl, by decide⟩
theorem d_Re_openAbove_34 : decode k_Re_openAbove.code 34 = .ok (.iload_n 2, 1) := by decide +kernel
theorem d_Re_openAbove_35 : decode k_Re_openAbove.code 35 = .ok (.aload_n 0, 1) := by decide +kernel
theorem g_Re_openAbove_36 : SiteG k_Re_openAbove 36 5 0 := ⟨9, 10, R_Re, "PhotoModels$Relief", F_Re, by decide +kernel, tx1 177 rfl rfl, i_Re, rfl, rfl, by decide⟩
theorem d_Re_openAbove_39 : decode k_Re_openAbove.code 39 = .ok (.imul, 1) := by decide +kernel
theorem d_Re_openAbove_40 : decode k_Re_openAbove.code 40 = .ok (.iload_n 3, 1) := by decide +kernel
theorem d_Re_openAbove_41 : decode k_Re_openAbove.code 41 = .ok (.iadd, 1) := by decide +kernel
theorem d_Re_openAbove_42 : decode k_Re_openAbove.code 42 = .ok (.iaload, 1) := by decide +kernel
theorem d_Re_openAbove_43 : decode k_Re_openAbove.code 43 = .ok (.iload_n 1, 1) := by decide +kernel
theorem d_Re_openAbove_44 : decode k_Re_openAbove.code 44 = .ok (.if_icmp .le 7, 3) := by decide +kernel
theorem d_Re_openAbove_47 : decode k_Re_openAbove.code 47 = .ok (.iconst 1, 1) := by decide +kernel
theorem d_Re_openAbove_48 : decode k_Re_openAbove.code 48 = .ok (.goto 4, 3) := by decide +kernel
theorem d_Re_openAbove_51 : decode k_Re_openAbove.code 51 = .ok (.iconst 0, 1) := by decide +kernel
theorem d_Re_openAbove_52 : decode k_Re_openAbove.code 52 = .ok (.bastore, 1) := by decide +kernel
theorem d_Re_openAbove_53 : decode k_Re_openAbove.code 53 = .ok (.iinc 3 1, 3) := by decide +kernel
theorem d_Re_openAbove_56 : decode k_Re_openAbove.code 56 = .ok (.goto (-44), 3) := by decide +kernel
theorem d_Re_openAbove_59 : decode k_Re_openAbove.code 59 = .ok (.iinc 2 1, 3) := by decide +kernel
theorem d_Re_openAbove_62 : decode k_Re_openAbove.code 62 = .ok (.goto (-60), 3) := by decide +kernel
theorem d_Re_openAbove_65 : decode k_Re_openAbove.code 65 = .ok (.return_, 1) := by decide +kernel
theorem d_Re_marginedIndex_0 : decode k_Re_marginedIndex.code 0 = .ok (.iload_n 2, 1) := by decide +kernel
theorem d_Re_marginedIndex_1 : decode k_Re_marginedIndex.code 1 = .ok (.iconst 1, 1) := by decide +kernel
theorem d_Re_marginedIndex_2 : decode k_Re_marginedIndex.code 2 = .ok (.iadd, 1) := by decide +kernel
theorem d_Re_marginedIndex_3 : decode k_Re_marginedIndex.code 3 = .ok (.aload_n 0, 1) := by decide +kernel
theorem g_Re_marginedIndex_4 : SiteG k_Re_marginedIndex 4 5 5 := ⟨28, 10, R_Re, "PhotoModels$Relief", F_Re, by decide +kernel, tx1 182 rfl rfl, i_Re, rfl, rfl, by decide⟩
theorem d_Re_marginedIndex_7 : decode k_Re_marginedIndex.code 7 = .ok (.imul, 1) := by decide +kernel
theorem d_Re_marginedIndex_8 : decode k_Re_marginedIndex.code 8 = .ok (.iload_n 1, 1) := by decide +kernel
theorem d_Re_marginedIndex_9 : decode k_Re_marginedIndex.code 9 = .ok (.iadd, 1) := by decide +kernel
theorem d_Re_marginedIndex_10 : decode k_Re_marginedIndex.code 10 = .ok (.iconst 1, 1) := by decide +kernel
theorem d_Re_marginedIndex_11 : decode k_Re_marginedIndex.code 11 = .ok (.iadd, 1) := by decide +kernel
theorem d_Re_marginedIndex_12 : decode k_Re_marginedIndex.code 12 = .ok (.ireturn, 1) := by decide +kernel
theorem d_Re_closeAround_0 : decode k_Re_closeAround.code 0 = .ok (.aload_n 0, 1) := by decide +kernel
theorem d_Re_closeAround_1 : decode k_Re_closeAround.code 1 = .ok (.iconst 0, 1) := by decide +kernel
theorem p_Re_closeAround_2 : SiteP k_Re_closeAround 2 5 8 .int := ⟨90, 10, R_Re, "PhotoModels$Relief", F_Re, t_Re, t_Re_ok, n_Re, by decide +kernel, tx1 185 rfl rfl, i_Re, rfl, Or.inl rfl, rfl, by decide, rfl⟩
theorem d_Re_closeAround_5 : decode k_Re_closeAround.code 5 = .ok (.aload_n 0, 1) := by decide +kernel
theorem d_Re_closeAround_6 : decode k_Re_closeAround.code 6 = .ok (.iload_n 1, 1) := by decide +kernel
theorem s_Re_closeAround_7 : SiteV k_Re_closeAround k_Re_closeIfOpen 7 5 1 := ⟨93, (R_Re, F_Re, 10), by decide +kernel, ⟨kw_Re_closeIfOpen, tx1 9 rfl rfl, by decide, by decide⟩, tx4 14 rfl rfl, tx4 16 rfl rfl, twp 21 rfl rfl, rfl, ⟨by decide +kernel, by decide +kernel⟩, np_Re_closeIfOpen⟩
theorem d_Re_closeAround_10 : decode k_Re_closeAround.code 10 = .ok (.iconst 0, 1) := by decide +kernel
theorem d_Re_closeAround_11 : decode k_Re_closeAround.code 11 = .ok (.istore_n 2, 1) := by decide +kernel
theorem d_Re_closeAround_12 : decode k_Re_closeAround.code 12 = .ok (.iload_n 2, 1) := by decide +kernel
theorem d_Re_closeAround_13 : decode k_Re_closeAround.code 13 = .ok (.aload_n 0, 1) := by decide +kernel
theorem g_Re_closeAround_14 : SiteG k_Re_closeAround 14 5 8 := ⟨90, 10, R_Re, "PhotoModels$Relief", F_Re, by decide +kernel, tx1 185 rfl rfl, i_Re, rfl, rfl, by decide⟩
theorem d_Re_closeAround_17 : decode k_Re_closeAround.code 17 = .ok (.if_icmp .ge 59, 3) := by decide +kernel
theorem d_Re_closeAround_20 : decode k_Re_closeAround.code 20 = .ok (.iload_n 2, 1) := by decide +kernel
theorem d_Re_closeAround_21 : decode k_Re_closeAround.code 21 = .ok (.aload_n 0, 1) := by decide +kernel
theorem g_Re_closeAround_22 : SiteG k_Re_closeAround 22 5 7 := ⟨35, 10, R_Re, "PhotoModels$Relief", F_Re, by decide +kernel, tx1 184 rfl rfl, i_Re, rfl, rfl, by decide⟩
theorem d_Re_closeAround_25 : decode k_Re_closeAround.code 25 = .ok (.arraylength, 1) := by decide +kernel
theorem d_Re_closeAround_26 : decode k_Re_closeAround.code 26 = .ok (.if_icmp .ge 50, 3) := by decide +kernel
theorem d_Re_closeAround_29 : decode k_Re_closeAround.code 29 = .ok (.aload_n 0, 1) := by decide +kernel
theorem g_Re_closeAround_30 : SiteG k_Re_closeAround 30 5 7 := ⟨35, 10, R_Re, "PhotoModels$Relief", F_Re, by decide +kernel, tx1 184 rfl rfl, i_Re, rfl, rfl, by decide⟩
theorem d_Re_closeAround_33 : decode k_Re_closeAround.code 33 = .ok (.iload_n 2, 1) := by decide +kernel
theorem d_Re_closeAround_34 : decode k_Re_closeAround.code 34 = .ok (.iaload, 1) := by decide +kernel
theorem d_Re_closeAround_35 : decode k_Re_closeAround.code 35 = .ok (.istore_n 3, 1) := by decide +kernel
theorem d_Re_closeAround_36 : decode k_Re_closeAround.code 36 = .ok (.aload_n 0, 1) := by decide +kernel
theorem d_Re_closeAround_37 : decode k_Re_closeAround.code 37 = .ok (.iload_n 3, 1) := by decide +kernel
theorem d_Re_closeAround_38 : decode k_Re_closeAround.code 38 = .ok (.iconst 1, 1) := by decide +kernel
theorem d_Re_closeAround_39 : decode k_Re_closeAround.code 39 = .ok (.isub, 1) := by decide +kernel
theorem s_Re_closeAround_40 : SiteV k_Re_closeAround k_Re_closeIfOpen 40 5 1 := ⟨93, (R_Re, F_Re, 10), by decide +kernel, ⟨kw_Re_closeIfOpen, tx1 9 rfl rfl, by decide, by decide⟩, tx4 14 rfl rfl, tx4 16 rfl rfl, twp 21 rfl rfl, rfl, ⟨by decide +kernel, by decide +kernel⟩, np_Re_closeIfOpen⟩
theorem d_Re_closeAround_43 : decode k_Re_closeAround.code 43 = .ok (.aload_n 0, 1) := by decide +kernel
theorem d_Re_closeAround_44 : decode k_Re_closeAround.code 44 = .ok (.iload_n 3, 1) := by decide +kernel
theorem d_Re_closeAround_45 : decode k_Re_closeAround.code 45 = .ok (.iconst 1, 1) := by decide +kernel
theorem d_Re_closeAround_46 : decode k_Re_closeAround.code 46 = .ok (.iadd, 1) := by decide +kernel
theorem s_Re_closeAround_47 : SiteV k_Re_closeAround k_Re_closeIfOpen 47 5 1 := ⟨93, (R_Re, F_Re, 10), by decide +kernel, ⟨kw_Re_closeIfOpen, tx1 9 rfl rfl, by decide, by decide⟩, tx4 14 rfl rfl, tx4 16 rfl rfl, twp 21 rfl rfl, rfl, ⟨by decide +kernel, by decide +kernel⟩, np_Re_closeIfOpen⟩
theorem d_Re_closeAround_50 : decode k_Re_closeAround.code 50 = .ok (.aload_n 0, 1) := by decide +kernel
theorem d_Re_closeAround_51 : decode k_Re_closeAround.code 51 = .ok (.iload_n 3, 1) := by decide +kernel
theorem d_Re_closeAround_52 : decode k_Re_closeAround.code 52 = .ok (.aload_n 0, 1) := by decide +kernel
theorem g_Re_closeAround_53 : SiteG k_Re_closeAround 53 5 5 := ⟨28, 10, R_Re, "PhotoModels$Relief", F_Re, by decide +kernel, tx1 182 rfl rfl, i_Re, rfl, rfl, by decide⟩
theorem d_Re_closeAround_56 : decode k_Re_closeAround.code 56 = .ok (.isub, 1) := by decide +kernel
theorem s_Re_closeAround_57 : SiteV k_Re_closeAround k_Re_closeIfOpen 57 5 1 := ⟨93, (R_Re, F_Re, 10), by decide +kernel, ⟨kw_Re_closeIfOpen, tx1 9 rfl rfl, by decide, by decide⟩, tx4 14 rfl rfl, tx4 16 rfl rfl, twp 21 rfl rfl, rfl, ⟨by decide +kernel, by decide +kernel⟩, np_Re_closeIfOpen⟩
theorem d_Re_closeAround_60 : decode k_Re_closeAround.code 60 = .ok (.aload_n 0, 1) := by decide +kernel
theorem d_Re_closeAround_61 : decode k_Re_closeAround.code 61 = .ok (.iload_n 3, 1) := by decide +kernel
theorem d_Re_closeAround_62 : decode k_Re_closeAround.code 62 = .ok (.aload_n 0, 1) := by decide +kernel
theorem g_Re_closeAround_63 : SiteG k_Re_closeAround 63 5 5 := ⟨28, 10, R_Re, "PhotoModels$Relief", F_Re, by decide +kernel, tx1 182 rfl rfl, i_Re, rfl, rfl, by decide⟩
theorem d_Re_closeAround_66 : decode k_Re_closeAround.code 66 = .ok (.iadd, 1) := by decide +kernel
theorem s_Re_closeAround_67 : SiteV k_Re_closeAround k_Re_closeIfOpen 67 5 1 := ⟨93, (R_Re, F_Re, 10), by decide +kernel, ⟨kw_Re_closeIfOpen, tx1 9 rfl rfl, by decide, by decide⟩, tx4 14 rfl rfl, tx4 16 rfl rfl, twp 21 rfl rfl, rfl, ⟨by decide +kernel, by decide +kernel⟩, np_Re_closeIfOpen⟩
theorem d_Re_closeAround_70 : decode k_Re_closeAround.code 70 = .ok (.iinc 2 1, 3) := by decide +kernel
theorem d_Re_closeAround_73 : decode k_Re_closeAround.code 73 = .ok (.goto (-61), 3) := by decide +kernel
theorem d_Re_closeAround_76 : decode k_Re_closeAround.code 76 = .ok (.return_, 1) := by decide +kernel
theorem d_Re_closeIfOpen_0 : decode k_Re_closeIfOpen.code 0 = .ok (.aload_n 0, 1) := by decide +kernel
theorem g_Re_closeIfOpen_1 : SiteG k_Re_closeIfOpen 1 5 6 := ⟨31, 10, R_Re, "PhotoModels$Relief", F_Re, by decide +kernel, tx1 183 rfl rfl, i_Re, rfl, rfl, by decide⟩
theorem d_Re_closeIfOpen_4 : decode k_Re_closeIfOpen.code 4 = .ok (.iload_n 1, 1) := by decide +kernel
theorem d_Re_closeIfOpen_5 : decode k_Re_closeIfOpen.code 5 = .ok (.baload, 1) := by decide +kernel
theorem d_Re_closeIfOpen_6 : decode k_Re_closeIfOpen.code 6 = .ok (.ifCond .eq 30, 3) := by decide +kernel
theorem d_Re_closeIfOpen_9 : decode k_Re_closeIfOpen.code 9 = .ok (.aload_n 0, 1) := by decide +kernel
theorem g_Re_closeIfOpen_10 : SiteG k_Re_closeIfOpen 10 5 6 := ⟨31, 10, R_Re, "PhotoModels$Relief", F_Re, by decide +kernel, tx1 183 rfl rfl, i_Re, rfl, rfl, by decide⟩
theorem d_Re_closeIfOpen_13 : decode k_Re_closeIfOpen.code 13 = .ok (.iload_n 1, 1) := by decide +kernel
theorem d_Re_closeIfOpen_14 : decode k_Re_closeIfOpen.code 14 = .ok (.iconst 0, 1) := by decide +kernel
theorem d_Re_closeIfOpen_15 : decode k_Re_closeIfOpen.code 15 = .ok (.bastore, 1) := by decide +kernel
theorem d_Re_closeIfOpen_16 : decode k_Re_closeIfOpen.code 16 = .ok (.aload_n 0, 1) := by decide +kernel
theorem g_Re_closeIfOpen_17 : SiteG k_Re_closeIfOpen 17 5 7 := ⟨35, 10, R_Re, "PhotoModels$Relief", F_Re, by decide +kernel, tx1 184 rfl rfl, i_Re, rfl, rfl, by decide⟩
theorem d_Re_closeIfOpen_20 : decode k_Re_closeIfOpen.code 20 = .ok (.aload_n 0, 1) := by decide +kernel
theorem g_Re_closeIfOpen_21 : SiteG k_Re_closeIfOpen 21 5 8 := ⟨90, 10, R_Re, "PhotoModels$Relief", F_Re, by decide +kernel, tx1 185 rfl rfl, i_Re, rfl, rfl, by decide⟩
theorem d_Re_closeIfOpen_24 : decode k_Re_closeIfOpen.code 24 = .ok (.iload_n 1, 1) := by decide +kernel
theorem d_Re_closeIfOpen_25 : decode k_Re_closeIfOpen.code 25 = .ok (.iastore, 1) := by decide +kernel
theorem d_Re_closeIfOpen_26 : decode k_Re_closeIfOpen.code 26 = .ok (.aload_n 0, 1) := by decide +kernel
theorem d_Re_closeIfOpen_27 : decode k_Re_closeIfOpen.code 27 = .ok (.dup, 1) := by decide +kernel
theorem g_Re_closeIfOpen_28 : SiteG k_Re_closeIfOpen 28 5 8 := ⟨90, 10, R_Re, "PhotoModels$Relief", F_Re, by decide +kernel, tx1 185 rfl rfl, i_Re, rfl, rfl, by decide⟩
theorem d_Re_closeIfOpen_31 : decode k_Re_closeIfOpen.code 31 = .ok (.iconst 1, 1) := by decide +kernel
theorem d_Re_closeIfOpen_32 : decode k_Re_closeIfOpen.code 32 = .ok (.iadd, 1) := by decide +kernel
theorem p_Re_closeIfOpen_33 : SiteP k_Re_closeIfOpen 33 5 8 .int := ⟨90, 10, R_Re, "PhotoModels$Relief", F_Re, t_Re, t_Re_ok, n_Re, by decide +kernel, tx1 185 rfl rfl, i_Re, rfl, Or.inl rfl, rfl, by decide, rfl⟩
theorem d_Re_closeIfOpen_36 : decode k_Re_closeIfOpen.code 36 = .ok (.return_, 1) := by decide +kernel
