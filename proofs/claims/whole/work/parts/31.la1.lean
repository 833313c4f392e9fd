theorem d_La_cell_0 : decode k_La_cell.code 0 = .ok (.iload_n 1, 1) := by decide +kernel
theorem d_La_cell_1 : decode k_La_cell.code 1 = .ok (.aload_n 0, 1) := by decide +kernel
theorem d_La_cell_2 : decode k_La_cell.code 2 = .ok (.arraylength, 1) := by decide +kernel
theorem d_La_cell_3 : decode k_La_cell.code 3 = .ok (.if_icmp .ge 9, 3) := by decide +kernel
theorem d_La_cell_6 : decode k_La_cell.code 6 = .ok (.aload_n 0, 1) := by decide +kernel
theorem d_La_cell_7 : decode k_La_cell.code 7 = .ok (.iload_n 1, 1) := by decide +kernel
theorem d_La_cell_8 : decode k_La_cell.code 8 = .ok (.iaload, 1) := by decide +kernel
theorem d_La_cell_9 : decode k_La_cell.code 9 = .ok (.goto 4, 3) := by decide +kernel
theorem d_La_cell_12 : decode k_La_cell.code 12 = .ok (.iconst 0, 1) := by decide +kernel
theorem d_La_cell_13 : decode k_La_cell.code 13 = .ok (.ireturn, 1) := by decide +kernel
theorem d_La_pixel_0 : decode k_La_pixel.code 0 = .ok (.aload 5, 2) := by decide +kernel
theorem d_La_pixel_2 : decode k_La_pixel.code 2 = .ok (.iconst 0, 1) := by decide +kernel
theorem d_La_pixel_3 : decode k_La_pixel.code 3 = .ok (.aload_n 0, 1) := by decide +kernel
theorem d_La_pixel_4 : decode k_La_pixel.code 4 = .ok (.iload_n 1, 1) := by decide +kernel
theorem d_La_pixel_5 : decode k_La_pixel.code 5 = .ok (.iload_n 2, 1) := by decide +kernel
theorem d_La_pixel_6 : decode k_La_pixel.code 6 = .ok (.iload_n 3, 1) := by decide +kernel
theorem d_La_pixel_7 : decode k_La_pixel.code 7 = .ok (.iload 4, 2) := by decide +kernel
theorem s_La_pixel_9 : SiteV k_La_pixel k_Pm_pixel 9 7 4 := ⟨7, (R_Pm, F_Pm, 7), by decide +kernel, ⟨kw_Pm_pixel, tx1 1 rfl rfl, by decide, by decide⟩, tx2 35 rfl rfl, tx2 36 rfl rfl, tx2 37 rfl rfl, rfl, ⟨by decide +kernel, by decide +kernel⟩, np_Pm_pixel⟩
theorem d_La_pixel_12 : decode k_La_pixel.code 12 = .ok (.i2l, 1) := by decide +kernel
theorem d_La_pixel_13 : decode k_La_pixel.code 13 = .ok (.lastore, 1) := by decide +kernel
theorem d_La_pixel_14 : decode k_La_pixel.code 14 = .ok (.goto 11, 3) := by decide +kernel
theorem d_La_pixel_17 : decode k_La_pixel.code 17 = .ok (.astore 6, 2) := by decide +kernel
theorem d_La_pixel_19 : decode k_La_pixel.code 19 = .ok (.iconst 1, 1) := by decide +kernel
theorem d_La_pixel_20 : decode k_La_pixel.code 20 = .ok (.ireturn, 1) := by decide +kernel
theorem d_La_pixel_21 : decode k_La_pixel.code 21 = .ok (.astore 6, 2) := by decide +kernel
theorem d_La_pixel_23 : decode k_La_pixel.code 23 = .ok (.iconst 2, 1) := by decide +kernel
theorem d_La_pixel_24 : decode k_La_pixel.code 24 = .ok (.ireturn, 1) := by decide +kernel
theorem d_La_pixel_25 : decode k_La_pixel.code 25 = .ok (.iconst 0, 1) := by decide +kernel
theorem d_La_pixel_26 : decode k_La_pixel.code 26 = .ok (.ireturn, 1) := by decide +kernel
theorem d_La_match_0 : decode k_La_match.code 0 = .ok (.aload 5, 2) := by decide +kernel
theorem d_La_match_2 : decode k_La_match.code 2 = .ok (.iconst 0, 1) := by decide +kernel
theorem d_La_match_3 : decode k_La_match.code 3 = .ok (.aload_n 0, 1) := by decide +kernel
theorem d_La_match_4 : decode k_La_match.code 4 = .ok (.iload_n 1, 1) := by decide +kernel
theorem d_La_match_5 : decode k_La_match.code 5 = .ok (.iload_n 2, 1) := by decide +kernel
theorem d_La_match_6 : decode k_La_match.code 6 = .ok (.iload_n 3, 1) := by decide +kernel
theorem d_La_match_7 : decode k_La_match.code 7 = .ok (.iload 4, 2) := by decide +kernel
theorem s_La_match_9 : SiteV k_La_match k_Pm_match 9 7 4 := ⟨17, (R_Pm, F_Pm, 7), by decide +kernel, ⟨kw_Pm_match, tx1 1 rfl rfl, by decide, by decide⟩, tx2 151 rfl rfl, tx2 152 rfl rfl, tx2 153 rfl rfl, rfl, ⟨by decide +kernel, by decide +kernel⟩, np_Pm_match⟩
theorem d_La_match_12 : decode k_La_match.code 12 = .ok (.i2l, 1) := by decide +kernel
theorem d_La_match_13 : decode k_La_match.code 13 = .ok (.lastore, 1) := by decide +kernel
theorem d_La_match_14 : decode k_La_match.code 14 = .ok (.goto 7, 3) := by decide +kernel
theorem d_La_match_17 : decode k_La_match.code 17 = .ok (.astore 6, 2) := by decide +kernel
theorem d_La_match_19 : decode k_La_match.code 19 = .ok (.iconst 1, 1) := by decide +kernel
theorem d_La_match_20 : decode k_La_match.code 20 = .ok (.ireturn, 1) := by decide +kernel
theorem d_La_match_21 : decode k_La_match.code 21 = .ok (.iconst 0, 1) := by decide +kernel
theorem d_La_match_22 : decode k_La_match.code 22 = .ok (.ireturn, 1) := by decide +kernel
theorem d_La_found_0 : decode k_La_found.code 0 = .ok (.aload_n 2, 1) := by decide +kernel
theorem d_La_found_1 : decode k_La_found.code 1 = .ok (.iconst 0, 1) := by decide +kernel
theorem d_La_found_2 : decode k_La_found.code 2 = .ok (.aload_n 0, 1) := by decide +kernel
theorem d_La_found_3 : decode k_La_found.code 3 = .ok (.iload_n 1, 1) := by decide +kernel
theorem s_La_found_4 : SiteV k_La_found k_Pm_found 4 7 1 := ⟨20, (R_Pm, F_Pm, 7), by decide +kernel, ⟨kw_Pm_found, tx1 1 rfl rfl, by decide, by decide⟩, tx2 185 rfl rfl, tx2 186 rfl rfl, tx2 187 rfl rfl, rfl, ⟨by decide +kernel, by decide +kernel⟩, np_Pm_found⟩
theorem d_La_found_7 : decode k_La_found.code 7 = .ok (.i2l, 1) := by decide +kernel
theorem d_La_found_8 : decode k_La_found.code 8 = .ok (.lastore, 1) := by decide +kernel
theorem d_La_found_9 : decode k_La_found.code 9 = .ok (.goto 9, 3) := by decide +kernel
theorem d_La_found_12 : decode k_La_found.code 12 = .ok (.astore_n 3, 1) := by decide +kernel
theorem d_La_found_13 : decode k_La_found.code 13 = .ok (.iconst 1, 1) := by decide +kernel
theorem d_La_found_14 : decode k_La_found.code 14 = .ok (.ireturn, 1) := by decide +kernel
theorem d_La_found_15 : decode k_La_found.code 15 = .ok (.astore_n 3, 1) := by decide +kernel
theorem d_La_found_16 : decode k_La_found.code 16 = .ok (.iconst 2, 1) := by decide +kernel
theorem d_La_found_17 : decode k_La_found.code 17 = .ok (.ireturn, 1) := by decide +kernel
theorem d_La_found_18 : decode k_La_found.code 18 = .ok (.iconst 0, 1) := by decide +kernel
theorem d_La_found_19 : decode k_La_found.code 19 = .ok (.ireturn, 1) := by decide +kernel
theorem d_La_place_0 : decode k_La_place.code 0 = .ok (.aload_n 1, 1) := by decide +kernel
theorem d_La_place_1 : decode k_La_place.code 1 = .ok (.iconst 0, 1) := by decide +kernel
theorem d_La_place_2 : decode k_La_place.code 2 = .ok (.aload_n 0, 1) := by decide +kernel
theorem s_La_place_3 : SiteV k_La_place k_Pm_place 3 7 0 := ⟨26, (R_Pm, F_Pm, 7), by decide +kernel, ⟨kw_Pm_place, tx1 1 rfl rfl, by decide, by decide⟩, tx2 219 rfl rfl, tx2 220 rfl rfl, tx2 221 rfl rfl, rfl, ⟨by decide +kernel, by decide +kernel⟩, np_Pm_place⟩
theorem d_La_place_6 : decode k_La_place.code 6 = .ok (.i2l, 1) := by decide +kernel
theorem d_La_place_7 : decode k_La_place.code 7 = .ok (.lastore, 1) := by decide +kernel
theorem d_La_place_8 : decode k_La_place.code 8 = .ok (.goto 6, 3) := by decide +kernel
theorem d_La_place_11 : decode k_La_place.code 11 = .ok (.astore_n 2, 1) := by decide +kernel
theorem d_La_place_12 : decode k_La_place.code 12 = .ok (.iconst 1, 1) := by decide +kernel
theorem d_La_place_13 : decode k_La_place.code 13 = .ok (.ireturn, 1) := by decide +kernel
theorem d_La_place_14 : decode k_La_place.code 14 = .ok (.iconst 0, 1) := by decide +kernel
theorem d_La_place_15 : decode k_La_place.code 15 = .ok (.ireturn, 1) := by decide +kernel
theorem d_La_seen_0 : decode k_La_seen.code 0 = .ok (.aload 5, 2) := by decide +kernel
theorem d_La_seen_2 : decode k_La_seen.code 2 = .ok (.iconst 0, 1) := by decide +kernel
theorem d_La_seen_3 : decode k_La_seen.code 3 = .ok (.aload_n 0, 1) := by decide +kernel
theorem d_La_seen_4 : decode k_La_seen.code 4 = .ok (.iload_n 1, 1) := by decide +kernel
theorem d_La_seen_5 : decode k_La_seen.code 5 = .ok (.iload_n 2, 1) := by decide +kernel
theorem d_La_seen_6 : decode k_La_seen.code 6 = .ok (.iload_n 3, 1) := by decide +kernel
theorem d_La_seen_7 : decode k_La_seen.code 7 = .ok (.iload 4, 2) := by decide +kernel
theorem s_La_seen_9 : SiteV k_La_seen k_Pm_seen 9 7 4 := ⟨30, (R_Pm, F_Pm, 7), by decide +kernel, ⟨kw_Pm_seen, tx1 1 rfl rfl, by decide, by decide⟩, tx2 231 rfl rfl, tx2 232 rfl rfl, tx2 233 rfl rfl, rfl, ⟨by decide +kernel, by decide +kernel⟩, np_Pm_seen⟩
theorem d_La_seen_12 : decode k_La_seen.code 12 = .ok (.ifCond .eq 7, 3) := by decide +kernel
theorem d_La_seen_15 : decode k_La_seen.code 15 = .ok (.lconst 1, 1) := by decide +kernel
theorem d_La_seen_16 : decode k_La_seen.code 16 = .ok (.goto 4, 3) := by decide +kernel
theorem d_La_seen_19 : decode k_La_seen.code 19 = .ok (.lconst 0, 1) := by decide +kernel
theorem d_La_seen_20 : decode k_La_seen.code 20 = .ok (.lastore, 1) := by decide +kernel
theorem d_La_seen_21 : decode k_La_seen.code 21 = .ok (.goto 11, 3) := by decide +kernel
theorem d_La_seen_24 : decode k_La_seen.code 24 = .ok (.astore 6, 2) := by decide +kernel
theorem d_La_seen_26 : decode k_La_seen.code 26 = .ok (.iconst 1, 1) := by decide +kernel
theorem d_La_seen_27 : decode k_La_seen.code 27 = .ok (.ireturn, 1) := by decide +kernel
theorem d_La_seen_28 : decode k_La_seen.code 28 = .ok (.astore 6, 2) := by decide +kernel
theorem d_La_seen_30 : decode k_La_seen.code 30 = .ok (.iconst 2, 1) := by decide +kernel
theorem d_La_seen_31 : decode k_La_seen.code 31 = .ok (.ireturn, 1) := by decide +kernel
theorem d_La_seen_32 : decode k_La_seen.code 32 = .ok (.iconst 0, 1) := by decide +kernel
theorem d_La_seen_33 : decode k_La_seen.code 33 = .ok (.ireturn, 1) := by decide +kernel
theorem d_La_relative_0 : decode k_La_relative.code 0 = .ok (.aload 5, 2) := by decide +kernel
theorem d_La_relative_2 : decode k_La_relative.code 2 = .ok (.iconst 0, 1) := by decide +kernel
theorem d_La_relative_3 : decode k_La_relative.code 3 = .ok (.aload_n 0, 1) := by decide +kernel
theorem d_La_relative_4 : decode k_La_relative.code 4 = .ok (.iload_n 1, 1) := by decide +kernel
theorem d_La_relative_5 : decode k_La_relative.code 5 = .ok (.iload_n 2, 1) := by decide +kernel
theorem d_La_relative_6 : decode k_La_relative.code 6 = .ok (.iload_n 3, 1) := by decide +kernel
theorem d_La_relative_7 : decode k_La_relative.code 7 = .ok (.iload 4, 2) := by decide +kernel
theorem s_La_relative_9 : SiteV k_La_relative k_Pm_relative 9 7 4 := ⟨34, (R_Pm, F_Pm, 7), by decide +kernel, ⟨kw_Pm_relative, tx1 1 rfl rfl, by decide, by decide⟩, tx3 11 rfl rfl, tx3 12 rfl rfl, tx3 13 rfl rfl, rfl, ⟨by decide +kernel, by decide +kernel⟩, np_Pm_relative⟩
theorem d_La_relative_12 : decode k_La_relative.code 12 = .ok (.i2l, 1) := by decide +kernel
theorem d_La_relative_13 : decode k_La_relative.code 13 = .ok (.lastore, 1) := by decide +kernel
theorem d_La_relative_14 : decode k_La_relative.code 14 = .ok (.goto 11, 3) := by decide +kernel
theorem d_La_relative_17 : decode k_La_relative.code 17 = .ok (.astore 6, 2) := by decide +kernel
theorem d_La_relative_19 : decode k_La_relative.code 19 = .ok (.iconst 1, 1) := by decide +kernel
theorem d_La_relative_20 : decode k_La_relative.code 20 = .ok (.ireturn, 1) := by decide +kernel
theorem d_La_relative_21 : decode k_La_relative.code 21 = .ok (.astore 6, 2) := by decide +kernel
theorem d_La_relative_23 : decode k_La_relative.code 23 = .ok (.iconst 2, 1) := by decide +kernel
theorem d_La_relative_24 : decode k_La_relative.code 24 = .ok (.ireturn, 1) := by decide +kernel
theorem d_La_relative_25 : decode k_La_relative.code 25 = .ok (.iconst 0, 1) := by decide +kernel
theorem d_La_relative_26 : decode k_La_relative.code 26 = .ok (.ireturn, 1) := by decide +kernel
theorem d_La_shift_0 : decode k_La_shift.code 0 = .ok (.aload_n 2, 1) := by decide +kernel
theorem d_La_shift_1 : decode k_La_shift.code 1 = .ok (.iconst 0, 1) := by decide +kernel
theorem d_La_shift_2 : decode k_La_shift.code 2 = .ok (.aload_n 0, 1) := by decide +kernel
theorem d_La_shift_3 : decode k_La_shift.code 3 = .ok (.iload_n 1, 1) := by decide +kernel
theorem s_La_shift_4 : SiteV k_La_shift k_Pm_shift 4 7 1 := ⟨37, (R_Pm, F_Pm, 7), by decide +kernel, ⟨kw_Pm_shift, tx1 1 rfl rfl, by decide, by decide⟩, tx3 39 rfl rfl, tx3 40 rfl rfl, tx3 41 rfl rfl, rfl, ⟨by decide +kernel, by decide +kernel⟩, np_Pm_shift⟩
theorem d_La_shift_7 : decode k_La_shift.code 7 = .ok (.i2l, 1) := by decide +kernel
theorem d_La_shift_8 : decode k_La_shift.code 8 = .ok (.lastore, 1) := by decide +kernel
theorem d_La_shift_9 : decode k_La_shift.code 9 = .ok (.goto 9, 3) := by decide +kernel
theorem d_La_shift_12 : decode k_La_shift.code 12 = .ok (.astore_n 3, 1) := by decide +kernel
theorem d_La_shift_13 : decode k_La_shift.code 13 = .ok (.iconst 1, 1) := by decide +kernel
theorem d_La_shift_14 : decode k_La_shift.code 14 = .ok (.ireturn, 1) := by decide +kernel
theorem d_La_shift_15 : decode k_La_shift.code 15 = .ok (.astore_n 3, 1) := by decide +kernel
theorem d_La_shift_16 : decode k_La_shift.code 16 = .ok (.iconst 2, 1) := by decide +kernel
theorem d_La_shift_17 : decode k_La_shift.code 17 = .ok (.ireturn, 1) := by decide +kernel
theorem d_La_shift_18 : decode k_La_shift.code 18 = .ok (.iconst 0, 1) := by decide +kernel
theorem d_La_shift_19 : decode k_La_shift.code 19 = .ok (.ireturn, 1) := by decide +kernel
theorem d_La_spare_0 : decode k_La_spare.code 0 = .ok (.aload_n 3, 1) := by decide +kernel
theorem d_La_spare_1 : decode k_La_spare.code 1 = .ok (.iconst 0, 1) := by decide +kernel
theorem d_La_spare_2 : decode k_La_spare.code 2 = .ok (.aload_n 0, 1) := by decide +kernel
theorem d_La_spare_3 : decode k_La_spare.code 3 = .ok (.iload_n 1, 1) := by decide +kernel
theorem d_La_spare_4 : decode k_La_spare.code 4 = .ok (.iload_n 2, 1) := by decide +kernel
theorem s_La_spare_5 : SiteV k_La_spare k_Pm_spare 5 7 2 := ⟨40, (R_Pm, F_Pm, 7), by decide +kernel, ⟨kw_Pm_spare, tx1 1 rfl rfl, by decide, by decide⟩, tx3 57 rfl rfl, tx3 58 rfl rfl, tx3 59 rfl rfl, rfl, ⟨by decide +kernel, by decide +kernel⟩, np_Pm_spare⟩
theorem d_La_spare_8 : decode k_La_spare.code 8 = .ok (.ifCond .eq 7, 3) := by decide +kernel
theorem d_La_spare_11 : decode k_La_spare.code 11 = .ok (.lconst 1, 1) := by decide +kernel
theorem d_La_spare_12 : decode k_La_spare.code 12 = .ok (.goto 4, 3) := by decide +kernel
theorem d_La_spare_15 : decode k_La_spare.code 15 = .ok (.lconst 0, 1) := by decide +kernel
theorem d_La_spare_16 : decode k_La_spare.code 16 = .ok (.lastore, 1) := by decide +kernel
theorem d_La_spare_17 : decode k_La_spare.code 17 = .ok (.goto 7, 3) := by decide +kernel
theorem d_La_spare_20 : decode k_La_spare.code 20 = .ok (.astore 4, 2) := by decide +kernel
theorem d_La_spare_22 : decode k_La_spare.code 22 = .ok (.iconst 1, 1) := by decide +kernel
theorem d_La_spare_23 : decode k_La_spare.code 23 = .ok (.ireturn, 1) := by decide +kernel
theorem d_La_spare_24 : decode k_La_spare.code 24 = .ok (.iconst 0, 1) := by decide +kernel
theorem d_La_spare_25 : decode k_La_spare.code 25 = .ok (.ireturn, 1) := by decide +kernel
theorem d_La_run_0 : decode k_La_run.code 0 = .ok (.aload_n 2, 1) := by decide +kernel
theorem d_La_run_1 : decode k_La_run.code 1 = .ok (.iconst 0, 1) := by decide +kernel
theorem d_La_run_2 : decode k_La_run.code 2 = .ok (.aload_n 0, 1) := by decide +kernel
theorem d_La_run_3 : decode k_La_run.code 3 = .ok (.iload_n 1, 1) := by decide +kernel
theorem s_La_run_4 : SiteV k_La_run k_Pm_run 4 7 1 := ⟨44, (R_Pm, F_Pm, 7), by decide +kernel, ⟨kw_Pm_run, tx1 1 rfl rfl, by decide, by decide⟩, tx3 68 rfl rfl, tx3 69 rfl rfl, tx3 70 rfl rfl, rfl, ⟨by decide +kernel, by decide +kernel⟩, np_Pm_run⟩
theorem d_La_run_7 : decode k_La_run.code 7 = .ok (.i2l, 1) := by decide +kernel
theorem d_La_run_8 : decode k_La_run.code 8 = .ok (.lastore, 1) := by decide +kernel
theorem d_La_run_9 : decode k_La_run.code 9 = .ok (.goto 6, 3) := by decide +kernel
theorem d_La_run_12 : decode k_La_run.code 12 = .ok (.astore_n 3, 1) := by decide +kernel
theorem d_La_run_13 : decode k_La_run.code 13 = .ok (.iconst 1, 1) := by decide +kernel
theorem d_La_run_14 : decode k_La_run.code 14 = .ok (.ireturn, 1) := by decide +kernel
theorem d_La_run_15 : decode k_La_run.code 15 = .ok (.iconst 0, 1) := by decide +kernel
theorem d_La_run_16 : decode k_La_run.code 16 = .ok (.ireturn, 1) := by decide +kernel
theorem d_La_at_0 : decode k_La_at.code 0 = .ok (.aload_n 3, 1) := by decide +kernel
theorem d_La_at_1 : decode k_La_at.code 1 = .ok (.iconst 0, 1) := by decide +kernel
theorem d_La_at_2 : decode k_La_at.code 2 = .ok (.aload_n 0, 1) := by decide +kernel
theorem d_La_at_3 : decode k_La_at.code 3 = .ok (.iload_n 1, 1) := by decide +kernel
theorem d_La_at_4 : decode k_La_at.code 4 = .ok (.iload_n 2, 1) := by decide +kernel
theorem s_La_at_5 : SiteV k_La_at k_Pm_at 5 7 2 := ⟨47, (R_Pm, F_Pm, 7), by decide +kernel, ⟨kw_Pm_at, tx1 1 rfl rfl, by decide, by decide⟩, tx3 120 rfl rfl, tx3 121 rfl rfl, tx3 122 rfl rfl, rfl, ⟨by decide +kernel, by decide +kernel⟩, np_Pm_at⟩
theorem d_La_at_8 : decode k_La_at.code 8 = .ok (.i2l, 1) := by decide +kernel
theorem d_La_at_9 : decode k_La_at.code 9 = .ok (.lastore, 1) := by decide +kernel
theorem d_La_at_10 : decode k_La_at.code 10 = .ok (.goto 7, 3) := by decide +kernel
theorem d_La_at_13 : decode k_La_at.code 13 = .ok (.astore 4, 2) := by decide +kernel
theorem d_La_at_15 : decode k_La_at.code 15 = .ok (.iconst 1, 1) := by decide +kernel
theorem d_La_at_16 : decode k_La_at.code 16 = .ok (.ireturn, 1) := by decide +kernel
theorem d_La_at_17 : decode k_La_at.code 17 = .ok (.iconst 0, 1) := by decide +kernel
theorem d_La_at_18 : decode k_La_at.code 18 = .ok (.ireturn, 1) := by decide +kernel
theorem d_La_offset_0 : decode k_La_offset.code 0 = .ok (.aload_n 3, 1) := by decide +kernel
theorem d_La_offset_1 : decode k_La_offset.code 1 = .ok (.iconst 0, 1) := by decide +kernel
theorem d_La_offset_2 : decode k_La_offset.code 2 = .ok (.aload_n 0, 1) := by decide +kernel
theorem d_La_offset_3 : decode k_La_offset.code 3 = .ok (.iload_n 1, 1) := by decide +kernel
theorem d_La_offset_4 : decode k_La_offset.code 4 = .ok (.iload_n 2, 1) := by decide +kernel
theorem s_La_offset_5 : SiteV k_La_offset k_Pm_offset 5 7 2 := ⟨51, (R_Pm, F_Pm, 7), by decide +kernel, ⟨kw_Pm_offset, tx1 1 rfl rfl, by decide, by decide⟩, tx3 128 rfl rfl, tx3 129 rfl rfl, tx3 130 rfl rfl, rfl, ⟨by decide +kernel, by decide +kernel⟩, np_Pm_offset⟩
theorem d_La_offset_8 : decode k_La_offset.code 8 = .ok (.i2l, 1) := by decide +kernel
theorem d_La_offset_9 : decode k_La_offset.code 9 = .ok (.lastore, 1) := by decide +kernel
theorem d_La_offset_10 : decode k_La_offset.code 10 = .ok (.goto 7, 3) := by decide +kernel
theorem d_La_offset_13 : decode k_La_offset.code 13 = .ok (.astore 4, 2) := by decide +kernel
theorem d_La_offset_15 : decode k_La_offset.code 15 = .ok (.iconst 1, 1) := by decide +kernel
theorem d_La_offset_16 : decode k_La_offset.code 16 = .ok (.ireturn, 1) := by decide +kernel
theorem d_La_offset_17 : decode k_La_offset.code 17 = .ok (.iconst 0, 1) := by decide +kernel
theorem d_La_offset_18 : decode k_La_offset.code 18 = .ok (.ireturn, 1) := by decide +kernel
theorem d_La_miss_0 : decode k_La_miss.code 0 = .ok (.aload_n 2, 1) := by decide +kernel
theorem d_La_miss_1 : decode k_La_miss.code 1 = .ok (.iconst 0, 1) := by decide +kernel
theorem d_La_miss_2 : decode k_La_miss.code 2 = .ok (.aload_n 0, 1) := by decide +kernel
theorem d_La_miss_3 : decode k_La_miss.code 3 = .ok (.iload_n 1, 1) := by decide +kernel
theorem s_La_miss_4 : SiteV k_La_miss k_Pm_miss 4 7 1 := ⟨54, (R_Pm, F_Pm, 7), by decide +kernel, ⟨kw_Pm_miss, tx1 1 rfl rfl, by decide, by decide⟩, tx3 136 rfl rfl, tx3 137 rfl rfl, tx3 138 rfl rfl, rfl, ⟨by decide +kernel, by decide +kernel⟩, np_Pm_miss⟩
theorem d_La_miss_7 : decode k_La_miss.code 7 = .ok (.lastore, 1) := by decide +kernel
theorem d_La_miss_8 : decode k_La_miss.code 8 = .ok (.goto 6, 3) := by decide +kernel
theorem d_La_miss_11 : decode k_La_miss.code 11 = .ok (.astore_n 3, 1) := by decide +kernel
theorem d_La_miss_12 : decode k_La_miss.code 12 = .ok (.iconst 1, 1) := by decide +kernel
theorem d_La_miss_13 : decode k_La_miss.code 13 = .ok (.ireturn, 1) := by decide +kernel
theorem d_La_miss_14 : decode k_La_miss.code 14 = .ok (.iconst 0, 1) := by decide +kernel
theorem d_La_miss_15 : decode k_La_miss.code 15 = .ok (.ireturn, 1) := by decide +kernel
theorem d_La_known_0 : decode k_La_known.code 0 = .ok (.aload 4, 2) := by decide +kernel
theorem d_La_known_2 : decode k_La_known.code 2 = .ok (.iconst 0, 1) := by decide +kernel
theorem d_La_known_3 : decode k_La_known.code 3 = .ok (.aload_n 0, 1) := by decide +kernel
theorem d_La_known_4 : decode k_La_known.code 4 = .ok (.iload_n 1, 1) := by decide +kernel
theorem d_La_known_5 : decode k_La_known.code 5 = .ok (.iload_n 2, 1) := by decide +kernel
theorem d_La_known_6 : decode k_La_known.code 6 = .ok (.iload_n 3, 1) := by decide +kernel
theorem s_La_known_7 : SiteV k_La_known k_Pm_known 7 7 3 := ⟨58, (R_Pm, F_Pm, 7), by decide +kernel, ⟨kw_Pm_known, tx1 1 rfl rfl, by decide, by decide⟩, tx3 144 rfl rfl, tx3 145 rfl rfl, tx3 146 rfl rfl, rfl, ⟨by decide +kernel, by decide +kernel⟩, np_Pm_known⟩
theorem d_La_known_10 : decode k_La_known.code 10 = .ok (.i2l, 1) := by decide +kernel
theorem d_La_known_11 : decode k_La_known.code 11 = .ok (.lastore, 1) := by decide +kernel
theorem d_La_known_12 : decode k_La_known.code 12 = .ok (.goto 15, 3) := by decide +kernel
theorem d_La_known_15 : decode k_La_known.code 15 = .ok (.astore 5, 2) := by decide +kernel
theorem d_La_known_17 : decode k_La_known.code 17 = .ok (.iconst 1, 1) := by decide +kernel
theorem d_La_known_18 : decode k_La_known.code 18 = .ok (.ireturn, 1) := by decide +kernel
theorem d_La_known_19 : decode k_La_known.code 19 = .ok (.astore 5, 2) := by decide +kernel
theorem d_La_known_21 : decode k_La_known.code 21 = .ok (.iconst 2, 1) := by decide +kernel
theorem d_La_known_22 : decode k_La_known.code 22 = .ok (.ireturn, 1) := by decide +kernel
theorem d_La_known_23 : decode k_La_known.code 23 = .ok (.astore 5, 2) := by decide +kernel
theorem d_La_known_25 : decode k_La_known.code 25 = .ok (.iconst 3, 1) := by decide +kernel
theorem d_La_known_26 : decode k_La_known.code 26 = .ok (.ireturn, 1) := by decide +kernel
theorem d_La_known_27 : decode k_La_known.code 27 = .ok (.iconst 0, 1) := by decide +kernel
theorem d_La_known_28 : decode k_La_known.code 28 = .ok (.ireturn, 1) := by decide +kernel
theorem d_La_scale_0 : decode k_La_scale.code 0 = .ok (.aload_n 2, 1) := by decide +kernel
theorem d_La_scale_1 : decode k_La_scale.code 1 = .ok (.iconst 0, 1) := by decide +kernel
theorem d_La_scale_2 : decode k_La_scale.code 2 = .ok (.aload_n 0, 1) := by decide +kernel
theorem d_La_scale_3 : decode k_La_scale.code 3 = .ok (.iload_n 1, 1) := by decide +kernel
theorem s_La_scale_4 : SiteV k_La_scale k_Pm_scale 4 7 1 := ⟨62, (R_Pm, F_Pm, 7), by decide +kernel, ⟨kw_Pm_scale, tx1 1 rfl rfl, by decide, by decide⟩, tx3 159 rfl rfl, tx3 160 rfl rfl, tx3 161 rfl rfl, rfl, ⟨by decide +kernel, by decide +kernel⟩, np_Pm_scale⟩
theorem d_La_scale_7 : decode k_La_scale.code 7 = .ok (.lastore, 1) := by decide +kernel
theorem d_La_scale_8 : decode k_La_scale.code 8 = .ok (.goto 6, 3) := by decide +kernel
theorem d_La_scale_11 : decode k_La_scale.code 11 = .ok (.astore_n 3, 1) := by decide +kernel
theorem d_La_scale_12 : decode k_La_scale.code 12 = .ok (.iconst 1, 1) := by decide +kernel
theorem d_La_scale_13 : decode k_La_scale.code 13 = .ok (.ireturn, 1) := by decide +kernel
theorem d_La_scale_14 : decode k_La_scale.code 14 = .ok (.iconst 0, 1) := by decide +kernel
theorem d_La_scale_15 : decode k_La_scale.code 15 = .ok (.ireturn, 1) := by decide +kernel
theorem d_La_heights_0 : decode k_La_heights.code 0 = .ok (.aload 4, 2) := by decide +kernel
theorem d_La_heights_2 : decode k_La_heights.code 2 = .ok (.iconst 0, 1) := by decide +kernel
theorem d_La_heights_3 : decode k_La_heights.code 3 = .ok (.aload_n 0, 1) := by decide +kernel
theorem d_La_heights_4 : decode k_La_heights.code 4 = .ok (.iload_n 1, 1) := by decide +kernel
theorem d_La_heights_5 : decode k_La_heights.code 5 = .ok (.iload_n 2, 1) := by decide +kernel
theorem d_La_heights_6 : decode k_La_heights.code 6 = .ok (.iload_n 3, 1) := by decide +kernel
theorem s_La_heights_7 : SiteV k_La_heights k_Pm_heights 7 7 3 := ⟨65, (R_Pm, F_Pm, 7), by decide +kernel, ⟨kw_Pm_heights, tx1 1 rfl rfl, by decide, by decide⟩, tx3 180 rfl rfl, tx3 181 rfl rfl, tx3 182 rfl rfl, rfl, ⟨by decide +kernel, by decide +kernel⟩, np_Pm_heights⟩
theorem d_La_heights_10 : decode k_La_heights.code 10 = .ok (.i2l, 1) := by decide +kernel
theorem d_La_heights_11 : decode k_La_heights.code 11 = .ok (.lastore, 1) := by decide +kernel
theorem d_La_heights_12 : decode k_La_heights.code 12 = .ok (.goto 11, 3) := by decide +kernel
theorem d_La_heights_15 : decode k_La_heights.code 15 = .ok (.astore 5, 2) := by decide +kernel
theorem d_La_heights_17 : decode k_La_heights.code 17 = .ok (.iconst 1, 1) := by decide +kernel
theorem d_La_heights_18 : decode k_La_heights.code 18 = .ok (.ireturn, 1) := by decide +kernel
theorem d_La_heights_19 : decode k_La_heights.code 19 = .ok (.astore 5, 2) := by decide +kernel
theorem d_La_heights_21 : decode k_La_heights.code 21 = .ok (.iconst 2, 1) := by decide +kernel
theorem d_La_heights_22 : decode k_La_heights.code 22 = .ok (.ireturn, 1) := by decide +kernel
theorem d_La_heights_23 : decode k_La_heights.code 23 = .ok (.iconst 0, 1) := by decide +kernel
theorem d_La_heights_24 : decode k_La_heights.code 24 = .ok (.ireturn, 1) := by decide +kernel
theorem d_La_depth_0 : decode k_La_depth.code 0 = .ok (.aload_n 3, 1) := by decide +kernel
theorem d_La_depth_1 : decode k_La_depth.code 1 = .ok (.iconst 0, 1) := by decide +kernel
theorem d_La_depth_2 : decode k_La_depth.code 2 = .ok (.aload_n 0, 1) := by decide +kernel
theorem d_La_depth_3 : decode k_La_depth.code 3 = .ok (.iload_n 1, 1) := by decide +kernel
theorem d_La_depth_4 : decode k_La_depth.code 4 = .ok (.iload_n 2, 1) := by decide +kernel
theorem s_La_depth_5 : SiteV k_La_depth k_Pm_depth 5 7 2 := ⟨68, (R_Pm, F_Pm, 7), by decide +kernel, ⟨kw_Pm_depth, tx1 1 rfl rfl, by decide, by decide⟩, tx3 219 rfl rfl, tx3 220 rfl rfl, tx3 221 rfl rfl, rfl, ⟨by decide +kernel, by decide +kernel⟩, np_Pm_depth⟩
theorem d_La_depth_8 : decode k_La_depth.code 8 = .ok (.i2l, 1) := by decide +kernel
theorem d_La_depth_9 : decode k_La_depth.code 9 = .ok (.lastore, 1) := by decide +kernel
theorem d_La_depth_10 : decode k_La_depth.code 10 = .ok (.goto 11, 3) := by decide +kernel
theorem d_La_depth_13 : decode k_La_depth.code 13 = .ok (.astore 4, 2) := by decide +kernel
theorem d_La_depth_15 : decode k_La_depth.code 15 = .ok (.iconst 1, 1) := by decide +kernel
theorem d_La_depth_16 : decode k_La_depth.code 16 = .ok (.ireturn, 1) := by decide +kernel
theorem d_La_depth_17 : decode k_La_depth.code 17 = .ok (.astore 4, 2) := by decide +kernel
theorem d_La_depth_19 : decode k_La_depth.code 19 = .ok (.iconst 2, 1) := by decide +kernel
theorem d_La_depth_20 : decode k_La_depth.code 20 = .ok (.ireturn, 1) := by decide +kernel
theorem d_La_depth_21 : decode k_La_depth.code 21 = .ok (.iconst 0, 1) := by decide +kernel
theorem d_La_depth_22 : decode k_La_depth.code 22 = .ok (.ireturn, 1) := by decide +kernel
theorem d_La_holes_0 : decode k_La_holes.code 0 = .ok (.aload_n 2, 1) := by decide +kernel
theorem d_La_holes_1 : decode k_La_holes.code 1 = .ok (.iconst 0, 1) := by decide +kernel
theorem d_La_holes_2 : decode k_La_holes.code 2 = .ok (.aload_n 0, 1) := by decide +kernel
theorem d_La_holes_3 : decode k_La_holes.code 3 = .ok (.iload_n 1, 1) := by decide +kernel
theorem s_La_holes_4 : SiteV k_La_holes k_Pm_holes 4 7 1 := ⟨71, (R_Pm, F_Pm, 7), by decide +kernel, ⟨kw_Pm_holes, tx1 1 rfl rfl, by decide, by decide⟩, tx3 234 rfl rfl, tx3 235 rfl rfl, tx3 236 rfl rfl, rfl, ⟨by decide +kernel, by decide +kernel⟩, np_Pm_holes⟩
theorem d_La_holes_7 : decode k_La_holes.code 7 = .ok (.i2l, 1) := by decide +kernel
theorem d_La_holes_8 : decode k_La_holes.code 8 = .ok (.lastore, 1) := by decide +kernel
theorem d_La_holes_9 : decode k_La_holes.code 9 = .ok (.goto 6, 3) := by decide +kernel
theorem d_La_holes_12 : decode k_La_holes.code 12 = .ok (.astore_n 3, 1) := by decide +kernel
theorem d_La_holes_13 : decode k_La_holes.code 13 = .ok (.iconst 1, 1) := by decide +kernel
theorem d_La_holes_14 : decode k_La_holes.code 14 = .ok (.ireturn, 1) := by decide +kernel
theorem d_La_holes_15 : decode k_La_holes.code 15 = .ok (.iconst 0, 1) := by decide +kernel
theorem d_La_holes_16 : decode k_La_holes.code 16 = .ok (.ireturn, 1) := by decide +kernel
theorem d_La_count_0 : decode k_La_count.code 0 = .ok (.aload_n 2, 1) := by decide +kernel
theorem d_La_count_1 : decode k_La_count.code 1 = .ok (.iconst 0, 1) := by decide +kernel
theorem d_La_count_2 : decode k_La_count.code 2 = .ok (.aload_n 0, 1) := by decide +kernel
theorem d_La_count_3 : decode k_La_count.code 3 = .ok (.iload_n 1, 1) := by decide +kernel
theorem s_La_count_4 : SiteV k_La_count k_Pm_count 4 7 1 := ⟨74, (R_Pm, F_Pm, 7), by decide +kernel, ⟨kw_Pm_count, tx1 1 rfl rfl, by decide, by decide⟩, tx4 21 rfl rfl, tx4 22 rfl rfl, tx4 23 rfl rfl, rfl, ⟨by decide +kernel, by decide +kernel⟩, np_Pm_count⟩
theorem d_La_count_7 : decode k_La_count.code 7 = .ok (.i2l, 1) := by decide +kernel
theorem d_La_count_8 : decode k_La_count.code 8 = .ok (.lastore, 1) := by decide +kernel
theorem d_La_count_9 : decode k_La_count.code 9 = .ok (.goto 6, 3) := by decide +kernel
theorem d_La_count_12 : decode k_La_count.code 12 = .ok (.astore_n 3, 1) := by decide +kernel
theorem d_La_count_13 : decode k_La_count.code 13 = .ok (.iconst 1, 1) := by decide +kernel
theorem d_La_count_14 : decode k_La_count.code 14 = .ok (.ireturn, 1) := by decide +kernel
theorem d_La_count_15 : decode k_La_count.code 15 = .ok (.iconst 0, 1) := by decide +kernel
theorem d_La_count_16 : decode k_La_count.code 16 = .ok (.ireturn, 1) := by decide +kernel
