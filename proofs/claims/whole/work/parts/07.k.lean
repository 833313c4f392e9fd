/-! the methods; how many parameters they take -/
def k_Pm_init : Kt := (⟨R_Pm, "<init>", "(III)V"⟩, prog_1_method_1_code, 6, none, 2, 43, [])
theorem np_Pm_init : nPar k_Pm_init 3 := fun sig hs => by
  have e : parseMethodDescriptor k_Pm_init.y.desc = some sig := hs
  have e2 : (parseMethodDescriptor k_Pm_init.y.desc).map (fun q => q.parameters.length) = some 3 := by decide +kernel
  rw [e] at e2
  exact (Option.some.inj e2).symm
theorem kw_Pm_init : k_Pm_init.w ∈ tw := tx1 23 rfl rfl
def k_Pm_within : Kt := (⟨R_Pm, "within", "(III)I"⟩, prog_1_method_24_code, 3, (some .int), 1, 21, [])
theorem np_Pm_within : nPar k_Pm_within 3 := fun sig hs => by
  have e : parseMethodDescriptor k_Pm_within.y.desc = some sig := hs
  have e2 : (parseMethodDescriptor k_Pm_within.y.desc).map (fun q => q.parameters.length) = some 3 := by decide +kernel
  rw [e] at e2
  exact (Option.some.inj e2).symm
theorem kw_Pm_within : k_Pm_within.w ∈ tw := tx1 29 rfl rfl
def k_Ph_init : Kt := (⟨R_Ph, "<init>", "(II)V"⟩, prog_5_method_1_code, 3, none, 1, 20, [])
theorem np_Ph_init : nPar k_Ph_init 2 := fun sig hs => by
  have e : parseMethodDescriptor k_Ph_init.y.desc = some sig := hs
  have e2 : (parseMethodDescriptor k_Ph_init.y.desc).map (fun q => q.parameters.length) = some 2 := by decide +kernel
  rw [e] at e2
  exact (Option.some.inj e2).symm
theorem kw_Ph_init : k_Ph_init.w ∈ tw := tx1 40 rfl rfl
def k_Se_init : Kt := (⟨R_Se, "<init>", "(II)V"⟩, prog_8_method_1_code, 3, none, 1, 20, [])
theorem np_Se_init : nPar k_Se_init 2 := fun sig hs => by
  have e : parseMethodDescriptor k_Se_init.y.desc = some sig := hs
  have e2 : (parseMethodDescriptor k_Se_init.y.desc).map (fun q => q.parameters.length) = some 2 := by decide +kernel
  rw [e] at e2
  exact (Option.some.inj e2).symm
theorem kw_Se_init : k_Se_init.w ∈ tw := tx1 57 rfl rfl
def k_Pl_init : Kt := (⟨R_Pl, "<init>", "()V"⟩, prog_6_method_1_code, 1, none, 1, 20, [])
theorem np_Pl_init : nPar k_Pl_init 0 := fun sig hs => by
  have e : parseMethodDescriptor k_Pl_init.y.desc = some sig := hs
  have e2 : (parseMethodDescriptor k_Pl_init.y.desc).map (fun q => q.parameters.length) = some 0 := by decide +kernel
  rw [e] at e2
  exact (Option.some.inj e2).symm
theorem kw_Pl_init : k_Pl_init.w ∈ tw := tx1 85 rfl rfl
def k_Ag_init : Kt := (⟨R_Ag, "<init>", "(I)V"⟩, prog_3_method_1_code, 2, none, 1, 20, [])
theorem np_Ag_init : nPar k_Ag_init 1 := fun sig hs => by
  have e : parseMethodDescriptor k_Ag_init.y.desc = some sig := hs
  have e2 : (parseMethodDescriptor k_Ag_init.y.desc).map (fun q => q.parameters.length) = some 1 := by decide +kernel
  rw [e] at e2
  exact (Option.some.inj e2).symm
theorem kw_Ag_init : k_Ag_init.w ∈ tw := tx1 109 rfl rfl
def k_Ad_init : Kt := (⟨R_Ad, "<init>", "()V"⟩, prog_2_method_1_code, 1, none, 1, 20, [])
theorem np_Ad_init : nPar k_Ad_init 0 := fun sig hs => by
  have e : parseMethodDescriptor k_Ad_init.y.desc = some sig := hs
  have e2 : (parseMethodDescriptor k_Ad_init.y.desc).map (fun q => q.parameters.length) = some 0 := by decide +kernel
  rw [e] at e2
  exact (Option.some.inj e2).symm
theorem kw_Ad_init : k_Ad_init.w ∈ tw := tx1 137 rfl rfl
def k_Le_init : Kt := (⟨R_Le, "<init>", "()V"⟩, prog_4_method_1_code, 1, none, 1, 20, [])
theorem np_Le_init : nPar k_Le_init 0 := fun sig hs => by
  have e : parseMethodDescriptor k_Le_init.y.desc = some sig := hs
  have e2 : (parseMethodDescriptor k_Le_init.y.desc).map (fun q => q.parameters.length) = some 0 := by decide +kernel
  rw [e] at e2
  exact (Option.some.inj e2).symm
theorem kw_Le_init : k_Le_init.w ∈ tw := tx1 156 rfl rfl
def k_Re_init : Kt := (⟨R_Re, "<init>", "(II)V"⟩, prog_7_method_1_code, 3, none, 1, 20, [])
theorem np_Re_init : nPar k_Re_init 2 := fun sig hs => by
  have e : parseMethodDescriptor k_Re_init.y.desc = some sig := hs
  have e2 : (parseMethodDescriptor k_Re_init.y.desc).map (fun q => q.parameters.length) = some 2 := by decide +kernel
  rw [e] at e2
  exact (Option.some.inj e2).symm
theorem kw_Re_init : k_Re_init.w ∈ tw := tx1 175 rfl rfl
def k_Pm_sum : Kt := (⟨R_Pm, "sum", "()J"⟩, prog_1_method_11_code, 1, (some .long), 3, 75, [])
theorem np_Pm_sum : nPar k_Pm_sum 0 := fun sig hs => by
  have e : parseMethodDescriptor k_Pm_sum.y.desc = some sig := hs
  have e2 : (parseMethodDescriptor k_Pm_sum.y.desc).map (fun q => q.parameters.length) = some 0 := by decide +kernel
  rw [e] at e2
  exact (Option.some.inj e2).symm
theorem kw_Pm_sum : k_Pm_sum.w ∈ tw := tx1 233 rfl rfl
def k_Ad_total : Kt := (⟨R_Ad, "total", "(LPhotoModels$Places;)J"⟩, prog_2_method_5_code, 5, (some .long), 2, 51, [])
theorem np_Ad_total : nPar k_Ad_total 1 := fun sig hs => by
  have e : parseMethodDescriptor k_Ad_total.y.desc = some sig := hs
  have e2 : (parseMethodDescriptor k_Ad_total.y.desc).map (fun q => q.parameters.length) = some 1 := by decide +kernel
  rw [e] at e2
  exact (Option.some.inj e2).symm
theorem kw_Ad_total : k_Ad_total.w ∈ tw := tx1 237 rfl rfl
def k_Pl_number : Kt := (⟨R_Pl, "number", "()I"⟩, prog_6_method_2_code, 1, (some .int), 0, 0, [])
theorem np_Pl_number : nPar k_Pl_number 0 := fun sig hs => by
  have e : parseMethodDescriptor k_Pl_number.y.desc = some sig := hs
  have e2 : (parseMethodDescriptor k_Pl_number.y.desc).map (fun q => q.parameters.length) = some 0 := by decide +kernel
  rw [e] at e2
  exact (Option.some.inj e2).symm
theorem kw_Pl_number : k_Pl_number.w ∈ tw := tx2 1 rfl rfl
def k_Pl_isSpare : Kt := (⟨R_Pl, "isSpare", "(I)Z"⟩, prog_6_method_6_code, 2, (some .boolean), 0, 0, [])
theorem np_Pl_isSpare : nPar k_Pl_isSpare 1 := fun sig hs => by
  have e : parseMethodDescriptor k_Pl_isSpare.y.desc = some sig := hs
  have e2 : (parseMethodDescriptor k_Pl_isSpare.y.desc).map (fun q => q.parameters.length) = some 1 := by decide +kernel
  rw [e] at e2
  exact (Option.some.inj e2).symm
theorem kw_Pl_isSpare : k_Pl_isSpare.w ∈ tw := tx2 5 rfl rfl
def k_Ad_share : Kt := (⟨R_Ad, "share", "(LPhotoModels$Places;I)J"⟩, prog_2_method_6_code, 9, (some .long), 1, 23, [])
theorem np_Ad_share : nPar k_Ad_share 2 := fun sig hs => by
  have e : parseMethodDescriptor k_Ad_share.y.desc = some sig := hs
  have e2 : (parseMethodDescriptor k_Ad_share.y.desc).map (fun q => q.parameters.length) = some 2 := by decide +kernel
  rw [e] at e2
  exact (Option.some.inj e2).symm
theorem kw_Ad_share : k_Ad_share.w ∈ tw := tx2 9 rfl rfl
def k_Pl_isNoted : Kt := (⟨R_Pl, "isNoted", "(II)Z"⟩, prog_6_method_8_code, 3, (some .boolean), 0, 0, [])
theorem np_Pl_isNoted : nPar k_Pl_isNoted 2 := fun sig hs => by
  have e : parseMethodDescriptor k_Pl_isNoted.y.desc = some sig := hs
  have e2 : (parseMethodDescriptor k_Pl_isNoted.y.desc).map (fun q => q.parameters.length) = some 2 := by decide +kernel
  rw [e] at e2
  exact (Option.some.inj e2).symm
theorem kw_Pl_isNoted : k_Pl_isNoted.w ∈ tw := tx2 13 rfl rfl
def k_Pl_where : Kt := (⟨R_Pl, "where", "(III)I"⟩, prog_6_method_9_code, 4, (some .int), 0, 0, [])
theorem np_Pl_where : nPar k_Pl_where 3 := fun sig hs => by
  have e : parseMethodDescriptor k_Pl_where.y.desc = some sig := hs
  have e2 : (parseMethodDescriptor k_Pl_where.y.desc).map (fun q => q.parameters.length) = some 3 := by decide +kernel
  rw [e] at e2
  exact (Option.some.inj e2).symm
theorem kw_Pl_where : k_Pl_where.w ∈ tw := tx2 18 rfl rfl
def k_Ad_position : Kt := (⟨R_Ad, "position", "(II)I"⟩, prog_2_method_2_code, 3, (some .int), 0, 0, [])
theorem np_Ad_position : nPar k_Ad_position 2 := fun sig hs => by
  have e : parseMethodDescriptor k_Ad_position.y.desc = some sig := hs
  have e2 : (parseMethodDescriptor k_Ad_position.y.desc).map (fun q => q.parameters.length) = some 2 := by decide +kernel
  rw [e] at e2
  exact (Option.some.inj e2).symm
theorem kw_Ad_position : k_Ad_position.w ∈ tw := tx2 22 rfl rfl
def k_Ad_moved : Kt := (⟨R_Ad, "moved", "(II)I"⟩, prog_2_method_3_code, 3, (some .int), 0, 0, [])
theorem np_Ad_moved : nPar k_Ad_moved 2 := fun sig hs => by
  have e : parseMethodDescriptor k_Ad_moved.y.desc = some sig := hs
  have e2 : (parseMethodDescriptor k_Ad_moved.y.desc).map (fun q => q.parameters.length) = some 2 := by decide +kernel
  rw [e] at e2
  exact (Option.some.inj e2).symm
theorem kw_Ad_moved : k_Ad_moved.w ∈ tw := tx2 26 rfl rfl
def k_La_cell : Kt := (⟨R_La, "cell", "([II)I"⟩, method_2_code, 2, (some .int), 0, 0, [])
theorem np_La_cell : nPar k_La_cell 2 := fun sig hs => by
  have e : parseMethodDescriptor k_La_cell.y.desc = some sig := hs
  have e2 : (parseMethodDescriptor k_La_cell.y.desc).map (fun q => q.parameters.length) = some 2 := by decide +kernel
  rw [e] at e2
  exact (Option.some.inj e2).symm
theorem kw_La_cell : k_La_cell.w ∈ tw := tx2 29 rfl rfl
def k_La_pixel : Kt := (⟨R_La, "pixel", "(LPhotoModels;IIII[J)I"⟩, method_3_code, 7, (some .int), 8, 139, [(0, 14, 17, 13), (0, 14, 21, 15)])
theorem np_La_pixel : nPar k_La_pixel 6 := fun sig hs => by
  have e : parseMethodDescriptor k_La_pixel.y.desc = some sig := hs
  have e2 : (parseMethodDescriptor k_La_pixel.y.desc).map (fun q => q.parameters.length) = some 6 := by decide +kernel
  rw [e] at e2
  exact (Option.some.inj e2).symm
theorem kw_La_pixel : k_La_pixel.w ∈ tw := tx2 32 rfl rfl
def k_Pm_pixel : Kt := (⟨R_Pm, "pixel", "(IIII)I"⟩, prog_1_method_2_code, 5, (some .int), 7, 115, [])
theorem np_Pm_pixel : nPar k_Pm_pixel 4 := fun sig hs => by
  have e : parseMethodDescriptor k_Pm_pixel.y.desc = some sig := hs
  have e2 : (parseMethodDescriptor k_Pm_pixel.y.desc).map (fun q => q.parameters.length) = some 4 := by decide +kernel
  rw [e] at e2
  exact (Option.some.inj e2).symm
theorem kw_Pm_pixel : k_Pm_pixel.w ∈ tw := tx2 38 rfl rfl
def k_Pm_isPhoto : Kt := (⟨R_Pm, "isPhoto", "(I)Z"⟩, prog_1_method_21_code, 1, (some .boolean), 1, 22, [])
theorem np_Pm_isPhoto : nPar k_Pm_isPhoto 1 := fun sig hs => by
  have e : parseMethodDescriptor k_Pm_isPhoto.y.desc = some sig := hs
  have e2 : (parseMethodDescriptor k_Pm_isPhoto.y.desc).map (fun q => q.parameters.length) = some 1 := by decide +kernel
  rw [e] at e2
  exact (Option.some.inj e2).symm
theorem kw_Pm_isPhoto : k_Pm_isPhoto.w ∈ tw := tx2 41 rfl rfl
def k_Pm_isWithin : Kt := (⟨R_Pm, "isWithin", "(III)Z"⟩, prog_1_method_23_code, 3, (some .boolean), 0, 0, [])
theorem np_Pm_isWithin : nPar k_Pm_isWithin 3 := fun sig hs => by
  have e : parseMethodDescriptor k_Pm_isWithin.y.desc = some sig := hs
  have e2 : (parseMethodDescriptor k_Pm_isWithin.y.desc).map (fun q => q.parameters.length) = some 3 := by decide +kernel
  rw [e] at e2
  exact (Option.some.inj e2).symm
theorem kw_Pm_isWithin : k_Pm_isWithin.w ∈ tw := tx2 44 rfl rfl
def k_Ph_hasCell : Kt := (⟨R_Ph, "hasCell", "(II)Z"⟩, prog_5_method_4_code, 3, (some .boolean), 1, 22, [])
theorem np_Ph_hasCell : nPar k_Ph_hasCell 2 := fun sig hs => by
  have e : parseMethodDescriptor k_Ph_hasCell.y.desc = some sig := hs
  have e2 : (parseMethodDescriptor k_Ph_hasCell.y.desc).map (fun q => q.parameters.length) = some 2 := by decide +kernel
  rw [e] at e2
  exact (Option.some.inj e2).symm
theorem kw_Ph_hasCell : k_Ph_hasCell.w ∈ tw := tx2 48 rfl rfl
def k_Pm_needIndex : Kt := (⟨R_Pm, "needIndex", "(Z)V"⟩, prog_1_method_25_code, 1, none, 6, 95, [])
theorem np_Pm_needIndex : nPar k_Pm_needIndex 1 := fun sig hs => by
  have e : parseMethodDescriptor k_Pm_needIndex.y.desc = some sig := hs
  have e2 : (parseMethodDescriptor k_Pm_needIndex.y.desc).map (fun q => q.parameters.length) = some 1 := by decide +kernel
  rw [e] at e2
  exact (Option.some.inj e2).symm
theorem kw_Pm_needIndex : k_Pm_needIndex.w ∈ tw := tx2 52 rfl rfl
def k_Pm_needArgument : Kt := (⟨R_Pm, "needArgument", "(Z)V"⟩, prog_1_method_26_code, 1, none, 6, 95, [])
theorem np_Pm_needArgument : nPar k_Pm_needArgument 1 := fun sig hs => by
  have e : parseMethodDescriptor k_Pm_needArgument.y.desc = some sig := hs
  have e2 : (parseMethodDescriptor k_Pm_needArgument.y.desc).map (fun q => q.parameters.length) = some 1 := by decide +kernel
  rw [e] at e2
  exact (Option.some.inj e2).symm
theorem kw_Pm_needArgument : k_Pm_needArgument.w ∈ tw := tx2 123 rfl rfl
def k_Ph_change : Kt := (⟨R_Ph, "change", "(IIII)I"⟩, prog_5_method_7_code, 7, (some .int), 1, 23, [])
theorem np_Ph_change : nPar k_Ph_change 4 := fun sig hs => by
  have e : parseMethodDescriptor k_Ph_change.y.desc = some sig := hs
  have e2 : (parseMethodDescriptor k_Ph_change.y.desc).map (fun q => q.parameters.length) = some 4 := by decide +kernel
  rw [e] at e2
  exact (Option.some.inj e2).symm
theorem kw_Ph_change : k_Ph_change.w ∈ tw := tx2 143 rfl rfl
def k_Ph_index : Kt := (⟨R_Ph, "index", "(III)I"⟩, prog_5_method_9_code, 4, (some .int), 0, 0, [])
theorem np_Ph_index : nPar k_Ph_index 3 := fun sig hs => by
  have e : parseMethodDescriptor k_Ph_index.y.desc = some sig := hs
  have e2 : (parseMethodDescriptor k_Ph_index.y.desc).map (fun q => q.parameters.length) = some 3 := by decide +kernel
  rw [e] at e2
  exact (Option.some.inj e2).symm
theorem kw_Ph_index : k_Ph_index.w ∈ tw := tx2 147 rfl rfl
def k_La_match : Kt := (⟨R_La, "match", "(LPhotoModels;IIII[J)I"⟩, method_4_code, 7, (some .int), 8, 139, [(0, 14, 17, 13)])
theorem np_La_match : nPar k_La_match 6 := fun sig hs => by
  have e : parseMethodDescriptor k_La_match.y.desc = some sig := hs
  have e2 : (parseMethodDescriptor k_La_match.y.desc).map (fun q => q.parameters.length) = some 6 := by decide +kernel
  rw [e] at e2
  exact (Option.some.inj e2).symm
theorem kw_La_match : k_La_match.w ∈ tw := tx2 150 rfl rfl
def k_Pm_match : Kt := (⟨R_Pm, "match", "(IIII)I"⟩, prog_1_method_3_code, 5, (some .int), 7, 115, [])
theorem np_Pm_match : nPar k_Pm_match 4 := fun sig hs => by
  have e : parseMethodDescriptor k_Pm_match.y.desc = some sig := hs
  have e2 : (parseMethodDescriptor k_Pm_match.y.desc).map (fun q => q.parameters.length) = some 4 := by decide +kernel
  rw [e] at e2
  exact (Option.some.inj e2).symm
theorem kw_Pm_match : k_Pm_match.w ∈ tw := tx2 154 rfl rfl
def k_Ph_hasWindow : Kt := (⟨R_Ph, "hasWindow", "(II)Z"⟩, prog_5_method_5_code, 3, (some .boolean), 1, 22, [])
theorem np_Ph_hasWindow : nPar k_Ph_hasWindow 2 := fun sig hs => by
  have e : parseMethodDescriptor k_Ph_hasWindow.y.desc = some sig := hs
  have e2 : (parseMethodDescriptor k_Ph_hasWindow.y.desc).map (fun q => q.parameters.length) = some 2 := by decide +kernel
  rw [e] at e2
  exact (Option.some.inj e2).symm
theorem kw_Ph_hasWindow : k_Ph_hasWindow.w ∈ tw := tx2 158 rfl rfl
def k_Se_look : Kt := (⟨R_Se, "look", "(LPhotoModels$Photos;IIII)I"⟩, prog_8_method_4_code, 10, (some .int), 3, 67, [])
theorem np_Se_look : nPar k_Se_look 5 := fun sig hs => by
  have e : parseMethodDescriptor k_Se_look.y.desc = some sig := hs
  have e2 : (parseMethodDescriptor k_Se_look.y.desc).map (fun q => q.parameters.length) = some 5 := by decide +kernel
  rw [e] at e2
  exact (Option.some.inj e2).symm
theorem kw_Se_look : k_Se_look.w ∈ tw := tx2 162 rfl rfl
def k_Ph_windowMiss : Kt := (⟨R_Ph, "windowMiss", "(IIIIII)I"⟩, prog_5_method_8_code, 13, (some .int), 1, 23, [])
theorem np_Ph_windowMiss : nPar k_Ph_windowMiss 6 := fun sig hs => by
  have e : parseMethodDescriptor k_Ph_windowMiss.y.desc = some sig := hs
  have e2 : (parseMethodDescriptor k_Ph_windowMiss.y.desc).map (fun q => q.parameters.length) = some 6 := by decide +kernel
  rw [e] at e2
  exact (Option.some.inj e2).symm
theorem kw_Ph_windowMiss : k_Ph_windowMiss.w ∈ tw := tx2 166 rfl rfl
def k_Se_isLess : Kt := (⟨R_Se, "isLess", "(II)Z"⟩, prog_8_method_6_code, 2, (some .boolean), 0, 0, [])
theorem np_Se_isLess : nPar k_Se_isLess 2 := fun sig hs => by
  have e : parseMethodDescriptor k_Se_isLess.y.desc = some sig := hs
  have e2 : (parseMethodDescriptor k_Se_isLess.y.desc).map (fun q => q.parameters.length) = some 2 := by decide +kernel
  rw [e] at e2
  exact (Option.some.inj e2).symm
theorem kw_Se_isLess : k_Se_isLess.w ∈ tw := tx2 169 rfl rfl
def k_Se_leastFarFromFound : Kt := (⟨R_Se, "leastFarFromFound", "()I"⟩, prog_8_method_5_code, 5, (some .int), 2, 43, [])
theorem np_Se_leastFarFromFound : nPar k_Se_leastFarFromFound 0 := fun sig hs => by
  have e : parseMethodDescriptor k_Se_leastFarFromFound.y.desc = some sig := hs
  have e2 : (parseMethodDescriptor k_Se_leastFarFromFound.y.desc).map (fun q => q.parameters.length) = some 0 := by decide +kernel
  rw [e] at e2
  exact (Option.some.inj e2).symm
theorem kw_Se_leastFarFromFound : k_Se_leastFarFromFound.w ∈ tw := tx2 173 rfl rfl
def k_Se_isFarFromFound : Kt := (⟨R_Se, "isFarFromFound", "(II)Z"⟩, prog_8_method_7_code, 3, (some .boolean), 1, 21, [])
theorem np_Se_isFarFromFound : nPar k_Se_isFarFromFound 2 := fun sig hs => by
  have e : parseMethodDescriptor k_Se_isFarFromFound.y.desc = some sig := hs
  have e2 : (parseMethodDescriptor k_Se_isFarFromFound.y.desc).map (fun q => q.parameters.length) = some 2 := by decide +kernel
  rw [e] at e2
  exact (Option.some.inj e2).symm
theorem kw_Se_isFarFromFound : k_Se_isFarFromFound.w ∈ tw := tx2 177 rfl rfl
def k_La_found : Kt := (⟨R_La, "found", "(LPhotoModels;I[J)I"⟩, method_5_code, 4, (some .int), 8, 136, [(0, 9, 12, 13), (0, 9, 15, 24)])
theorem np_La_found : nPar k_La_found 3 := fun sig hs => by
  have e : parseMethodDescriptor k_La_found.y.desc = some sig := hs
  have e2 : (parseMethodDescriptor k_La_found.y.desc).map (fun q => q.parameters.length) = some 3 := by decide +kernel
  rw [e] at e2
  exact (Option.some.inj e2).symm
theorem kw_La_found : k_La_found.w ∈ tw := tx2 183 rfl rfl
def k_Pm_found : Kt := (⟨R_Pm, "found", "(I)I"⟩, prog_1_method_4_code, 2, (some .int), 7, 115, [])
theorem np_Pm_found : nPar k_Pm_found 1 := fun sig hs => by
  have e : parseMethodDescriptor k_Pm_found.y.desc = some sig := hs
  have e2 : (parseMethodDescriptor k_Pm_found.y.desc).map (fun q => q.parameters.length) = some 1 := by decide +kernel
  rw [e] at e2
  exact (Option.some.inj e2).symm
theorem kw_Pm_found : k_Pm_found.w ∈ tw := tx2 188 rfl rfl
def k_Se_isDone : Kt := (⟨R_Se, "isDone", "()Z"⟩, prog_8_method_2_code, 1, (some .boolean), 0, 0, [])
theorem np_Se_isDone : nPar k_Se_isDone 0 := fun sig hs => by
  have e : parseMethodDescriptor k_Se_isDone.y.desc = some sig := hs
  have e2 : (parseMethodDescriptor k_Se_isDone.y.desc).map (fun q => q.parameters.length) = some 0 := by decide +kernel
  rw [e] at e2
  exact (Option.some.inj e2).symm
theorem kw_Se_isDone : k_Se_isDone.w ∈ tw := tx2 192 rfl rfl
def k_Pm_needState : Kt := (⟨R_Pm, "needState", "(Z)V"⟩, prog_1_method_27_code, 1, none, 6, 95, [])
theorem np_Pm_needState : nPar k_Pm_needState 1 := fun sig hs => by
  have e : parseMethodDescriptor k_Pm_needState.y.desc = some sig := hs
  have e2 : (parseMethodDescriptor k_Pm_needState.y.desc).map (fun q => q.parameters.length) = some 1 := by decide +kernel
  rw [e] at e2
  exact (Option.some.inj e2).symm
theorem kw_Pm_needState : k_Pm_needState.w ∈ tw := tx2 195 rfl rfl
def k_Se_answer : Kt := (⟨R_Se, "answer", "(I)I"⟩, prog_8_method_3_code, 2, (some .int), 0, 0, [])
theorem np_Se_answer : nPar k_Se_answer 1 := fun sig hs => by
  have e : parseMethodDescriptor k_Se_answer.y.desc = some sig := hs
  have e2 : (parseMethodDescriptor k_Se_answer.y.desc).map (fun q => q.parameters.length) = some 1 := by decide +kernel
  rw [e] at e2
  exact (Option.some.inj e2).symm
theorem kw_Se_answer : k_Se_answer.w ∈ tw := tx2 215 rfl rfl
def k_La_place : Kt := (⟨R_La, "place", "(LPhotoModels;[J)I"⟩, method_6_code, 3, (some .int), 8, 135, [(0, 8, 11, 24)])
theorem np_La_place : nPar k_La_place 2 := fun sig hs => by
  have e : parseMethodDescriptor k_La_place.y.desc = some sig := hs
  have e2 : (parseMethodDescriptor k_La_place.y.desc).map (fun q => q.parameters.length) = some 2 := by decide +kernel
  rw [e] at e2
  exact (Option.some.inj e2).symm
theorem kw_La_place : k_La_place.w ∈ tw := tx2 218 rfl rfl
def k_Pm_place : Kt := (⟨R_Pm, "place", "()I"⟩, prog_1_method_5_code, 1, (some .int), 7, 115, [])
theorem np_Pm_place : nPar k_Pm_place 0 := fun sig hs => by
  have e : parseMethodDescriptor k_Pm_place.y.desc = some sig := hs
  have e2 : (parseMethodDescriptor k_Pm_place.y.desc).map (fun q => q.parameters.length) = some 0 := by decide +kernel
  rw [e] at e2
  exact (Option.some.inj e2).symm
theorem kw_Pm_place : k_Pm_place.w ∈ tw := tx2 222 rfl rfl
def k_Pl_add : Kt := (⟨R_Pl, "add", "()I"⟩, prog_6_method_5_code, 2, (some .int), 0, 0, [])
theorem np_Pl_add : nPar k_Pl_add 0 := fun sig hs => by
  have e : parseMethodDescriptor k_Pl_add.y.desc = some sig := hs
  have e2 : (parseMethodDescriptor k_Pl_add.y.desc).map (fun q => q.parameters.length) = some 0 := by decide +kernel
  rw [e] at e2
  exact (Option.some.inj e2).symm
theorem kw_Pl_add : k_Pl_add.w ∈ tw := tx2 227 rfl rfl
def k_La_seen : Kt := (⟨R_La, "seen", "(LPhotoModels;IIII[J)I"⟩, method_7_code, 7, (some .int), 8, 139, [(0, 21, 24, 13), (0, 21, 28, 15)])
theorem np_La_seen : nPar k_La_seen 6 := fun sig hs => by
  have e : parseMethodDescriptor k_La_seen.y.desc = some sig := hs
  have e2 : (parseMethodDescriptor k_La_seen.y.desc).map (fun q => q.parameters.length) = some 6 := by decide +kernel
  rw [e] at e2
  exact (Option.some.inj e2).symm
theorem kw_La_seen : k_La_seen.w ∈ tw := tx2 230 rfl rfl
def k_Pm_seen : Kt := (⟨R_Pm, "seen", "(IIII)Z"⟩, prog_1_method_6_code, 5, (some .boolean), 7, 115, [])
theorem np_Pm_seen : nPar k_Pm_seen 4 := fun sig hs => by
  have e : parseMethodDescriptor k_Pm_seen.y.desc = some sig := hs
  have e2 : (parseMethodDescriptor k_Pm_seen.y.desc).map (fun q => q.parameters.length) = some 4 := by decide +kernel
  rw [e] at e2
  exact (Option.some.inj e2).symm
theorem kw_Pm_seen : k_Pm_seen.w ∈ tw := tx2 234 rfl rfl
def k_Pl_has : Kt := (⟨R_Pl, "has", "(I)Z"⟩, prog_6_method_4_code, 2, (some .boolean), 0, 0, [])
theorem np_Pl_has : nPar k_Pl_has 1 := fun sig hs => by
  have e : parseMethodDescriptor k_Pl_has.y.desc = some sig := hs
  have e2 : (parseMethodDescriptor k_Pl_has.y.desc).map (fun q => q.parameters.length) = some 1 := by decide +kernel
  rw [e] at e2
  exact (Option.some.inj e2).symm
theorem kw_Pl_has : k_Pl_has.w ∈ tw := tx2 238 rfl rfl
def k_Pl_forget : Kt := (⟨R_Pl, "forget", "(II)Z"⟩, prog_6_method_10_code, 4, (some .boolean), 1, 22, [])
theorem np_Pl_forget : nPar k_Pl_forget 2 := fun sig hs => by
  have e : parseMethodDescriptor k_Pl_forget.y.desc = some sig := hs
  have e2 : (parseMethodDescriptor k_Pl_forget.y.desc).map (fun q => q.parameters.length) = some 2 := by decide +kernel
  rw [e] at e2
  exact (Option.some.inj e2).symm
theorem kw_Pl_forget : k_Pl_forget.w ∈ tw := tx3 2 rfl rfl
def k_Pl_note : Kt := (⟨R_Pl, "note", "(IIII)Z"⟩, prog_6_method_11_code, 7, (some .boolean), 0, 0, [])
theorem np_Pl_note : nPar k_Pl_note 4 := fun sig hs => by
  have e : parseMethodDescriptor k_Pl_note.y.desc = some sig := hs
  have e2 : (parseMethodDescriptor k_Pl_note.y.desc).map (fun q => q.parameters.length) = some 4 := by decide +kernel
  rw [e] at e2
  exact (Option.some.inj e2).symm
theorem kw_Pl_note : k_Pl_note.w ∈ tw := tx3 7 rfl rfl
def k_La_relative : Kt := (⟨R_La, "relative", "(LPhotoModels;IIII[J)I"⟩, method_8_code, 7, (some .int), 8, 139, [(0, 14, 17, 13), (0, 14, 21, 15)])
theorem np_La_relative : nPar k_La_relative 6 := fun sig hs => by
  have e : parseMethodDescriptor k_La_relative.y.desc = some sig := hs
  have e2 : (parseMethodDescriptor k_La_relative.y.desc).map (fun q => q.parameters.length) = some 6 := by decide +kernel
  rw [e] at e2
  exact (Option.some.inj e2).symm
theorem kw_La_relative : k_La_relative.w ∈ tw := tx3 10 rfl rfl
def k_Pm_relative : Kt := (⟨R_Pm, "relative", "(IIII)I"⟩, prog_1_method_7_code, 5, (some .int), 7, 115, [])
theorem np_Pm_relative : nPar k_Pm_relative 4 := fun sig hs => by
  have e : parseMethodDescriptor k_Pm_relative.y.desc = some sig := hs
  have e2 : (parseMethodDescriptor k_Pm_relative.y.desc).map (fun q => q.parameters.length) = some 4 := by decide +kernel
  rw [e] at e2
  exact (Option.some.inj e2).symm
theorem kw_Pm_relative : k_Pm_relative.w ∈ tw := tx3 14 rfl rfl
def k_Ag_draw : Kt := (⟨R_Ag, "draw", "(LPhotoModels$Places;IIII)I"⟩, prog_3_method_4_code, 10, (some .int), 2, 47, [])
theorem np_Ag_draw : nPar k_Ag_draw 5 := fun sig hs => by
  have e : parseMethodDescriptor k_Ag_draw.y.desc = some sig := hs
  have e2 : (parseMethodDescriptor k_Ag_draw.y.desc).map (fun q => q.parameters.length) = some 5 := by decide +kernel
  rw [e] at e2
  exact (Option.some.inj e2).symm
theorem kw_Ag_draw : k_Ag_draw.w ∈ tw := tx3 18 rfl rfl
def k_Ag_gatherShifts : Kt := (⟨R_Ag, "gatherShifts", "(LPhotoModels$Places;II)V"⟩, prog_3_method_5_code, 5, none, 1, 23, [])
theorem np_Ag_gatherShifts : nPar k_Ag_gatherShifts 3 := fun sig hs => by
  have e : parseMethodDescriptor k_Ag_gatherShifts.y.desc = some sig := hs
  have e2 : (parseMethodDescriptor k_Ag_gatherShifts.y.desc).map (fun q => q.parameters.length) = some 3 := by decide +kernel
  rw [e] at e2
  exact (Option.some.inj e2).symm
theorem kw_Ag_gatherShifts : k_Ag_gatherShifts.w ∈ tw := tx3 22 rfl rfl
def k_Ag_drawnNumber : Kt := (⟨R_Ag, "drawnNumber", "(I)I"⟩, prog_3_method_7_code, 4, (some .int), 0, 0, [])
theorem np_Ag_drawnNumber : nPar k_Ag_drawnNumber 1 := fun sig hs => by
  have e : parseMethodDescriptor k_Ag_drawnNumber.y.desc = some sig := hs
  have e2 : (parseMethodDescriptor k_Ag_drawnNumber.y.desc).map (fun q => q.parameters.length) = some 1 := by decide +kernel
  rw [e] at e2
  exact (Option.some.inj e2).symm
theorem kw_Ag_drawnNumber : k_Ag_drawnNumber.w ∈ tw := tx3 29 rfl rfl
def k_Ag_agreeingWith : Kt := (⟨R_Ag, "agreeingWith", "(II)I"⟩, prog_3_method_6_code, 5, (some .int), 1, 21, [])
theorem np_Ag_agreeingWith : nPar k_Ag_agreeingWith 2 := fun sig hs => by
  have e : parseMethodDescriptor k_Ag_agreeingWith.y.desc = some sig := hs
  have e2 : (parseMethodDescriptor k_Ag_agreeingWith.y.desc).map (fun q => q.parameters.length) = some 2 := by decide +kernel
  rw [e] at e2
  exact (Option.some.inj e2).symm
theorem kw_Ag_agreeingWith : k_Ag_agreeingWith.w ∈ tw := tx3 34 rfl rfl
def k_La_shift : Kt := (⟨R_La, "shift", "(LPhotoModels;I[J)I"⟩, method_9_code, 4, (some .int), 8, 136, [(0, 9, 12, 13), (0, 9, 15, 24)])
theorem np_La_shift : nPar k_La_shift 3 := fun sig hs => by
  have e : parseMethodDescriptor k_La_shift.y.desc = some sig := hs
  have e2 : (parseMethodDescriptor k_La_shift.y.desc).map (fun q => q.parameters.length) = some 3 := by decide +kernel
  rw [e] at e2
  exact (Option.some.inj e2).symm
theorem kw_La_shift : k_La_shift.w ∈ tw := tx3 38 rfl rfl
def k_Pm_shift : Kt := (⟨R_Pm, "shift", "(I)I"⟩, prog_1_method_8_code, 2, (some .int), 7, 115, [])
theorem np_Pm_shift : nPar k_Pm_shift 1 := fun sig hs => by
  have e : parseMethodDescriptor k_Pm_shift.y.desc = some sig := hs
  have e2 : (parseMethodDescriptor k_Pm_shift.y.desc).map (fun q => q.parameters.length) = some 1 := by decide +kernel
  rw [e] at e2
  exact (Option.some.inj e2).symm
theorem kw_Pm_shift : k_Pm_shift.w ∈ tw := tx3 42 rfl rfl
def k_Pm_isAxis : Kt := (⟨R_Pm, "isAxis", "(I)Z"⟩, prog_1_method_22_code, 1, (some .boolean), 1, 22, [])
theorem np_Pm_isAxis : nPar k_Pm_isAxis 1 := fun sig hs => by
  have e : parseMethodDescriptor k_Pm_isAxis.y.desc = some sig := hs
  have e2 : (parseMethodDescriptor k_Pm_isAxis.y.desc).map (fun q => q.parameters.length) = some 1 := by decide +kernel
  rw [e] at e2
  exact (Option.some.inj e2).symm
theorem kw_Pm_isAxis : k_Pm_isAxis.w ∈ tw := tx3 45 rfl rfl
def k_Ag_isReached : Kt := (⟨R_Ag, "isReached", "()Z"⟩, prog_3_method_2_code, 1, (some .boolean), 0, 0, [])
theorem np_Ag_isReached : nPar k_Ag_isReached 0 := fun sig hs => by
  have e : parseMethodDescriptor k_Ag_isReached.y.desc = some sig := hs
  have e2 : (parseMethodDescriptor k_Ag_isReached.y.desc).map (fun q => q.parameters.length) = some 0 := by decide +kernel
  rw [e] at e2
  exact (Option.some.inj e2).symm
theorem kw_Ag_isReached : k_Ag_isReached.w ∈ tw := tx3 49 rfl rfl
def k_Ag_along : Kt := (⟨R_Ag, "along", "(I)I"⟩, prog_3_method_3_code, 2, (some .int), 0, 0, [])
theorem np_Ag_along : nPar k_Ag_along 1 := fun sig hs => by
  have e : parseMethodDescriptor k_Ag_along.y.desc = some sig := hs
  have e2 : (parseMethodDescriptor k_Ag_along.y.desc).map (fun q => q.parameters.length) = some 1 := by decide +kernel
  rw [e] at e2
  exact (Option.some.inj e2).symm
theorem kw_Ag_along : k_Ag_along.w ∈ tw := tx3 53 rfl rfl
def k_La_spare : Kt := (⟨R_La, "spare", "(LPhotoModels;IZ[J)I"⟩, method_10_code, 5, (some .int), 8, 137, [(0, 17, 20, 13)])
theorem np_La_spare : nPar k_La_spare 4 := fun sig hs => by
  have e : parseMethodDescriptor k_La_spare.y.desc = some sig := hs
  have e2 : (parseMethodDescriptor k_La_spare.y.desc).map (fun q => q.parameters.length) = some 4 := by decide +kernel
  rw [e] at e2
  exact (Option.some.inj e2).symm
theorem kw_La_spare : k_La_spare.w ∈ tw := tx3 56 rfl rfl
def k_Pm_spare : Kt := (⟨R_Pm, "spare", "(IZ)Z"⟩, prog_1_method_9_code, 3, (some .boolean), 7, 115, [])
theorem np_Pm_spare : nPar k_Pm_spare 2 := fun sig hs => by
  have e : parseMethodDescriptor k_Pm_spare.y.desc = some sig := hs
  have e2 : (parseMethodDescriptor k_Pm_spare.y.desc).map (fun q => q.parameters.length) = some 2 := by decide +kernel
  rw [e] at e2
  exact (Option.some.inj e2).symm
theorem kw_Pm_spare : k_Pm_spare.w ∈ tw := tx3 60 rfl rfl
def k_Pl_setAside : Kt := (⟨R_Pl, "setAside", "(IZ)Z"⟩, prog_6_method_7_code, 3, (some .boolean), 0, 0, [])
theorem np_Pl_setAside : nPar k_Pl_setAside 2 := fun sig hs => by
  have e : parseMethodDescriptor k_Pl_setAside.y.desc = some sig := hs
  have e2 : (parseMethodDescriptor k_Pl_setAside.y.desc).map (fun q => q.parameters.length) = some 2 := by decide +kernel
  rw [e] at e2
  exact (Option.some.inj e2).symm
theorem kw_Pl_setAside : k_Pl_setAside.w ∈ tw := tx3 64 rfl rfl
def k_La_run : Kt := (⟨R_La, "run", "(LPhotoModels;I[J)I"⟩, method_11_code, 4, (some .int), 8, 169, [(0, 9, 12, 15)])
theorem np_La_run : nPar k_La_run 3 := fun sig hs => by
  have e : parseMethodDescriptor k_La_run.y.desc = some sig := hs
  have e2 : (parseMethodDescriptor k_La_run.y.desc).map (fun q => q.parameters.length) = some 3 := by decide +kernel
  rw [e] at e2
  exact (Option.some.inj e2).symm
theorem kw_La_run : k_La_run.w ∈ tw := tx3 67 rfl rfl
def k_Pm_run : Kt := (⟨R_Pm, "run", "(I)I"⟩, prog_1_method_10_code, 2, (some .int), 7, 148, [])
theorem np_Pm_run : nPar k_Pm_run 1 := fun sig hs => by
  have e : parseMethodDescriptor k_Pm_run.y.desc = some sig := hs
  have e2 : (parseMethodDescriptor k_Pm_run.y.desc).map (fun q => q.parameters.length) = some 1 := by decide +kernel
  rw [e] at e2
  exact (Option.some.inj e2).symm
theorem kw_Pm_run : k_Pm_run.w ∈ tw := tx3 71 rfl rfl
def k_Ad_adjust : Kt := (⟨R_Ad, "adjust", "(LPhotoModels$Places;I)I"⟩, prog_2_method_4_code, 8, (some .int), 5, 121, [])
theorem np_Ad_adjust : nPar k_Ad_adjust 2 := fun sig hs => by
  have e : parseMethodDescriptor k_Ad_adjust.y.desc = some sig := hs
  have e2 : (parseMethodDescriptor k_Ad_adjust.y.desc).map (fun q => q.parameters.length) = some 2 := by decide +kernel
  rw [e] at e2
  exact (Option.some.inj e2).symm
theorem kw_Ad_adjust : k_Ad_adjust.w ∈ tw := tx3 75 rfl rfl
def k_Ad_begin : Kt := (⟨R_Ad, "begin", "(LPhotoModels$Places;)V"⟩, prog_2_method_7_code, 2, none, 4, 98, [])
theorem np_Ad_begin : nPar k_Ad_begin 1 := fun sig hs => by
  have e : parseMethodDescriptor k_Ad_begin.y.desc = some sig := hs
  have e2 : (parseMethodDescriptor k_Ad_begin.y.desc).map (fun q => q.parameters.length) = some 1 := by decide +kernel
  rw [e] at e2
  exact (Option.some.inj e2).symm
theorem kw_Ad_begin : k_Ad_begin.w ∈ tw := tx3 79 rfl rfl
def k_Arr_fill : Kt := (⟨"java/util/Arrays", "fill", "([II)V"⟩, prog_20_method_103_code, 4, none, 0, 0, [])
theorem np_Arr_fill : nPar k_Arr_fill 2 := fun sig hs => by
  have e : parseMethodDescriptor k_Arr_fill.y.desc = some sig := hs
  have e2 : (parseMethodDescriptor k_Arr_fill.y.desc).map (fun q => q.parameters.length) = some 2 := by decide +kernel
  rw [e] at e2
  exact (Option.some.inj e2).symm
theorem kw_Arr_fill : k_Arr_fill.w ∈ tw := tx3 82 rfl rfl
def k_Ad_movePlaces : Kt := (⟨R_Ad, "movePlaces", "(LPhotoModels$Places;)V"⟩, prog_2_method_10_code, 4, none, 3, 75, [])
theorem np_Ad_movePlaces : nPar k_Ad_movePlaces 1 := fun sig hs => by
  have e : parseMethodDescriptor k_Ad_movePlaces.y.desc = some sig := hs
  have e2 : (parseMethodDescriptor k_Ad_movePlaces.y.desc).map (fun q => q.parameters.length) = some 1 := by decide +kernel
  rw [e] at e2
  exact (Option.some.inj e2).symm
theorem kw_Ad_movePlaces : k_Ad_movePlaces.w ∈ tw := tx3 86 rfl rfl
def k_Ad_movePlace : Kt := (⟨R_Ad, "movePlace", "(LPhotoModels$Places;II)V"⟩, prog_2_method_11_code, 8, none, 2, 48, [])
theorem np_Ad_movePlace : nPar k_Ad_movePlace 3 := fun sig hs => by
  have e : parseMethodDescriptor k_Ad_movePlace.y.desc = some sig := hs
  have e2 : (parseMethodDescriptor k_Ad_movePlace.y.desc).map (fun q => q.parameters.length) = some 3 := by decide +kernel
  rw [e] at e2
  exact (Option.some.inj e2).symm
theorem kw_Ad_movePlace : k_Ad_movePlace.w ∈ tw := tx3 90 rfl rfl
def k_Ad_mean : Kt := (⟨R_Ad, "mean", "(JII)I"⟩, prog_2_method_12_code, 4, (some .int), 1, 25, [])
theorem np_Ad_mean : nPar k_Ad_mean 3 := fun sig hs => by
  have e : parseMethodDescriptor k_Ad_mean.y.desc = some sig := hs
  have e2 : (parseMethodDescriptor k_Ad_mean.y.desc).map (fun q => q.parameters.length) = some 3 := by decide +kernel
  rw [e] at e2
  exact (Option.some.inj e2).symm
theorem kw_Ad_mean : k_Ad_mean.w ∈ tw := tx3 93 rfl rfl
def k_Math_floorDiv : Kt := (⟨"java/lang/Math", "floorDiv", "(JJ)J"⟩, prog_15_method_49_code, 6, (some .long), 0, 0, [])
theorem np_Math_floorDiv : nPar k_Math_floorDiv 2 := fun sig hs => by
  have e : parseMethodDescriptor k_Math_floorDiv.y.desc = some sig := hs
  have e2 : (parseMethodDescriptor k_Math_floorDiv.y.desc).map (fun q => q.parameters.length) = some 2 := by decide +kernel
  rw [e] at e2
  exact (Option.some.inj e2).symm
theorem kw_Math_floorDiv : k_Math_floorDiv.w ∈ tw := tx3 96 rfl rfl
def k_Ad_remember : Kt := (⟨R_Ad, "remember", "()V"⟩, prog_2_method_13_code, 1, none, 1, 60, [])
theorem np_Ad_remember : nPar k_Ad_remember 0 := fun sig hs => by
  have e : parseMethodDescriptor k_Ad_remember.y.desc = some sig := hs
  have e2 : (parseMethodDescriptor k_Ad_remember.y.desc).map (fun q => q.parameters.length) = some 0 := by decide +kernel
  rw [e] at e2
  exact (Option.some.inj e2).symm
theorem kw_Ad_remember : k_Ad_remember.w ∈ tw := tx3 101 rfl rfl
def k_Ad_doRound : Kt := (⟨R_Ad, "doRound", "(LPhotoModels$Places;)V"⟩, prog_2_method_8_code, 4, none, 4, 98, [])
theorem np_Ad_doRound : nPar k_Ad_doRound 1 := fun sig hs => by
  have e : parseMethodDescriptor k_Ad_doRound.y.desc = some sig := hs
  have e2 : (parseMethodDescriptor k_Ad_doRound.y.desc).map (fun q => q.parameters.length) = some 1 := by decide +kernel
  rw [e] at e2
  exact (Option.some.inj e2).symm
theorem kw_Ad_doRound : k_Ad_doRound.w ∈ tw := tx3 108 rfl rfl
def k_Ad_movePhoto : Kt := (⟨R_Ad, "movePhoto", "(LPhotoModels$Places;II)V"⟩, prog_2_method_9_code, 8, none, 2, 48, [])
theorem np_Ad_movePhoto : nPar k_Ad_movePhoto 3 := fun sig hs => by
  have e : parseMethodDescriptor k_Ad_movePhoto.y.desc = some sig := hs
  have e2 : (parseMethodDescriptor k_Ad_movePhoto.y.desc).map (fun q => q.parameters.length) = some 3 := by decide +kernel
  rw [e] at e2
  exact (Option.some.inj e2).symm
theorem kw_Ad_movePhoto : k_Ad_movePhoto.w ∈ tw := tx3 112 rfl rfl
def k_Ad_undo : Kt := (⟨R_Ad, "undo", "()V"⟩, prog_2_method_14_code, 1, none, 1, 60, [])
theorem np_Ad_undo : nPar k_Ad_undo 0 := fun sig hs => by
  have e : parseMethodDescriptor k_Ad_undo.y.desc = some sig := hs
  have e2 : (parseMethodDescriptor k_Ad_undo.y.desc).map (fun q => q.parameters.length) = some 0 := by decide +kernel
  rw [e] at e2
  exact (Option.some.inj e2).symm
theorem kw_Ad_undo : k_Ad_undo.w ∈ tw := tx3 116 rfl rfl
def k_La_at : Kt := (⟨R_La, "at", "(LPhotoModels;II[J)I"⟩, method_12_code, 5, (some .int), 8, 137, [(0, 10, 13, 13)])
theorem np_La_at : nPar k_La_at 4 := fun sig hs => by
  have e : parseMethodDescriptor k_La_at.y.desc = some sig := hs
  have e2 : (parseMethodDescriptor k_La_at.y.desc).map (fun q => q.parameters.length) = some 4 := by decide +kernel
  rw [e] at e2
  exact (Option.some.inj e2).symm
theorem kw_La_at : k_La_at.w ∈ tw := tx3 119 rfl rfl
def k_Pm_at : Kt := (⟨R_Pm, "at", "(II)I"⟩, prog_1_method_12_code, 3, (some .int), 7, 115, [])
theorem np_Pm_at : nPar k_Pm_at 2 := fun sig hs => by
  have e : parseMethodDescriptor k_Pm_at.y.desc = some sig := hs
  have e2 : (parseMethodDescriptor k_Pm_at.y.desc).map (fun q => q.parameters.length) = some 2 := by decide +kernel
  rw [e] at e2
  exact (Option.some.inj e2).symm
theorem kw_Pm_at : k_Pm_at.w ∈ tw := tx3 123 rfl rfl
def k_La_offset : Kt := (⟨R_La, "offset", "(LPhotoModels;II[J)I"⟩, method_13_code, 5, (some .int), 8, 137, [(0, 10, 13, 13)])
theorem np_La_offset : nPar k_La_offset 4 := fun sig hs => by
  have e : parseMethodDescriptor k_La_offset.y.desc = some sig := hs
  have e2 : (parseMethodDescriptor k_La_offset.y.desc).map (fun q => q.parameters.length) = some 4 := by decide +kernel
  rw [e] at e2
  exact (Option.some.inj e2).symm
theorem kw_La_offset : k_La_offset.w ∈ tw := tx3 127 rfl rfl
def k_Pm_offset : Kt := (⟨R_Pm, "offset", "(II)I"⟩, prog_1_method_13_code, 3, (some .int), 7, 115, [])
theorem np_Pm_offset : nPar k_Pm_offset 2 := fun sig hs => by
  have e : parseMethodDescriptor k_Pm_offset.y.desc = some sig := hs
  have e2 : (parseMethodDescriptor k_Pm_offset.y.desc).map (fun q => q.parameters.length) = some 2 := by decide +kernel
  rw [e] at e2
  exact (Option.some.inj e2).symm
theorem kw_Pm_offset : k_Pm_offset.w ∈ tw := tx3 131 rfl rfl
def k_La_miss : Kt := (⟨R_La, "miss", "(LPhotoModels;I[J)I"⟩, method_14_code, 4, (some .int), 8, 136, [(0, 8, 11, 13)])
theorem np_La_miss : nPar k_La_miss 3 := fun sig hs => by
  have e : parseMethodDescriptor k_La_miss.y.desc = some sig := hs
  have e2 : (parseMethodDescriptor k_La_miss.y.desc).map (fun q => q.parameters.length) = some 3 := by decide +kernel
  rw [e] at e2
  exact (Option.some.inj e2).symm
theorem kw_La_miss : k_La_miss.w ∈ tw := tx3 135 rfl rfl
def k_Pm_miss : Kt := (⟨R_Pm, "miss", "(I)J"⟩, prog_1_method_14_code, 2, (some .long), 7, 115, [])
theorem np_Pm_miss : nPar k_Pm_miss 1 := fun sig hs => by
  have e : parseMethodDescriptor k_Pm_miss.y.desc = some sig := hs
  have e2 : (parseMethodDescriptor k_Pm_miss.y.desc).map (fun q => q.parameters.length) = some 1 := by decide +kernel
  rw [e] at e2
  exact (Option.some.inj e2).symm
theorem kw_Pm_miss : k_Pm_miss.w ∈ tw := tx3 139 rfl rfl
def k_La_known : Kt := (⟨R_La, "known", "(LPhotoModels;III[J)I"⟩, method_15_code, 6, (some .int), 8, 138, [(0, 12, 15, 13), (0, 12, 19, 15), (0, 12, 23, 24)])
theorem np_La_known : nPar k_La_known 5 := fun sig hs => by
  have e : parseMethodDescriptor k_La_known.y.desc = some sig := hs
  have e2 : (parseMethodDescriptor k_La_known.y.desc).map (fun q => q.parameters.length) = some 5 := by decide +kernel
  rw [e] at e2
  exact (Option.some.inj e2).symm
theorem kw_La_known : k_La_known.w ∈ tw := tx3 143 rfl rfl
def k_Pm_known : Kt := (⟨R_Pm, "known", "(III)I"⟩, prog_1_method_15_code, 4, (some .int), 7, 115, [])
theorem np_Pm_known : nPar k_Pm_known 3 := fun sig hs => by
  have e : parseMethodDescriptor k_Pm_known.y.desc = some sig := hs
  have e2 : (parseMethodDescriptor k_Pm_known.y.desc).map (fun q => q.parameters.length) = some 3 := by decide +kernel
  rw [e] at e2
  exact (Option.some.inj e2).symm
theorem kw_Pm_known : k_Pm_known.w ∈ tw := tx3 147 rfl rfl
def k_Le_number : Kt := (⟨R_Le, "number", "()I"⟩, prog_4_method_2_code, 1, (some .int), 0, 0, [])
theorem np_Le_number : nPar k_Le_number 0 := fun sig hs => by
  have e : parseMethodDescriptor k_Le_number.y.desc = some sig := hs
  have e2 : (parseMethodDescriptor k_Le_number.y.desc).map (fun q => q.parameters.length) = some 0 := by decide +kernel
  rw [e] at e2
  exact (Option.some.inj e2).symm
theorem kw_Le_number : k_Le_number.w ∈ tw := tx3 151 rfl rfl
def k_Le_add : Kt := (⟨R_Le, "add", "(III)I"⟩, prog_4_method_3_code, 4, (some .int), 0, 0, [])
theorem np_Le_add : nPar k_Le_add 3 := fun sig hs => by
  have e : parseMethodDescriptor k_Le_add.y.desc = some sig := hs
  have e2 : (parseMethodDescriptor k_Le_add.y.desc).map (fun q => q.parameters.length) = some 3 := by decide +kernel
  rw [e] at e2
  exact (Option.some.inj e2).symm
theorem kw_Le_add : k_Le_add.w ∈ tw := tx3 155 rfl rfl
def k_La_scale : Kt := (⟨R_La, "scale", "(LPhotoModels;I[J)I"⟩, method_16_code, 4, (some .int), 8, 136, [(0, 8, 11, 13)])
theorem np_La_scale : nPar k_La_scale 3 := fun sig hs => by
  have e : parseMethodDescriptor k_La_scale.y.desc = some sig := hs
  have e2 : (parseMethodDescriptor k_La_scale.y.desc).map (fun q => q.parameters.length) = some 3 := by decide +kernel
  rw [e] at e2
  exact (Option.some.inj e2).symm
theorem kw_La_scale : k_La_scale.w ∈ tw := tx3 158 rfl rfl
def k_Pm_scale : Kt := (⟨R_Pm, "scale", "(I)J"⟩, prog_1_method_16_code, 2, (some .long), 7, 115, [])
theorem np_Pm_scale : nPar k_Pm_scale 1 := fun sig hs => by
  have e : parseMethodDescriptor k_Pm_scale.y.desc = some sig := hs
  have e2 : (parseMethodDescriptor k_Pm_scale.y.desc).map (fun q => q.parameters.length) = some 1 := by decide +kernel
  rw [e] at e2
  exact (Option.some.inj e2).symm
theorem kw_Pm_scale : k_Pm_scale.w ∈ tw := tx3 162 rfl rfl
def k_Le_fraction : Kt := (⟨R_Le, "fraction", "(LPhotoModels$Adjustment;I)J"⟩, prog_4_method_4_code, 10, (some .long), 2, 52, [])
theorem np_Le_fraction : nPar k_Le_fraction 2 := fun sig hs => by
  have e : parseMethodDescriptor k_Le_fraction.y.desc = some sig := hs
  have e2 : (parseMethodDescriptor k_Le_fraction.y.desc).map (fun q => q.parameters.length) = some 2 := by decide +kernel
  rw [e] at e2
  exact (Option.some.inj e2).symm
theorem kw_Le_fraction : k_Le_fraction.w ∈ tw := tx3 166 rfl rfl
def k_Le_distance : Kt := (⟨R_Le, "distance", "(LPhotoModels$Adjustment;II)J"⟩, prog_4_method_5_code, 7, (some .long), 1, 26, [])
theorem np_Le_distance : nPar k_Le_distance 3 := fun sig hs => by
  have e : parseMethodDescriptor k_Le_distance.y.desc = some sig := hs
  have e2 : (parseMethodDescriptor k_Le_distance.y.desc).map (fun q => q.parameters.length) = some 3 := by decide +kernel
  rw [e] at e2
  exact (Option.some.inj e2).symm
theorem kw_Le_distance : k_Le_distance.w ∈ tw := tx3 169 rfl rfl
def k_Le_rootDown : Kt := (⟨R_Le, "rootDown", "(J)J"⟩, prog_4_method_6_code, 7, (some .long), 0, 0, [])
theorem np_Le_rootDown : nPar k_Le_rootDown 1 := fun sig hs => by
  have e : parseMethodDescriptor k_Le_rootDown.y.desc = some sig := hs
  have e2 : (parseMethodDescriptor k_Le_rootDown.y.desc).map (fun q => q.parameters.length) = some 1 := by decide +kernel
  rw [e] at e2
  exact (Option.some.inj e2).symm
theorem kw_Le_rootDown : k_Le_rootDown.w ∈ tw := tx3 173 rfl rfl
def k_Le_commonDivisor : Kt := (⟨R_Le, "commonDivisor", "(JJ)J"⟩, prog_4_method_7_code, 11, (some .long), 0, 0, [])
theorem np_Le_commonDivisor : nPar k_Le_commonDivisor 2 := fun sig hs => by
  have e : parseMethodDescriptor k_Le_commonDivisor.y.desc = some sig := hs
  have e2 : (parseMethodDescriptor k_Le_commonDivisor.y.desc).map (fun q => q.parameters.length) = some 2 := by decide +kernel
  rw [e] at e2
  exact (Option.some.inj e2).symm
theorem kw_Le_commonDivisor : k_Le_commonDivisor.w ∈ tw := tx3 176 rfl rfl
def k_La_heights : Kt := (⟨R_La, "heights", "(LPhotoModels;III[J)I"⟩, method_17_code, 6, (some .int), 8, 150, [(0, 12, 15, 13), (0, 12, 19, 15)])
theorem np_La_heights : nPar k_La_heights 5 := fun sig hs => by
  have e : parseMethodDescriptor k_La_heights.y.desc = some sig := hs
  have e2 : (parseMethodDescriptor k_La_heights.y.desc).map (fun q => q.parameters.length) = some 5 := by decide +kernel
  rw [e] at e2
  exact (Option.some.inj e2).symm
theorem kw_La_heights : k_La_heights.w ∈ tw := tx3 179 rfl rfl
def k_Pm_heights : Kt := (⟨R_Pm, "heights", "(III)I"⟩, prog_1_method_17_code, 4, (some .int), 7, 127, [])
theorem np_Pm_heights : nPar k_Pm_heights 3 := fun sig hs => by
  have e : parseMethodDescriptor k_Pm_heights.y.desc = some sig := hs
  have e2 : (parseMethodDescriptor k_Pm_heights.y.desc).map (fun q => q.parameters.length) = some 3 := by decide +kernel
  rw [e] at e2
  exact (Option.some.inj e2).symm
theorem kw_Pm_heights : k_Pm_heights.w ∈ tw := tx3 183 rfl rfl
def k_Re_raise : Kt := (⟨R_Re, "raise", "(LPhotoModels$Photos;III)I"⟩, prog_7_method_4_code, 7, (some .int), 4, 101, [])
theorem np_Re_raise : nPar k_Re_raise 4 := fun sig hs => by
  have e : parseMethodDescriptor k_Re_raise.y.desc = some sig := hs
  have e2 : (parseMethodDescriptor k_Re_raise.y.desc).map (fun q => q.parameters.length) = some 4 := by decide +kernel
  rw [e] at e2
  exact (Option.some.inj e2).symm
theorem kw_Re_raise : k_Re_raise.w ∈ tw := tx3 187 rfl rfl
def k_Re_fillCosts : Kt := (⟨R_Re, "fillCosts", "(LPhotoModels$Photos;IIII)V"⟩, prog_7_method_5_code, 10, none, 3, 72, [])
theorem np_Re_fillCosts : nPar k_Re_fillCosts 5 := fun sig hs => by
  have e : parseMethodDescriptor k_Re_fillCosts.y.desc = some sig := hs
  have e2 : (parseMethodDescriptor k_Re_fillCosts.y.desc).map (fun q => q.parameters.length) = some 5 := by decide +kernel
  rw [e] at e2
  exact (Option.some.inj e2).symm
theorem kw_Re_fillCosts : k_Re_fillCosts.w ∈ tw := tx3 191 rfl rfl
def k_Re_depthsAt : Kt := (⟨R_Re, "depthsAt", "(I)I"⟩, prog_7_method_9_code, 1, (some .int), 1, 21, [])
theorem np_Re_depthsAt : nPar k_Re_depthsAt 1 := fun sig hs => by
  have e : parseMethodDescriptor k_Re_depthsAt.y.desc = some sig := hs
  have e2 : (parseMethodDescriptor k_Re_depthsAt.y.desc).map (fun q => q.parameters.length) = some 1 := by decide +kernel
  rw [e] at e2
  exact (Option.some.inj e2).symm
theorem kw_Re_depthsAt : k_Re_depthsAt.w ∈ tw := tx3 194 rfl rfl
def k_Re_difference : Kt := (⟨R_Re, "difference", "(LPhotoModels$Photos;IIIII)I"⟩, prog_7_method_10_code, 6, (some .int), 2, 46, [])
theorem np_Re_difference : nPar k_Re_difference 6 := fun sig hs => by
  have e : parseMethodDescriptor k_Re_difference.y.desc = some sig := hs
  have e2 : (parseMethodDescriptor k_Re_difference.y.desc).map (fun q => q.parameters.length) = some 6 := by decide +kernel
  rw [e] at e2
  exact (Option.some.inj e2).symm
theorem kw_Re_difference : k_Re_difference.w ∈ tw := tx3 198 rfl rfl
def k_Ph_value : Kt := (⟨R_Ph, "value", "(III)I"⟩, prog_5_method_6_code, 4, (some .int), 1, 23, [])
theorem np_Ph_value : nPar k_Ph_value 3 := fun sig hs => by
  have e : parseMethodDescriptor k_Ph_value.y.desc = some sig := hs
  have e2 : (parseMethodDescriptor k_Ph_value.y.desc).map (fun q => q.parameters.length) = some 3 := by decide +kernel
  rw [e] at e2
  exact (Option.some.inj e2).symm
theorem kw_Ph_value : k_Ph_value.w ∈ tw := tx3 202 rfl rfl
def k_Re_bestAhead : Kt := (⟨R_Re, "bestAhead", "(III)I"⟩, prog_7_method_7_code, 8, (some .int), 2, 45, [])
theorem np_Re_bestAhead : nPar k_Re_bestAhead 3 := fun sig hs => by
  have e : parseMethodDescriptor k_Re_bestAhead.y.desc = some sig := hs
  have e2 : (parseMethodDescriptor k_Re_bestAhead.y.desc).map (fun q => q.parameters.length) = some 3 := by decide +kernel
  rw [e] at e2
  exact (Option.some.inj e2).symm
theorem kw_Re_bestAhead : k_Re_bestAhead.w ∈ tw := tx3 207 rfl rfl
def k_Re_costAhead : Kt := (⟨R_Re, "costAhead", "(IIII)I"⟩, prog_7_method_8_code, 5, (some .int), 1, 21, [])
theorem np_Re_costAhead : nPar k_Re_costAhead 4 := fun sig hs => by
  have e : parseMethodDescriptor k_Re_costAhead.y.desc = some sig := hs
  have e2 : (parseMethodDescriptor k_Re_costAhead.y.desc).map (fun q => q.parameters.length) = some 4 := by decide +kernel
  rw [e] at e2
  exact (Option.some.inj e2).symm
theorem kw_Re_costAhead : k_Re_costAhead.w ∈ tw := tx3 211 rfl rfl
def k_Re_traceBack : Kt := (⟨R_Re, "traceBack", "(LPhotoModels$Photos;IIII)I"⟩, prog_7_method_6_code, 9, (some .int), 3, 72, [])
theorem np_Re_traceBack : nPar k_Re_traceBack 5 := fun sig hs => by
  have e : parseMethodDescriptor k_Re_traceBack.y.desc = some sig := hs
  have e2 : (parseMethodDescriptor k_Re_traceBack.y.desc).map (fun q => q.parameters.length) = some 5 := by decide +kernel
  rw [e] at e2
  exact (Option.some.inj e2).symm
theorem kw_Re_traceBack : k_Re_traceBack.w ∈ tw := tx3 215 rfl rfl
def k_La_depth : Kt := (⟨R_La, "depth", "(LPhotoModels;II[J)I"⟩, method_18_code, 5, (some .int), 8, 137, [(0, 10, 13, 13), (0, 10, 17, 24)])
theorem np_La_depth : nPar k_La_depth 4 := fun sig hs => by
  have e : parseMethodDescriptor k_La_depth.y.desc = some sig := hs
  have e2 : (parseMethodDescriptor k_La_depth.y.desc).map (fun q => q.parameters.length) = some 4 := by decide +kernel
  rw [e] at e2
  exact (Option.some.inj e2).symm
theorem kw_La_depth : k_La_depth.w ∈ tw := tx3 218 rfl rfl
def k_Pm_depth : Kt := (⟨R_Pm, "depth", "(II)I"⟩, prog_1_method_18_code, 3, (some .int), 7, 115, [])
theorem np_Pm_depth : nPar k_Pm_depth 2 := fun sig hs => by
  have e : parseMethodDescriptor k_Pm_depth.y.desc = some sig := hs
  have e2 : (parseMethodDescriptor k_Pm_depth.y.desc).map (fun q => q.parameters.length) = some 2 := by decide +kernel
  rw [e] at e2
  exact (Option.some.inj e2).symm
theorem kw_Pm_depth : k_Pm_depth.w ∈ tw := tx3 222 rfl rfl
def k_Re_isRaised : Kt := (⟨R_Re, "isRaised", "()Z"⟩, prog_7_method_2_code, 1, (some .boolean), 0, 0, [])
theorem np_Re_isRaised : nPar k_Re_isRaised 0 := fun sig hs => by
  have e : parseMethodDescriptor k_Re_isRaised.y.desc = some sig := hs
  have e2 : (parseMethodDescriptor k_Re_isRaised.y.desc).map (fun q => q.parameters.length) = some 0 := by decide +kernel
  rw [e] at e2
  exact (Option.some.inj e2).symm
theorem kw_Re_isRaised : k_Re_isRaised.w ∈ tw := tx3 226 rfl rfl
def k_Re_depthOf : Kt := (⟨R_Re, "depthOf", "(II)I"⟩, prog_7_method_3_code, 3, (some .int), 0, 0, [])
theorem np_Re_depthOf : nPar k_Re_depthOf 2 := fun sig hs => by
  have e : parseMethodDescriptor k_Re_depthOf.y.desc = some sig := hs
  have e2 : (parseMethodDescriptor k_Re_depthOf.y.desc).map (fun q => q.parameters.length) = some 2 := by decide +kernel
  rw [e] at e2
  exact (Option.some.inj e2).symm
theorem kw_Re_depthOf : k_Re_depthOf.w ∈ tw := tx3 230 rfl rfl
def k_La_holes : Kt := (⟨R_La, "holes", "(LPhotoModels;I[J)I"⟩, method_19_code, 4, (some .int), 8, 136, [(0, 9, 12, 24)])
theorem np_La_holes : nPar k_La_holes 3 := fun sig hs => by
  have e : parseMethodDescriptor k_La_holes.y.desc = some sig := hs
  have e2 : (parseMethodDescriptor k_La_holes.y.desc).map (fun q => q.parameters.length) = some 3 := by decide +kernel
  rw [e] at e2
  exact (Option.some.inj e2).symm
theorem kw_La_holes : k_La_holes.w ∈ tw := tx3 233 rfl rfl
def k_Pm_holes : Kt := (⟨R_Pm, "holes", "(I)I"⟩, prog_1_method_19_code, 2, (some .int), 7, 115, [])
theorem np_Pm_holes : nPar k_Pm_holes 1 := fun sig hs => by
  have e : parseMethodDescriptor k_Pm_holes.y.desc = some sig := hs
  have e2 : (parseMethodDescriptor k_Pm_holes.y.desc).map (fun q => q.parameters.length) = some 1 := by decide +kernel
  rw [e] at e2
  exact (Option.some.inj e2).symm
theorem kw_Pm_holes : k_Pm_holes.w ∈ tw := tx3 237 rfl rfl
def k_Re_holesAbove : Kt := (⟨R_Re, "holesAbove", "(I)I"⟩, prog_7_method_11_code, 6, (some .int), 2, 45, [])
theorem np_Re_holesAbove : nPar k_Re_holesAbove 1 := fun sig hs => by
  have e : parseMethodDescriptor k_Re_holesAbove.y.desc = some sig := hs
  have e2 : (parseMethodDescriptor k_Re_holesAbove.y.desc).map (fun q => q.parameters.length) = some 1 := by decide +kernel
  rw [e] at e2
  exact (Option.some.inj e2).symm
theorem kw_Re_holesAbove : k_Re_holesAbove.w ∈ tw := tx4 1 rfl rfl
def k_Re_openAbove : Kt := (⟨R_Re, "openAbove", "(I)V"⟩, prog_7_method_12_code, 4, none, 1, 22, [])
theorem np_Re_openAbove : nPar k_Re_openAbove 1 := fun sig hs => by
  have e : parseMethodDescriptor k_Re_openAbove.y.desc = some sig := hs
  have e2 : (parseMethodDescriptor k_Re_openAbove.y.desc).map (fun q => q.parameters.length) = some 1 := by decide +kernel
  rw [e] at e2
  exact (Option.some.inj e2).symm
theorem kw_Re_openAbove : k_Re_openAbove.w ∈ tw := tx4 5 rfl rfl
def k_Re_marginedIndex : Kt := (⟨R_Re, "marginedIndex", "(II)I"⟩, prog_7_method_15_code, 3, (some .int), 0, 0, [])
theorem np_Re_marginedIndex : nPar k_Re_marginedIndex 2 := fun sig hs => by
  have e : parseMethodDescriptor k_Re_marginedIndex.y.desc = some sig := hs
  have e2 : (parseMethodDescriptor k_Re_marginedIndex.y.desc).map (fun q => q.parameters.length) = some 2 := by decide +kernel
  rw [e] at e2
  exact (Option.some.inj e2).symm
theorem kw_Re_marginedIndex : k_Re_marginedIndex.w ∈ tw := tx4 9 rfl rfl
def k_Re_closeAround : Kt := (⟨R_Re, "closeAround", "(I)V"⟩, prog_7_method_13_code, 4, none, 1, 21, [])
theorem np_Re_closeAround : nPar k_Re_closeAround 1 := fun sig hs => by
  have e : parseMethodDescriptor k_Re_closeAround.y.desc = some sig := hs
  have e2 : (parseMethodDescriptor k_Re_closeAround.y.desc).map (fun q => q.parameters.length) = some 1 := by decide +kernel
  rw [e] at e2
  exact (Option.some.inj e2).symm
theorem kw_Re_closeAround : k_Re_closeAround.w ∈ tw := tx4 13 rfl rfl
def k_Re_closeIfOpen : Kt := (⟨R_Re, "closeIfOpen", "(I)V"⟩, prog_7_method_14_code, 2, none, 0, 0, [])
theorem np_Re_closeIfOpen : nPar k_Re_closeIfOpen 1 := fun sig hs => by
  have e : parseMethodDescriptor k_Re_closeIfOpen.y.desc = some sig := hs
  have e2 : (parseMethodDescriptor k_Re_closeIfOpen.y.desc).map (fun q => q.parameters.length) = some 1 := by decide +kernel
  rw [e] at e2
  exact (Option.some.inj e2).symm
theorem kw_Re_closeIfOpen : k_Re_closeIfOpen.w ∈ tw := tx4 17 rfl rfl
def k_La_count : Kt := (⟨R_La, "count", "(LPhotoModels;I[J)I"⟩, method_20_code, 4, (some .int), 7, 116, [(0, 9, 12, 13)])
theorem np_La_count : nPar k_La_count 3 := fun sig hs => by
  have e : parseMethodDescriptor k_La_count.y.desc = some sig := hs
  have e2 : (parseMethodDescriptor k_La_count.y.desc).map (fun q => q.parameters.length) = some 3 := by decide +kernel
  rw [e] at e2
  exact (Option.some.inj e2).symm
theorem kw_La_count : k_La_count.w ∈ tw := tx4 20 rfl rfl
def k_Pm_count : Kt := (⟨R_Pm, "count", "(I)I"⟩, prog_1_method_20_code, 2, (some .int), 6, 95, [])
theorem np_Pm_count : nPar k_Pm_count 1 := fun sig hs => by
  have e : parseMethodDescriptor k_Pm_count.y.desc = some sig := hs
  have e2 : (parseMethodDescriptor k_Pm_count.y.desc).map (fun q => q.parameters.length) = some 1 := by decide +kernel
  rw [e] at e2
  exact (Option.some.inj e2).symm
theorem kw_Pm_count : k_Pm_count.w ∈ tw := tx4 24 rfl rfl
def k_Ph_width : Kt := (⟨R_Ph, "width", "()I"⟩, prog_5_method_2_code, 1, (some .int), 0, 0, [])
theorem np_Ph_width : nPar k_Ph_width 0 := fun sig hs => by
  have e : parseMethodDescriptor k_Ph_width.y.desc = some sig := hs
  have e2 : (parseMethodDescriptor k_Ph_width.y.desc).map (fun q => q.parameters.length) = some 0 := by decide +kernel
  rw [e] at e2
  exact (Option.some.inj e2).symm
theorem kw_Ph_width : k_Ph_width.w ∈ tw := tx4 28 rfl rfl
def k_Ph_height : Kt := (⟨R_Ph, "height", "()I"⟩, prog_5_method_3_code, 1, (some .int), 0, 0, [])
theorem np_Ph_height : nPar k_Ph_height 0 := fun sig hs => by
  have e : parseMethodDescriptor k_Ph_height.y.desc = some sig := hs
  have e2 : (parseMethodDescriptor k_Ph_height.y.desc).map (fun q => q.parameters.length) = some 0 := by decide +kernel
  rw [e] at e2
  exact (Option.some.inj e2).symm
theorem kw_Ph_height : k_Ph_height.w ∈ tw := tx4 32 rfl rfl
def k_Pl_spares : Kt := (⟨R_Pl, "spares", "()I"⟩, prog_6_method_3_code, 1, (some .int), 0, 0, [])
theorem np_Pl_spares : nPar k_Pl_spares 0 := fun sig hs => by
  have e : parseMethodDescriptor k_Pl_spares.y.desc = some sig := hs
  have e2 : (parseMethodDescriptor k_Pl_spares.y.desc).map (fun q => q.parameters.length) = some 0 := by decide +kernel
  rw [e] at e2
  exact (Option.some.inj e2).symm
theorem kw_Pl_spares : k_Pl_spares.w ∈ tw := tx4 36 rfl rfl
def k_Mo_init : Kt := (⟨R_Mo, "<init>", "(III)V"⟩, prog_10_method_1_code, 5, none, 1, 20, [])
theorem np_Mo_init : nPar k_Mo_init 3 := fun sig hs => by
  have e : parseMethodDescriptor k_Mo_init.y.desc = some sig := hs
  have e2 : (parseMethodDescriptor k_Mo_init.y.desc).map (fun q => q.parameters.length) = some 3 := by decide +kernel
  rw [e] at e2
  exact (Option.some.inj e2).symm
theorem kw_Mo_init : k_Mo_init.w ∈ tw := tx4 42 rfl rfl
def k_Mo_thrown : Kt := (⟨R_Mo, "thrown", "()I"⟩, prog_10_method_2_code, 1, (some .int), 0, 0, [])
theorem np_Mo_thrown : nPar k_Mo_thrown 0 := fun sig hs => by
  have e : parseMethodDescriptor k_Mo_thrown.y.desc = some sig := hs
  have e2 : (parseMethodDescriptor k_Mo_thrown.y.desc).map (fun q => q.parameters.length) = some 0 := by decide +kernel
  rw [e] at e2
  exact (Option.some.inj e2).symm
theorem kw_Mo_thrown : k_Mo_thrown.w ∈ tw := tx4 133 rfl rfl
def k_Mo_pixel : Kt := (⟨R_Mo, "pixel", "(IIII)I"⟩, prog_10_method_10_code, 6, (some .int), 2, 44, [])
theorem np_Mo_pixel : nPar k_Mo_pixel 4 := fun sig hs => by
  have e : parseMethodDescriptor k_Mo_pixel.y.desc = some sig := hs
  have e2 : (parseMethodDescriptor k_Mo_pixel.y.desc).map (fun q => q.parameters.length) = some 4 := by decide +kernel
  rw [e] at e2
  exact (Option.some.inj e2).symm
theorem kw_Mo_pixel : k_Mo_pixel.w ∈ tw := tx4 137 rfl rfl
def k_Mo_isPhoto : Kt := (⟨R_Mo, "isPhoto", "(I)Z"⟩, prog_10_method_5_code, 1, (some .boolean), 1, 22, [])
theorem np_Mo_isPhoto : nPar k_Mo_isPhoto 1 := fun sig hs => by
  have e : parseMethodDescriptor k_Mo_isPhoto.y.desc = some sig := hs
  have e2 : (parseMethodDescriptor k_Mo_isPhoto.y.desc).map (fun q => q.parameters.length) = some 1 := by decide +kernel
  rw [e] at e2
  exact (Option.some.inj e2).symm
theorem kw_Mo_isPhoto : k_Mo_isPhoto.w ∈ tw := tx4 140 rfl rfl
def k_Mo_within : Kt := (⟨R_Mo, "within", "(III)Z"⟩, prog_10_method_4_code, 3, (some .boolean), 0, 0, [])
theorem np_Mo_within : nPar k_Mo_within 3 := fun sig hs => by
  have e : parseMethodDescriptor k_Mo_within.y.desc = some sig := hs
  have e2 : (parseMethodDescriptor k_Mo_within.y.desc).map (fun q => q.parameters.length) = some 3 := by decide +kernel
  rw [e] at e2
  exact (Option.some.inj e2).symm
theorem kw_Mo_within : k_Mo_within.w ∈ tw := tx4 143 rfl rfl
def k_Mo_isCell : Kt := (⟨R_Mo, "isCell", "(II)Z"⟩, prog_10_method_6_code, 3, (some .boolean), 1, 22, [])
theorem np_Mo_isCell : nPar k_Mo_isCell 2 := fun sig hs => by
  have e : parseMethodDescriptor k_Mo_isCell.y.desc = some sig := hs
  have e2 : (parseMethodDescriptor k_Mo_isCell.y.desc).map (fun q => q.parameters.length) = some 2 := by decide +kernel
  rw [e] at e2
  exact (Option.some.inj e2).symm
theorem kw_Mo_isCell : k_Mo_isCell.w ∈ tw := tx4 147 rfl rfl
def k_Mo_goes : Kt := (⟨R_Mo, "goes", "(ZZZ)Z"⟩, prog_10_method_3_code, 4, (some .boolean), 0, 0, [])
theorem np_Mo_goes : nPar k_Mo_goes 3 := fun sig hs => by
  have e : parseMethodDescriptor k_Mo_goes.y.desc = some sig := hs
  have e2 : (parseMethodDescriptor k_Mo_goes.y.desc).map (fun q => q.parameters.length) = some 3 := by decide +kernel
  rw [e] at e2
  exact (Option.some.inj e2).symm
theorem kw_Mo_goes : k_Mo_goes.w ∈ tw := tx4 151 rfl rfl
def k_Mo_valueOf : Kt := (⟨R_Mo, "valueOf", "(III)I"⟩, prog_10_method_9_code, 4, (some .int), 0, 0, [])
theorem np_Mo_valueOf : nPar k_Mo_valueOf 3 := fun sig hs => by
  have e : parseMethodDescriptor k_Mo_valueOf.y.desc = some sig := hs
  have e2 : (parseMethodDescriptor k_Mo_valueOf.y.desc).map (fun q => q.parameters.length) = some 3 := by decide +kernel
  rw [e] at e2
  exact (Option.some.inj e2).symm
theorem kw_Mo_valueOf : k_Mo_valueOf.w ∈ tw := tx4 155 rfl rfl
def k_Mo_match : Kt := (⟨R_Mo, "match", "(IIII)I"⟩, prog_10_method_12_code, 10, (some .int), 2, 52, [])
theorem np_Mo_match : nPar k_Mo_match 4 := fun sig hs => by
  have e : parseMethodDescriptor k_Mo_match.y.desc = some sig := hs
  have e2 : (parseMethodDescriptor k_Mo_match.y.desc).map (fun q => q.parameters.length) = some 4 := by decide +kernel
  rw [e] at e2
  exact (Option.some.inj e2).symm
theorem kw_Mo_match : k_Mo_match.w ∈ tw := tx4 159 rfl rfl
def k_Mo_missOf : Kt := (⟨R_Mo, "missOf", "(IIIIII)I"⟩, prog_10_method_11_code, 10, (some .int), 1, 23, [])
theorem np_Mo_missOf : nPar k_Mo_missOf 6 := fun sig hs => by
  have e : parseMethodDescriptor k_Mo_missOf.y.desc = some sig := hs
  have e2 : (parseMethodDescriptor k_Mo_missOf.y.desc).map (fun q => q.parameters.length) = some 6 := by decide +kernel
  rw [e] at e2
  exact (Option.some.inj e2).symm
theorem kw_Mo_missOf : k_Mo_missOf.w ∈ tw := tx4 163 rfl rfl
def k_Mo_apart : Kt := (⟨R_Mo, "apart", "(II)I"⟩, prog_10_method_8_code, 2, (some .int), 0, 0, [])
theorem np_Mo_apart : nPar k_Mo_apart 2 := fun sig hs => by
  have e : parseMethodDescriptor k_Mo_apart.y.desc = some sig := hs
  have e2 : (parseMethodDescriptor k_Mo_apart.y.desc).map (fun q => q.parameters.length) = some 2 := by decide +kernel
  rw [e] at e2
  exact (Option.some.inj e2).symm
theorem kw_Mo_apart : k_Mo_apart.w ∈ tw := tx4 166 rfl rfl
def k_Mo_found : Kt := (⟨R_Mo, "found", "(I)I"⟩, prog_10_method_13_code, 2, (some .int), 1, 23, [])
theorem np_Mo_found : nPar k_Mo_found 1 := fun sig hs => by
  have e : parseMethodDescriptor k_Mo_found.y.desc = some sig := hs
  have e2 : (parseMethodDescriptor k_Mo_found.y.desc).map (fun q => q.parameters.length) = some 1 := by decide +kernel
  rw [e] at e2
  exact (Option.some.inj e2).symm
theorem kw_Mo_found : k_Mo_found.w ∈ tw := tx4 170 rfl rfl
def k_Mo_place : Kt := (⟨R_Mo, "place", "()I"⟩, prog_10_method_14_code, 1, (some .int), 1, 23, [])
theorem np_Mo_place : nPar k_Mo_place 0 := fun sig hs => by
  have e : parseMethodDescriptor k_Mo_place.y.desc = some sig := hs
  have e2 : (parseMethodDescriptor k_Mo_place.y.desc).map (fun q => q.parameters.length) = some 0 := by decide +kernel
  rw [e] at e2
  exact (Option.some.inj e2).symm
theorem kw_Mo_place : k_Mo_place.w ∈ tw := tx4 174 rfl rfl
def k_Mo_seen : Kt := (⟨R_Mo, "seen", "(IIII)Z"⟩, prog_10_method_15_code, 6, (some .boolean), 2, 43, [])
theorem np_Mo_seen : nPar k_Mo_seen 4 := fun sig hs => by
  have e : parseMethodDescriptor k_Mo_seen.y.desc = some sig := hs
  have e2 : (parseMethodDescriptor k_Mo_seen.y.desc).map (fun q => q.parameters.length) = some 4 := by decide +kernel
  rw [e] at e2
  exact (Option.some.inj e2).symm
theorem kw_Mo_seen : k_Mo_seen.w ∈ tw := tx4 178 rfl rfl
def k_Mo_isPlace : Kt := (⟨R_Mo, "isPlace", "(I)Z"⟩, prog_10_method_7_code, 2, (some .boolean), 1, 22, [])
theorem np_Mo_isPlace : nPar k_Mo_isPlace 1 := fun sig hs => by
  have e : parseMethodDescriptor k_Mo_isPlace.y.desc = some sig := hs
  have e2 : (parseMethodDescriptor k_Mo_isPlace.y.desc).map (fun q => q.parameters.length) = some 1 := by decide +kernel
  rw [e] at e2
  exact (Option.some.inj e2).symm
theorem kw_Mo_isPlace : k_Mo_isPlace.w ∈ tw := tx4 182 rfl rfl
def k_Mo_relative : Kt := (⟨R_Mo, "relative", "(IIII)I"⟩, prog_10_method_22_code, 11, (some .int), 3, 74, [])
theorem np_Mo_relative : nPar k_Mo_relative 4 := fun sig hs => by
  have e : parseMethodDescriptor k_Mo_relative.y.desc = some sig := hs
  have e2 : (parseMethodDescriptor k_Mo_relative.y.desc).map (fun q => q.parameters.length) = some 4 := by decide +kernel
  rw [e] at e2
  exact (Option.some.inj e2).symm
theorem kw_Mo_relative : k_Mo_relative.w ∈ tw := tx4 186 rfl rfl
def k_Mo_isBoth : Kt := (⟨R_Mo, "isBoth", "(III)Z"⟩, prog_10_method_19_code, 4, (some .boolean), 1, 22, [])
theorem np_Mo_isBoth : nPar k_Mo_isBoth 3 := fun sig hs => by
  have e : parseMethodDescriptor k_Mo_isBoth.y.desc = some sig := hs
  have e2 : (parseMethodDescriptor k_Mo_isBoth.y.desc).map (fun q => q.parameters.length) = some 3 := by decide +kernel
  rw [e] at e2
  exact (Option.some.inj e2).symm
theorem kw_Mo_isBoth : k_Mo_isBoth.w ∈ tw := tx4 190 rfl rfl
def k_Mo_isSeen : Kt := (⟨R_Mo, "isSeen", "(II)Z"⟩, prog_10_method_16_code, 3, (some .boolean), 0, 0, [])
theorem np_Mo_isSeen : nPar k_Mo_isSeen 2 := fun sig hs => by
  have e : parseMethodDescriptor k_Mo_isSeen.y.desc = some sig := hs
  have e2 : (parseMethodDescriptor k_Mo_isSeen.y.desc).map (fun q => q.parameters.length) = some 2 := by decide +kernel
  rw [e] at e2
  exact (Option.some.inj e2).symm
theorem kw_Mo_isSeen : k_Mo_isSeen.w ∈ tw := tx4 194 rfl rfl
def k_Mo_drawn : Kt := (⟨R_Mo, "drawn", "(I)I"⟩, prog_10_method_18_code, 4, (some .int), 0, 0, [])
theorem np_Mo_drawn : nPar k_Mo_drawn 1 := fun sig hs => by
  have e : parseMethodDescriptor k_Mo_drawn.y.desc = some sig := hs
  have e2 : (parseMethodDescriptor k_Mo_drawn.y.desc).map (fun q => q.parameters.length) = some 1 := by decide +kernel
  rw [e] at e2
  exact (Option.some.inj e2).symm
theorem kw_Mo_drawn : k_Mo_drawn.w ∈ tw := tx4 198 rfl rfl
def k_Mo_agreeing : Kt := (⟨R_Mo, "agreeing", "(IIII)I"⟩, prog_10_method_21_code, 8, (some .int), 2, 47, [])
theorem np_Mo_agreeing : nPar k_Mo_agreeing 4 := fun sig hs => by
  have e : parseMethodDescriptor k_Mo_agreeing.y.desc = some sig := hs
  have e2 : (parseMethodDescriptor k_Mo_agreeing.y.desc).map (fun q => q.parameters.length) = some 4 := by decide +kernel
  rw [e] at e2
  exact (Option.some.inj e2).symm
theorem kw_Mo_agreeing : k_Mo_agreeing.w ∈ tw := tx4 203 rfl rfl
def k_Mo_between : Kt := (⟨R_Mo, "between", "(IIII)I"⟩, prog_10_method_20_code, 5, (some .int), 1, 23, [])
theorem np_Mo_between : nPar k_Mo_between 4 := fun sig hs => by
  have e : parseMethodDescriptor k_Mo_between.y.desc = some sig := hs
  have e2 : (parseMethodDescriptor k_Mo_between.y.desc).map (fun q => q.parameters.length) = some 4 := by decide +kernel
  rw [e] at e2
  exact (Option.some.inj e2).symm
theorem kw_Mo_between : k_Mo_between.w ∈ tw := tx4 207 rfl rfl
def k_Mo_where : Kt := (⟨R_Mo, "where", "(III)I"⟩, prog_10_method_17_code, 4, (some .int), 0, 0, [])
theorem np_Mo_where : nPar k_Mo_where 3 := fun sig hs => by
  have e : parseMethodDescriptor k_Mo_where.y.desc = some sig := hs
  have e2 : (parseMethodDescriptor k_Mo_where.y.desc).map (fun q => q.parameters.length) = some 3 := by decide +kernel
  rw [e] at e2
  exact (Option.some.inj e2).symm
theorem kw_Mo_where : k_Mo_where.w ∈ tw := tx4 211 rfl rfl
def k_Mo_shift : Kt := (⟨R_Mo, "shift", "(I)I"⟩, prog_10_method_23_code, 2, (some .int), 1, 23, [])
theorem np_Mo_shift : nPar k_Mo_shift 1 := fun sig hs => by
  have e : parseMethodDescriptor k_Mo_shift.y.desc = some sig := hs
  have e2 : (parseMethodDescriptor k_Mo_shift.y.desc).map (fun q => q.parameters.length) = some 1 := by decide +kernel
  rw [e] at e2
  exact (Option.some.inj e2).symm
theorem kw_Mo_shift : k_Mo_shift.w ∈ tw := tx4 215 rfl rfl
def k_Mo_spare : Kt := (⟨R_Mo, "spare", "(IZ)Z"⟩, prog_10_method_24_code, 4, (some .boolean), 2, 43, [])
theorem np_Mo_spare : nPar k_Mo_spare 2 := fun sig hs => by
  have e : parseMethodDescriptor k_Mo_spare.y.desc = some sig := hs
  have e2 : (parseMethodDescriptor k_Mo_spare.y.desc).map (fun q => q.parameters.length) = some 2 := by decide +kernel
  rw [e] at e2
  exact (Option.some.inj e2).symm
theorem kw_Mo_spare : k_Mo_spare.w ∈ tw := tx4 219 rfl rfl
def k_Mo_run : Kt := (⟨R_Mo, "run", "(I)I"⟩, prog_10_method_32_code, 7, (some .int), 3, 74, [])
theorem np_Mo_run : nPar k_Mo_run 1 := fun sig hs => by
  have e : parseMethodDescriptor k_Mo_run.y.desc = some sig := hs
  have e2 : (parseMethodDescriptor k_Mo_run.y.desc).map (fun q => q.parameters.length) = some 1 := by decide +kernel
  rw [e] at e2
  exact (Option.some.inj e2).symm
theorem kw_Mo_run : k_Mo_run.w ∈ tw := tx4 223 rfl rfl
def k_Mo_begin : Kt := (⟨R_Mo, "begin", "()V"⟩, prog_10_method_31_code, 2, none, 2, 48, [])
theorem np_Mo_begin : nPar k_Mo_begin 0 := fun sig hs => by
  have e : parseMethodDescriptor k_Mo_begin.y.desc = some sig := hs
  have e2 : (parseMethodDescriptor k_Mo_begin.y.desc).map (fun q => q.parameters.length) = some 0 := by decide +kernel
  rw [e] at e2
  exact (Option.some.inj e2).symm
theorem kw_Mo_begin : k_Mo_begin.w ∈ tw := tx4 227 rfl rfl
def k_Mo_put : Kt := (⟨R_Mo, "put", "(II)V"⟩, prog_10_method_29_code, 6, none, 1, 23, [])
theorem np_Mo_put : nPar k_Mo_put 2 := fun sig hs => by
  have e : parseMethodDescriptor k_Mo_put.y.desc = some sig := hs
  have e2 : (parseMethodDescriptor k_Mo_put.y.desc).map (fun q => q.parameters.length) = some 2 := by decide +kernel
  rw [e] at e2
  exact (Option.some.inj e2).symm
theorem kw_Mo_put : k_Mo_put.w ∈ tw := tx4 231 rfl rfl
def k_Mo_down : Kt := (⟨R_Mo, "down", "(II)I"⟩, prog_10_method_25_code, 3, (some .int), 0, 0, [])
theorem np_Mo_down : nPar k_Mo_down 2 := fun sig hs => by
  have e : parseMethodDescriptor k_Mo_down.y.desc = some sig := hs
  have e2 : (parseMethodDescriptor k_Mo_down.y.desc).map (fun q => q.parameters.length) = some 2 := by decide +kernel
  rw [e] at e2
  exact (Option.some.inj e2).symm
theorem kw_Mo_down : k_Mo_down.w ∈ tw := tx4 234 rfl rfl
def k_Mo_all : Kt := (⟨R_Mo, "all", "()J"⟩, prog_10_method_27_code, 4, (some .long), 2, 51, [])
theorem np_Mo_all : nPar k_Mo_all 0 := fun sig hs => by
  have e : parseMethodDescriptor k_Mo_all.y.desc = some sig := hs
  have e2 : (parseMethodDescriptor k_Mo_all.y.desc).map (fun q => q.parameters.length) = some 0 := by decide +kernel
  rw [e] at e2
  exact (Option.some.inj e2).symm
theorem kw_Mo_all : k_Mo_all.w ∈ tw := tx4 238 rfl rfl
def k_Mo_missed : Kt := (⟨R_Mo, "missed", "(I)J"⟩, prog_10_method_26_code, 9, (some .long), 1, 23, [])
theorem np_Mo_missed : nPar k_Mo_missed 1 := fun sig hs => by
  have e : parseMethodDescriptor k_Mo_missed.y.desc = some sig := hs
  have e2 : (parseMethodDescriptor k_Mo_missed.y.desc).map (fun q => q.parameters.length) = some 1 := by decide +kernel
  rw [e] at e2
  exact (Option.some.inj e2).symm
theorem kw_Mo_missed : k_Mo_missed.w ∈ tw := tx5 2 rfl rfl
def k_Mo_round : Kt := (⟨R_Mo, "round", "()V"⟩, prog_10_method_30_code, 2, none, 2, 48, [])
theorem np_Mo_round : nPar k_Mo_round 0 := fun sig hs => by
  have e : parseMethodDescriptor k_Mo_round.y.desc = some sig := hs
  have e2 : (parseMethodDescriptor k_Mo_round.y.desc).map (fun q => q.parameters.length) = some 0 := by decide +kernel
  rw [e] at e2
  exact (Option.some.inj e2).symm
theorem kw_Mo_round : k_Mo_round.w ∈ tw := tx5 6 rfl rfl
def k_Mo_move : Kt := (⟨R_Mo, "move", "(II)V"⟩, prog_10_method_28_code, 6, none, 1, 23, [])
theorem np_Mo_move : nPar k_Mo_move 2 := fun sig hs => by
  have e : parseMethodDescriptor k_Mo_move.y.desc = some sig := hs
  have e2 : (parseMethodDescriptor k_Mo_move.y.desc).map (fun q => q.parameters.length) = some 2 := by decide +kernel
  rw [e] at e2
  exact (Option.some.inj e2).symm
theorem kw_Mo_move : k_Mo_move.w ∈ tw := tx5 10 rfl rfl
def k_Mo_sum : Kt := (⟨R_Mo, "sum", "()J"⟩, prog_10_method_33_code, 1, (some .long), 3, 74, [])
theorem np_Mo_sum : nPar k_Mo_sum 0 := fun sig hs => by
  have e : parseMethodDescriptor k_Mo_sum.y.desc = some sig := hs
  have e2 : (parseMethodDescriptor k_Mo_sum.y.desc).map (fun q => q.parameters.length) = some 0 := by decide +kernel
  rw [e] at e2
  exact (Option.some.inj e2).symm
theorem kw_Mo_sum : k_Mo_sum.w ∈ tw := tx5 14 rfl rfl
def k_Mo_at : Kt := (⟨R_Mo, "at", "(II)I"⟩, prog_10_method_34_code, 3, (some .int), 2, 43, [])
theorem np_Mo_at : nPar k_Mo_at 2 := fun sig hs => by
  have e : parseMethodDescriptor k_Mo_at.y.desc = some sig := hs
  have e2 : (parseMethodDescriptor k_Mo_at.y.desc).map (fun q => q.parameters.length) = some 2 := by decide +kernel
  rw [e] at e2
  exact (Option.some.inj e2).symm
theorem kw_Mo_at : k_Mo_at.w ∈ tw := tx5 18 rfl rfl
def k_Mo_offset : Kt := (⟨R_Mo, "offset", "(II)I"⟩, prog_10_method_35_code, 3, (some .int), 2, 42, [])
theorem np_Mo_offset : nPar k_Mo_offset 2 := fun sig hs => by
  have e : parseMethodDescriptor k_Mo_offset.y.desc = some sig := hs
  have e2 : (parseMethodDescriptor k_Mo_offset.y.desc).map (fun q => q.parameters.length) = some 2 := by decide +kernel
  rw [e] at e2
  exact (Option.some.inj e2).symm
theorem kw_Mo_offset : k_Mo_offset.w ∈ tw := tx5 22 rfl rfl
def k_Mo_miss : Kt := (⟨R_Mo, "miss", "(I)J"⟩, prog_10_method_36_code, 2, (some .long), 2, 51, [])
theorem np_Mo_miss : nPar k_Mo_miss 1 := fun sig hs => by
  have e : parseMethodDescriptor k_Mo_miss.y.desc = some sig := hs
  have e2 : (parseMethodDescriptor k_Mo_miss.y.desc).map (fun q => q.parameters.length) = some 1 := by decide +kernel
  rw [e] at e2
  exact (Option.some.inj e2).symm
theorem kw_Mo_miss : k_Mo_miss.w ∈ tw := tx5 26 rfl rfl
def k_Mo_known : Kt := (⟨R_Mo, "known", "(III)I"⟩, prog_10_method_37_code, 4, (some .int), 2, 43, [])
theorem np_Mo_known : nPar k_Mo_known 3 := fun sig hs => by
  have e : parseMethodDescriptor k_Mo_known.y.desc = some sig := hs
  have e2 : (parseMethodDescriptor k_Mo_known.y.desc).map (fun q => q.parameters.length) = some 3 := by decide +kernel
  rw [e] at e2
  exact (Option.some.inj e2).symm
theorem kw_Mo_known : k_Mo_known.w ∈ tw := tx5 30 rfl rfl
def k_Mo_scale : Kt := (⟨R_Mo, "scale", "(I)J"⟩, prog_10_method_40_code, 13, (some .long), 1, 29, [])
theorem np_Mo_scale : nPar k_Mo_scale 1 := fun sig hs => by
  have e : parseMethodDescriptor k_Mo_scale.y.desc = some sig := hs
  have e2 : (parseMethodDescriptor k_Mo_scale.y.desc).map (fun q => q.parameters.length) = some 1 := by decide +kernel
  rw [e] at e2
  exact (Option.some.inj e2).symm
theorem kw_Mo_scale : k_Mo_scale.w ∈ tw := tx5 34 rfl rfl
def k_Mo_root : Kt := (⟨R_Mo, "root", "(J)J"⟩, prog_10_method_38_code, 9, (some .long), 0, 0, [])
theorem np_Mo_root : nPar k_Mo_root 1 := fun sig hs => by
  have e : parseMethodDescriptor k_Mo_root.y.desc = some sig := hs
  have e2 : (parseMethodDescriptor k_Mo_root.y.desc).map (fun q => q.parameters.length) = some 1 := by decide +kernel
  rw [e] at e2
  exact (Option.some.inj e2).symm
theorem kw_Mo_root : k_Mo_root.w ∈ tw := tx5 37 rfl rfl
def k_Mo_divisor : Kt := (⟨R_Mo, "divisor", "(JJ)J"⟩, prog_10_method_39_code, 10, (some .long), 0, 0, [])
theorem np_Mo_divisor : nPar k_Mo_divisor 2 := fun sig hs => by
  have e : parseMethodDescriptor k_Mo_divisor.y.desc = some sig := hs
  have e2 : (parseMethodDescriptor k_Mo_divisor.y.desc).map (fun q => q.parameters.length) = some 2 := by decide +kernel
  rw [e] at e2
  exact (Option.some.inj e2).symm
theorem kw_Mo_divisor : k_Mo_divisor.w ∈ tw := tx5 42 rfl rfl
def k_Mo_heights : Kt := (⟨R_Mo, "heights", "(III)I"⟩, prog_10_method_44_code, 6, (some .int), 3, 79, [])
theorem np_Mo_heights : nPar k_Mo_heights 3 := fun sig hs => by
  have e : parseMethodDescriptor k_Mo_heights.y.desc = some sig := hs
  have e2 : (parseMethodDescriptor k_Mo_heights.y.desc).map (fun q => q.parameters.length) = some 3 := by decide +kernel
  rw [e] at e2
  exact (Option.some.inj e2).symm
theorem kw_Mo_heights : k_Mo_heights.w ∈ tw := tx5 46 rfl rfl
def k_Mo_costRow : Kt := (⟨R_Mo, "costRow", "(IIII)V"⟩, prog_10_method_42_code, 12, none, 2, 48, [])
theorem np_Mo_costRow : nPar k_Mo_costRow 4 := fun sig hs => by
  have e : parseMethodDescriptor k_Mo_costRow.y.desc = some sig := hs
  have e2 : (parseMethodDescriptor k_Mo_costRow.y.desc).map (fun q => q.parameters.length) = some 4 := by decide +kernel
  rw [e] at e2
  exact (Option.some.inj e2).symm
theorem kw_Mo_costRow : k_Mo_costRow.w ∈ tw := tx5 50 rfl rfl
def k_Mo_gap : Kt := (⟨R_Mo, "gap", "(IIIII)I"⟩, prog_10_method_41_code, 6, (some .int), 1, 23, [])
theorem np_Mo_gap : nPar k_Mo_gap 5 := fun sig hs => by
  have e : parseMethodDescriptor k_Mo_gap.y.desc = some sig := hs
  have e2 : (parseMethodDescriptor k_Mo_gap.y.desc).map (fun q => q.parameters.length) = some 5 := by decide +kernel
  rw [e] at e2
  exact (Option.some.inj e2).symm
theorem kw_Mo_gap : k_Mo_gap.w ∈ tw := tx5 54 rfl rfl
def k_Mo_trace : Kt := (⟨R_Mo, "trace", "(IIII)I"⟩, prog_10_method_43_code, 10, (some .int), 2, 48, [])
theorem np_Mo_trace : nPar k_Mo_trace 4 := fun sig hs => by
  have e : parseMethodDescriptor k_Mo_trace.y.desc = some sig := hs
  have e2 : (parseMethodDescriptor k_Mo_trace.y.desc).map (fun q => q.parameters.length) = some 4 := by decide +kernel
  rw [e] at e2
  exact (Option.some.inj e2).symm
theorem kw_Mo_trace : k_Mo_trace.w ∈ tw := tx5 58 rfl rfl
def k_Mo_depth : Kt := (⟨R_Mo, "depth", "(II)I"⟩, prog_10_method_45_code, 3, (some .int), 2, 44, [])
theorem np_Mo_depth : nPar k_Mo_depth 2 := fun sig hs => by
  have e : parseMethodDescriptor k_Mo_depth.y.desc = some sig := hs
  have e2 : (parseMethodDescriptor k_Mo_depth.y.desc).map (fun q => q.parameters.length) = some 2 := by decide +kernel
  rw [e] at e2
  exact (Option.some.inj e2).symm
theorem kw_Mo_depth : k_Mo_depth.w ∈ tw := tx5 62 rfl rfl
def k_Mo_holes : Kt := (⟨R_Mo, "holes", "(I)I"⟩, prog_10_method_49_code, 4, (some .int), 5, 113, [])
theorem np_Mo_holes : nPar k_Mo_holes 1 := fun sig hs => by
  have e : parseMethodDescriptor k_Mo_holes.y.desc = some sig := hs
  have e2 : (parseMethodDescriptor k_Mo_holes.y.desc).map (fun q => q.parameters.length) = some 1 := by decide +kernel
  rw [e] at e2
  exact (Option.some.inj e2).symm
theorem kw_Mo_holes : k_Mo_holes.w ∈ tw := tx5 66 rfl rfl
def k_Mo_close : Kt := (⟨R_Mo, "close", "(I)V"⟩, prog_10_method_47_code, 6, none, 4, 88, [])
theorem np_Mo_close : nPar k_Mo_close 1 := fun sig hs => by
  have e : parseMethodDescriptor k_Mo_close.y.desc = some sig := hs
  have e2 : (parseMethodDescriptor k_Mo_close.y.desc).map (fun q => q.parameters.length) = some 1 := by decide +kernel
  rw [e] at e2
  exact (Option.some.inj e2).symm
theorem kw_Mo_close : k_Mo_close.w ∈ tw := tx5 70 rfl rfl
def k_Mo_isOpen : Kt := (⟨R_Mo, "isOpen", "(II)Z"⟩, prog_10_method_46_code, 3, (some .boolean), 2, 44, [])
theorem np_Mo_isOpen : nPar k_Mo_isOpen 2 := fun sig hs => by
  have e : parseMethodDescriptor k_Mo_isOpen.y.desc = some sig := hs
  have e2 : (parseMethodDescriptor k_Mo_isOpen.y.desc).map (fun q => q.parameters.length) = some 2 := by decide +kernel
  rw [e] at e2
  exact (Option.some.inj e2).symm
theorem kw_Mo_isOpen : k_Mo_isOpen.w ∈ tw := tx5 74 rfl rfl
def k_Mo_mark : Kt := (⟨R_Mo, "mark", "(II)V"⟩, prog_10_method_48_code, 3, none, 3, 66, [])
theorem np_Mo_mark : nPar k_Mo_mark 2 := fun sig hs => by
  have e : parseMethodDescriptor k_Mo_mark.y.desc = some sig := hs
  have e2 : (parseMethodDescriptor k_Mo_mark.y.desc).map (fun q => q.parameters.length) = some 2 := by decide +kernel
  rw [e] at e2
  exact (Option.some.inj e2).symm
theorem kw_Mo_mark : k_Mo_mark.w ∈ tw := tx5 78 rfl rfl
def k_Mo_count : Kt := (⟨R_Mo, "count", "(I)I"⟩, prog_10_method_50_code, 4, (some .int), 1, 23, [])
theorem np_Mo_count : nPar k_Mo_count 1 := fun sig hs => by
  have e : parseMethodDescriptor k_Mo_count.y.desc = some sig := hs
  have e2 : (parseMethodDescriptor k_Mo_count.y.desc).map (fun q => q.parameters.length) = some 1 := by decide +kernel
  rw [e] at e2
  exact (Option.some.inj e2).symm
theorem kw_Mo_count : k_Mo_count.w ∈ tw := tx5 82 rfl rfl
def k_La_law : Kt := (⟨R_La, "law", "([I)Z"⟩, code, 8, (some .boolean), 9, 192, [])
theorem np_La_law : nPar k_La_law 1 := fun sig hs => by
  have e : parseMethodDescriptor k_La_law.y.desc = some sig := hs
  have e2 : (parseMethodDescriptor k_La_law.y.desc).map (fun q => q.parameters.length) = some 1 := by decide +kernel
  rw [e] at e2
  exact (Option.some.inj e2).symm
theorem tw_ai : Cond.arrayClass .int ∈ tw := tx1 52 rfl rfl
theorem tw_az : Cond.arrayClass .boolean ∈ tw := tx1 103 rfl rfl
theorem tw_al : Cond.arrayClass .long ∈ tw := tx5 83 rfl rfl
