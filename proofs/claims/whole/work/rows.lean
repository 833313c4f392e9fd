section
-- ===== PART A: goes FIRST, ahead of the names: the tables' words, and 'selects' of the private methods out of them =====
/-- a private method of a class that the tables say can be made, by its rows of tables_1 -/
def lw_okq (q : MethodName × Nat) : Prop := (q.1.cls ≠ "java/lang/invoke/MethodHandle" ∧ q.1.cls ≠ "java/lang/invoke/VarHandle") ∧ Cond.instantiable q.1.cls q.2 ∈ tables_1 ∧ Cond.privateMethod q.1 ∈ tables_1 ∧ Cond.instanceMethod q.1 ∈ tables_1
theorem lw_p0 : lw_okq (⟨"java/lang/Throwable", "fillInStackTrace", "(I)Ljava/lang/Throwable;"⟩, 6) := ⟨⟨by decide +kernel, by decide +kernel⟩, List.mem_of_getElem? (i := 332) (by decide +kernel), List.mem_of_getElem? (i := 330) (by decide +kernel), List.mem_of_getElem? (i := 331) (by decide +kernel)⟩
theorem lw_p1 : lw_okq (⟨"PhotoModels$Photos", "index", "(III)I"⟩, 3) := ⟨⟨by decide +kernel, by decide +kernel⟩, List.mem_of_getElem? (i := 37) (by decide +kernel), List.mem_of_getElem? (i := 385) (by decide +kernel), List.mem_of_getElem? (i := 386) (by decide +kernel)⟩
theorem lw_p2 : lw_okq (⟨"PhotoModels$Search", "leastFarFromFound", "()I"⟩, 7) := ⟨⟨by decide +kernel, by decide +kernel⟩, List.mem_of_getElem? (i := 54) (by decide +kernel), List.mem_of_getElem? (i := 409) (by decide +kernel), List.mem_of_getElem? (i := 410) (by decide +kernel)⟩
theorem lw_p3 : lw_okq (⟨"PhotoModels$Search", "isFarFromFound", "(II)Z"⟩, 7) := ⟨⟨by decide +kernel, by decide +kernel⟩, List.mem_of_getElem? (i := 54) (by decide +kernel), List.mem_of_getElem? (i := 413) (by decide +kernel), List.mem_of_getElem? (i := 414) (by decide +kernel)⟩
theorem lw_p4 : lw_okq (⟨"PhotoModels$Agreement", "gatherShifts", "(LPhotoModels$Places;II)V"⟩, 7) := ⟨⟨by decide +kernel, by decide +kernel⟩, List.mem_of_getElem? (i := 105) (by decide +kernel), List.mem_of_getElem? (i := 498) (by decide +kernel), List.mem_of_getElem? (i := 499) (by decide +kernel)⟩
theorem lw_p5 : lw_okq (⟨"PhotoModels$Agreement", "drawnNumber", "(I)I"⟩, 7) := ⟨⟨by decide +kernel, by decide +kernel⟩, List.mem_of_getElem? (i := 105) (by decide +kernel), List.mem_of_getElem? (i := 505) (by decide +kernel), List.mem_of_getElem? (i := 506) (by decide +kernel)⟩
theorem lw_p6 : lw_okq (⟨"PhotoModels$Agreement", "agreeingWith", "(II)I"⟩, 7) := ⟨⟨by decide +kernel, by decide +kernel⟩, List.mem_of_getElem? (i := 105) (by decide +kernel), List.mem_of_getElem? (i := 510) (by decide +kernel), List.mem_of_getElem? (i := 511) (by decide +kernel)⟩
theorem lw_p7 : lw_okq (⟨"PhotoModels$Adjustment", "begin", "(LPhotoModels$Places;)V"⟩, 4) := ⟨⟨by decide +kernel, by decide +kernel⟩, List.mem_of_getElem? (i := 134) (by decide +kernel), List.mem_of_getElem? (i := 555) (by decide +kernel), List.mem_of_getElem? (i := 556) (by decide +kernel)⟩
theorem lw_p8 : lw_okq (⟨"PhotoModels$Adjustment", "movePlaces", "(LPhotoModels$Places;)V"⟩, 4) := ⟨⟨by decide +kernel, by decide +kernel⟩, List.mem_of_getElem? (i := 134) (by decide +kernel), List.mem_of_getElem? (i := 562) (by decide +kernel), List.mem_of_getElem? (i := 563) (by decide +kernel)⟩
theorem lw_p9 : lw_okq (⟨"PhotoModels$Adjustment", "movePlace", "(LPhotoModels$Places;II)V"⟩, 4) := ⟨⟨by decide +kernel, by decide +kernel⟩, List.mem_of_getElem? (i := 134) (by decide +kernel), List.mem_of_getElem? (i := 566) (by decide +kernel), List.mem_of_getElem? (i := 567) (by decide +kernel)⟩
theorem lw_p10 : lw_okq (⟨"PhotoModels$Adjustment", "remember", "()V"⟩, 4) := ⟨⟨by decide +kernel, by decide +kernel⟩, List.mem_of_getElem? (i := 134) (by decide +kernel), List.mem_of_getElem? (i := 577) (by decide +kernel), List.mem_of_getElem? (i := 578) (by decide +kernel)⟩
theorem lw_p11 : lw_okq (⟨"PhotoModels$Adjustment", "doRound", "(LPhotoModels$Places;)V"⟩, 4) := ⟨⟨by decide +kernel, by decide +kernel⟩, List.mem_of_getElem? (i := 134) (by decide +kernel), List.mem_of_getElem? (i := 584) (by decide +kernel), List.mem_of_getElem? (i := 585) (by decide +kernel)⟩
theorem lw_p12 : lw_okq (⟨"PhotoModels$Adjustment", "movePhoto", "(LPhotoModels$Places;II)V"⟩, 4) := ⟨⟨by decide +kernel, by decide +kernel⟩, List.mem_of_getElem? (i := 134) (by decide +kernel), List.mem_of_getElem? (i := 588) (by decide +kernel), List.mem_of_getElem? (i := 589) (by decide +kernel)⟩
theorem lw_p13 : lw_okq (⟨"PhotoModels$Adjustment", "undo", "()V"⟩, 4) := ⟨⟨by decide +kernel, by decide +kernel⟩, List.mem_of_getElem? (i := 134) (by decide +kernel), List.mem_of_getElem? (i := 592) (by decide +kernel), List.mem_of_getElem? (i := 593) (by decide +kernel)⟩
theorem lw_p14 : lw_okq (⟨"PhotoModels$Relief", "fillCosts", "(LPhotoModels$Photos;IIII)V"⟩, 10) := ⟨⟨by decide +kernel, by decide +kernel⟩, List.mem_of_getElem? (i := 172) (by decide +kernel), List.mem_of_getElem? (i := 667) (by decide +kernel), List.mem_of_getElem? (i := 668) (by decide +kernel)⟩
theorem lw_p15 : lw_okq (⟨"PhotoModels$Relief", "bestAhead", "(III)I"⟩, 10) := ⟨⟨by decide +kernel, by decide +kernel⟩, List.mem_of_getElem? (i := 172) (by decide +kernel), List.mem_of_getElem? (i := 683) (by decide +kernel), List.mem_of_getElem? (i := 684) (by decide +kernel)⟩
def lw_privs_1 : List (MethodName × Nat) := [(⟨"java/lang/Throwable", "fillInStackTrace", "(I)Ljava/lang/Throwable;"⟩, 6), (⟨"PhotoModels$Photos", "index", "(III)I"⟩, 3), (⟨"PhotoModels$Search", "leastFarFromFound", "()I"⟩, 7), (⟨"PhotoModels$Search", "isFarFromFound", "(II)Z"⟩, 7), (⟨"PhotoModels$Agreement", "gatherShifts", "(LPhotoModels$Places;II)V"⟩, 7), (⟨"PhotoModels$Agreement", "drawnNumber", "(I)I"⟩, 7), (⟨"PhotoModels$Agreement", "agreeingWith", "(II)I"⟩, 7), (⟨"PhotoModels$Adjustment", "begin", "(LPhotoModels$Places;)V"⟩, 4), (⟨"PhotoModels$Adjustment", "movePlaces", "(LPhotoModels$Places;)V"⟩, 4), (⟨"PhotoModels$Adjustment", "movePlace", "(LPhotoModels$Places;II)V"⟩, 4), (⟨"PhotoModels$Adjustment", "remember", "()V"⟩, 4), (⟨"PhotoModels$Adjustment", "doRound", "(LPhotoModels$Places;)V"⟩, 4), (⟨"PhotoModels$Adjustment", "movePhoto", "(LPhotoModels$Places;II)V"⟩, 4), (⟨"PhotoModels$Adjustment", "undo", "()V"⟩, 4), (⟨"PhotoModels$Relief", "fillCosts", "(LPhotoModels$Photos;IIII)V"⟩, 10), (⟨"PhotoModels$Relief", "bestAhead", "(III)I"⟩, 10)]
theorem lw_r1 : ∀ q ∈ lw_privs_1, lw_okq q := List.forall_mem_cons.mpr ⟨lw_p0, List.forall_mem_cons.mpr ⟨lw_p1, List.forall_mem_cons.mpr ⟨lw_p2, List.forall_mem_cons.mpr ⟨lw_p3, List.forall_mem_cons.mpr ⟨lw_p4, List.forall_mem_cons.mpr ⟨lw_p5, List.forall_mem_cons.mpr ⟨lw_p6, List.forall_mem_cons.mpr ⟨lw_p7, List.forall_mem_cons.mpr ⟨lw_p8, List.forall_mem_cons.mpr ⟨lw_p9, List.forall_mem_cons.mpr ⟨lw_p10, List.forall_mem_cons.mpr ⟨lw_p11, List.forall_mem_cons.mpr ⟨lw_p12, List.forall_mem_cons.mpr ⟨lw_p13, List.forall_mem_cons.mpr ⟨lw_p14, List.forall_mem_cons.mpr ⟨lw_p15, fun _ h => absurd h List.not_mem_nil⟩⟩⟩⟩⟩⟩⟩⟩⟩⟩⟩⟩⟩⟩⟩⟩
theorem lw_p16 : lw_okq (⟨"PhotoModels$Relief", "costAhead", "(IIII)I"⟩, 10) := ⟨⟨by decide +kernel, by decide +kernel⟩, List.mem_of_getElem? (i := 172) (by decide +kernel), List.mem_of_getElem? (i := 687) (by decide +kernel), List.mem_of_getElem? (i := 688) (by decide +kernel)⟩
theorem lw_p17 : lw_okq (⟨"PhotoModels$Relief", "traceBack", "(LPhotoModels$Photos;IIII)I"⟩, 10) := ⟨⟨by decide +kernel, by decide +kernel⟩, List.mem_of_getElem? (i := 172) (by decide +kernel), List.mem_of_getElem? (i := 691) (by decide +kernel), List.mem_of_getElem? (i := 692) (by decide +kernel)⟩
theorem lw_p18 : lw_okq (⟨"PhotoModels$Relief", "openAbove", "(I)V"⟩, 10) := ⟨⟨by decide +kernel, by decide +kernel⟩, List.mem_of_getElem? (i := 172) (by decide +kernel), List.mem_of_getElem? (i := 721) (by decide +kernel), List.mem_of_getElem? (i := 722) (by decide +kernel)⟩
theorem lw_p19 : lw_okq (⟨"PhotoModels$Relief", "marginedIndex", "(II)I"⟩, 10) := ⟨⟨by decide +kernel, by decide +kernel⟩, List.mem_of_getElem? (i := 172) (by decide +kernel), List.mem_of_getElem? (i := 725) (by decide +kernel), List.mem_of_getElem? (i := 726) (by decide +kernel)⟩
theorem lw_p20 : lw_okq (⟨"PhotoModels$Relief", "closeAround", "(I)V"⟩, 10) := ⟨⟨by decide +kernel, by decide +kernel⟩, List.mem_of_getElem? (i := 172) (by decide +kernel), List.mem_of_getElem? (i := 729) (by decide +kernel), List.mem_of_getElem? (i := 730) (by decide +kernel)⟩
theorem lw_p21 : lw_okq (⟨"PhotoModels$Relief", "closeIfOpen", "(I)V"⟩, 10) := ⟨⟨by decide +kernel, by decide +kernel⟩, List.mem_of_getElem? (i := 172) (by decide +kernel), List.mem_of_getElem? (i := 733) (by decide +kernel), List.mem_of_getElem? (i := 734) (by decide +kernel)⟩
theorem lw_p22 : lw_okq (⟨"PhotoModelsModel", "isCell", "(II)Z"⟩, 28) := ⟨⟨by decide +kernel, by decide +kernel⟩, List.mem_of_getElem? (i := 757) (by decide +kernel), List.mem_of_getElem? (i := 863) (by decide +kernel), List.mem_of_getElem? (i := 864) (by decide +kernel)⟩
theorem lw_p23 : lw_okq (⟨"PhotoModelsModel", "goes", "(ZZZ)Z"⟩, 28) := ⟨⟨by decide +kernel, by decide +kernel⟩, List.mem_of_getElem? (i := 757) (by decide +kernel), List.mem_of_getElem? (i := 867) (by decide +kernel), List.mem_of_getElem? (i := 868) (by decide +kernel)⟩
theorem lw_p24 : lw_okq (⟨"PhotoModelsModel", "valueOf", "(III)I"⟩, 28) := ⟨⟨by decide +kernel, by decide +kernel⟩, List.mem_of_getElem? (i := 757) (by decide +kernel), List.mem_of_getElem? (i := 871) (by decide +kernel), List.mem_of_getElem? (i := 872) (by decide +kernel)⟩
theorem lw_p25 : lw_okq (⟨"PhotoModelsModel", "missOf", "(IIIIII)I"⟩, 28) := ⟨⟨by decide +kernel, by decide +kernel⟩, List.mem_of_getElem? (i := 757) (by decide +kernel), List.mem_of_getElem? (i := 879) (by decide +kernel), List.mem_of_getElem? (i := 880) (by decide +kernel)⟩
theorem lw_p26 : lw_okq (⟨"PhotoModelsModel", "isPlace", "(I)Z"⟩, 28) := ⟨⟨by decide +kernel, by decide +kernel⟩, List.mem_of_getElem? (i := 757) (by decide +kernel), List.mem_of_getElem? (i := 898) (by decide +kernel), List.mem_of_getElem? (i := 899) (by decide +kernel)⟩
theorem lw_p27 : lw_okq (⟨"PhotoModelsModel", "isBoth", "(III)Z"⟩, 28) := ⟨⟨by decide +kernel, by decide +kernel⟩, List.mem_of_getElem? (i := 757) (by decide +kernel), List.mem_of_getElem? (i := 906) (by decide +kernel), List.mem_of_getElem? (i := 907) (by decide +kernel)⟩
theorem lw_p28 : lw_okq (⟨"PhotoModelsModel", "isSeen", "(II)Z"⟩, 28) := ⟨⟨by decide +kernel, by decide +kernel⟩, List.mem_of_getElem? (i := 757) (by decide +kernel), List.mem_of_getElem? (i := 910) (by decide +kernel), List.mem_of_getElem? (i := 911) (by decide +kernel)⟩
theorem lw_p29 : lw_okq (⟨"PhotoModelsModel", "drawn", "(I)I"⟩, 28) := ⟨⟨by decide +kernel, by decide +kernel⟩, List.mem_of_getElem? (i := 757) (by decide +kernel), List.mem_of_getElem? (i := 914) (by decide +kernel), List.mem_of_getElem? (i := 915) (by decide +kernel)⟩
theorem lw_p30 : lw_okq (⟨"PhotoModelsModel", "agreeing", "(IIII)I"⟩, 28) := ⟨⟨by decide +kernel, by decide +kernel⟩, List.mem_of_getElem? (i := 757) (by decide +kernel), List.mem_of_getElem? (i := 919) (by decide +kernel), List.mem_of_getElem? (i := 920) (by decide +kernel)⟩
theorem lw_p31 : lw_okq (⟨"PhotoModelsModel", "between", "(IIII)I"⟩, 28) := ⟨⟨by decide +kernel, by decide +kernel⟩, List.mem_of_getElem? (i := 757) (by decide +kernel), List.mem_of_getElem? (i := 923) (by decide +kernel), List.mem_of_getElem? (i := 924) (by decide +kernel)⟩
def lw_privs_2 : List (MethodName × Nat) := [(⟨"PhotoModels$Relief", "costAhead", "(IIII)I"⟩, 10), (⟨"PhotoModels$Relief", "traceBack", "(LPhotoModels$Photos;IIII)I"⟩, 10), (⟨"PhotoModels$Relief", "openAbove", "(I)V"⟩, 10), (⟨"PhotoModels$Relief", "marginedIndex", "(II)I"⟩, 10), (⟨"PhotoModels$Relief", "closeAround", "(I)V"⟩, 10), (⟨"PhotoModels$Relief", "closeIfOpen", "(I)V"⟩, 10), (⟨"PhotoModelsModel", "isCell", "(II)Z"⟩, 28), (⟨"PhotoModelsModel", "goes", "(ZZZ)Z"⟩, 28), (⟨"PhotoModelsModel", "valueOf", "(III)I"⟩, 28), (⟨"PhotoModelsModel", "missOf", "(IIIIII)I"⟩, 28), (⟨"PhotoModelsModel", "isPlace", "(I)Z"⟩, 28), (⟨"PhotoModelsModel", "isBoth", "(III)Z"⟩, 28), (⟨"PhotoModelsModel", "isSeen", "(II)Z"⟩, 28), (⟨"PhotoModelsModel", "drawn", "(I)I"⟩, 28), (⟨"PhotoModelsModel", "agreeing", "(IIII)I"⟩, 28), (⟨"PhotoModelsModel", "between", "(IIII)I"⟩, 28)]
theorem lw_r2 : ∀ q ∈ lw_privs_2, lw_okq q := List.forall_mem_cons.mpr ⟨lw_p16, List.forall_mem_cons.mpr ⟨lw_p17, List.forall_mem_cons.mpr ⟨lw_p18, List.forall_mem_cons.mpr ⟨lw_p19, List.forall_mem_cons.mpr ⟨lw_p20, List.forall_mem_cons.mpr ⟨lw_p21, List.forall_mem_cons.mpr ⟨lw_p22, List.forall_mem_cons.mpr ⟨lw_p23, List.forall_mem_cons.mpr ⟨lw_p24, List.forall_mem_cons.mpr ⟨lw_p25, List.forall_mem_cons.mpr ⟨lw_p26, List.forall_mem_cons.mpr ⟨lw_p27, List.forall_mem_cons.mpr ⟨lw_p28, List.forall_mem_cons.mpr ⟨lw_p29, List.forall_mem_cons.mpr ⟨lw_p30, List.forall_mem_cons.mpr ⟨lw_p31, fun _ h => absurd h List.not_mem_nil⟩⟩⟩⟩⟩⟩⟩⟩⟩⟩⟩⟩⟩⟩⟩⟩
theorem lw_p32 : lw_okq (⟨"PhotoModelsModel", "where", "(III)I"⟩, 28) := ⟨⟨by decide +kernel, by decide +kernel⟩, List.mem_of_getElem? (i := 757) (by decide +kernel), List.mem_of_getElem? (i := 927) (by decide +kernel), List.mem_of_getElem? (i := 928) (by decide +kernel)⟩
theorem lw_p33 : lw_okq (⟨"PhotoModelsModel", "begin", "()V"⟩, 28) := ⟨⟨by decide +kernel, by decide +kernel⟩, List.mem_of_getElem? (i := 757) (by decide +kernel), List.mem_of_getElem? (i := 943) (by decide +kernel), List.mem_of_getElem? (i := 944) (by decide +kernel)⟩
theorem lw_p34 : lw_okq (⟨"PhotoModelsModel", "put", "(II)V"⟩, 28) := ⟨⟨by decide +kernel, by decide +kernel⟩, List.mem_of_getElem? (i := 757) (by decide +kernel), List.mem_of_getElem? (i := 947) (by decide +kernel), List.mem_of_getElem? (i := 948) (by decide +kernel)⟩
theorem lw_p35 : lw_okq (⟨"PhotoModelsModel", "all", "()J"⟩, 28) := ⟨⟨by decide +kernel, by decide +kernel⟩, List.mem_of_getElem? (i := 757) (by decide +kernel), List.mem_of_getElem? (i := 954) (by decide +kernel), List.mem_of_getElem? (i := 955) (by decide +kernel)⟩
theorem lw_p36 : lw_okq (⟨"PhotoModelsModel", "missed", "(I)J"⟩, 28) := ⟨⟨by decide +kernel, by decide +kernel⟩, List.mem_of_getElem? (i := 757) (by decide +kernel), List.mem_of_getElem? (i := 958) (by decide +kernel), List.mem_of_getElem? (i := 959) (by decide +kernel)⟩
theorem lw_p37 : lw_okq (⟨"PhotoModelsModel", "round", "()V"⟩, 28) := ⟨⟨by decide +kernel, by decide +kernel⟩, List.mem_of_getElem? (i := 757) (by decide +kernel), List.mem_of_getElem? (i := 962) (by decide +kernel), List.mem_of_getElem? (i := 963) (by decide +kernel)⟩
theorem lw_p38 : lw_okq (⟨"PhotoModelsModel", "move", "(II)V"⟩, 28) := ⟨⟨by decide +kernel, by decide +kernel⟩, List.mem_of_getElem? (i := 757) (by decide +kernel), List.mem_of_getElem? (i := 966) (by decide +kernel), List.mem_of_getElem? (i := 967) (by decide +kernel)⟩
theorem lw_p39 : lw_okq (⟨"PhotoModelsModel", "costRow", "(IIII)V"⟩, 28) := ⟨⟨by decide +kernel, by decide +kernel⟩, List.mem_of_getElem? (i := 757) (by decide +kernel), List.mem_of_getElem? (i := 1006) (by decide +kernel), List.mem_of_getElem? (i := 1007) (by decide +kernel)⟩
theorem lw_p40 : lw_okq (⟨"PhotoModelsModel", "gap", "(IIIII)I"⟩, 28) := ⟨⟨by decide +kernel, by decide +kernel⟩, List.mem_of_getElem? (i := 757) (by decide +kernel), List.mem_of_getElem? (i := 1010) (by decide +kernel), List.mem_of_getElem? (i := 1011) (by decide +kernel)⟩
theorem lw_p41 : lw_okq (⟨"PhotoModelsModel", "trace", "(IIII)I"⟩, 28) := ⟨⟨by decide +kernel, by decide +kernel⟩, List.mem_of_getElem? (i := 757) (by decide +kernel), List.mem_of_getElem? (i := 1014) (by decide +kernel), List.mem_of_getElem? (i := 1015) (by decide +kernel)⟩
theorem lw_p42 : lw_okq (⟨"PhotoModelsModel", "close", "(I)V"⟩, 28) := ⟨⟨by decide +kernel, by decide +kernel⟩, List.mem_of_getElem? (i := 757) (by decide +kernel), List.mem_of_getElem? (i := 1026) (by decide +kernel), List.mem_of_getElem? (i := 1027) (by decide +kernel)⟩
theorem lw_p43 : lw_okq (⟨"PhotoModelsModel", "isOpen", "(II)Z"⟩, 28) := ⟨⟨by decide +kernel, by decide +kernel⟩, List.mem_of_getElem? (i := 757) (by decide +kernel), List.mem_of_getElem? (i := 1030) (by decide +kernel), List.mem_of_getElem? (i := 1031) (by decide +kernel)⟩
theorem lw_p44 : lw_okq (⟨"PhotoModelsModel", "mark", "(II)V"⟩, 28) := ⟨⟨by decide +kernel, by decide +kernel⟩, List.mem_of_getElem? (i := 757) (by decide +kernel), List.mem_of_getElem? (i := 1034) (by decide +kernel), List.mem_of_getElem? (i := 1035) (by decide +kernel)⟩
def lw_privs_3 : List (MethodName × Nat) := [(⟨"PhotoModelsModel", "where", "(III)I"⟩, 28), (⟨"PhotoModelsModel", "begin", "()V"⟩, 28), (⟨"PhotoModelsModel", "put", "(II)V"⟩, 28), (⟨"PhotoModelsModel", "all", "()J"⟩, 28), (⟨"PhotoModelsModel", "missed", "(I)J"⟩, 28), (⟨"PhotoModelsModel", "round", "()V"⟩, 28), (⟨"PhotoModelsModel", "move", "(II)V"⟩, 28), (⟨"PhotoModelsModel", "costRow", "(IIII)V"⟩, 28), (⟨"PhotoModelsModel", "gap", "(IIIII)I"⟩, 28), (⟨"PhotoModelsModel", "trace", "(IIII)I"⟩, 28), (⟨"PhotoModelsModel", "close", "(I)V"⟩, 28), (⟨"PhotoModelsModel", "isOpen", "(II)Z"⟩, 28), (⟨"PhotoModelsModel", "mark", "(II)V"⟩, 28)]
theorem lw_r3 : ∀ q ∈ lw_privs_3, lw_okq q := List.forall_mem_cons.mpr ⟨lw_p32, List.forall_mem_cons.mpr ⟨lw_p33, List.forall_mem_cons.mpr ⟨lw_p34, List.forall_mem_cons.mpr ⟨lw_p35, List.forall_mem_cons.mpr ⟨lw_p36, List.forall_mem_cons.mpr ⟨lw_p37, List.forall_mem_cons.mpr ⟨lw_p38, List.forall_mem_cons.mpr ⟨lw_p39, List.forall_mem_cons.mpr ⟨lw_p40, List.forall_mem_cons.mpr ⟨lw_p41, List.forall_mem_cons.mpr ⟨lw_p42, List.forall_mem_cons.mpr ⟨lw_p43, List.forall_mem_cons.mpr ⟨lw_p44, fun _ h => absurd h List.not_mem_nil⟩⟩⟩⟩⟩⟩⟩⟩⟩⟩⟩⟩⟩
def lw_privs : List (MethodName × Nat) := lw_privs_1 ++ (lw_privs_2 ++ (lw_privs_3))
def lw_tbl : List Cond := k2_sels lw_privs ++ tables_1
theorem lw_privs_ok : ∀ q ∈ lw_privs, lw_okq q := by
  show ∀ q ∈ lw_privs_1 ++ (lw_privs_2 ++ (lw_privs_3)), lw_okq q
  exact List.forall_mem_append.mpr ⟨lw_r1, List.forall_mem_append.mpr ⟨lw_r2, lw_r3⟩⟩
/-! names: out of the Statement, by program (gen01.py) -/
def okW (w : Cond) : Bool := match w with
  | .methodLinkNest .. => true
  | .stringRef .. => true
  | .declares _ => true
  | .castable .. => true
  | w => goodWord w
theorem okW_at {w : Cond} (ho : okW w = true) {s U : State} (hW : s.WarmedH U.vm) {A A9 : Array Value} (h : w.before A s = true) : w.before A9 U = true := by
  unfold okW at ho
  split at ho
  · exact va_Nw.use rfl (va_Nw.warmM hW (va_Nw.of rfl h))
  · have h1 := Cond.stringRef_warmed hW h
    first
      | exact va_tabs rfl rfl h1
      | (simp only [Cond.before, Cond.holds, Cond.value, State.names, State.poolOf?, State.resolvedAt?] at h1 ⊢; exact h1)
  · have h1 := Cond.before_shiftedFace (State.Shifted.of_warmed hW) _ rfl h
    first
      | exact h1
      | exact va_tabs rfl rfl h1
  · have h1 := Cond.before_shiftedFace (State.Shifted.of_warmed hW) _ rfl h
    first
      | exact h1
      | exact va_tabs rfl rfl h1
  · exact word_at hW (good_of_word ho) h
def tw : List Cond := lw_tbl.filter okW
theorem tw_good (w : Cond) (h : w ∈ tw) : okW w = true := (List.mem_filter.mp h).2
theorem tw_sub (w : Cond) (h : w ∈ tw) : w ∈ lw_tbl := (List.mem_filter.mp h).1
theorem twi {w : Cond} (h : (decide (w ∈ lw_tbl) && okW w) = true) : w ∈ tw := by
  simp only [Bool.and_eq_true, decide_eq_true_eq] at h
  exact List.mem_filter.mpr h
theorem tx1 {w : Cond} (i : Nat) (h : tables_1_1[i]? = some w) (hg : okW w = true) : w ∈ tw := List.mem_filter.mpr ⟨List.mem_append_right _ (List.mem_append_left _ (List.mem_of_getElem? h)), hg⟩
theorem tx2 {w : Cond} (i : Nat) (h : tables_1_2[i]? = some w) (hg : okW w = true) : w ∈ tw := List.mem_filter.mpr ⟨List.mem_append_right _ (List.mem_append_right _ (List.mem_append_left _ (List.mem_of_getElem? h))), hg⟩
theorem tx3 {w : Cond} (i : Nat) (h : tables_1_3[i]? = some w) (hg : okW w = true) : w ∈ tw := List.mem_filter.mpr ⟨List.mem_append_right _ (List.mem_append_right _ (List.mem_append_right _ (List.mem_append_left _ (List.mem_of_getElem? h)))), hg⟩
theorem tx4 {w : Cond} (i : Nat) (h : tables_1_4[i]? = some w) (hg : okW w = true) : w ∈ tw := List.mem_filter.mpr ⟨List.mem_append_right _ (List.mem_append_right _ (List.mem_append_right _ (List.mem_append_right _ (List.mem_append_left _ (List.mem_of_getElem? h))))), hg⟩
theorem tx5 {w : Cond} (i : Nat) (h : tables_1_5[i]? = some w) (hg : okW w = true) : w ∈ tw := List.mem_filter.mpr ⟨List.mem_append_right _ (List.mem_append_right _ (List.mem_append_right _ (List.mem_append_right _ (List.mem_append_right _ (List.mem_of_getElem? h))))), hg⟩
theorem twp {w : Cond} (i : Nat) (h : (k2_sels lw_privs)[i]? = some w) (hg : okW w = true) : w ∈ tw := List.mem_filter.mpr ⟨List.mem_append_left _ (List.mem_of_getElem? h), hg⟩
theorem twis {ws : List Cond} (h : ws.all (fun w => decide (w ∈ lw_tbl) && okW w) = true) : ∀ w ∈ ws, w ∈ tw := fun w hw => twi (List.all_eq_true.mp h w hw)
def R_Ad : String := "PhotoModels$Adjustment"
def F_Ad : u_T := fun k => match k with
  | 0 => ("PhotoModels$Adjustment", "positions", "[I", true)
  | 1 => ("PhotoModels$Adjustment", "offsets", "[I", true)
  | 2 => ("PhotoModels$Adjustment", "positionsBefore", "[I", true)
  | _ => ("PhotoModels$Adjustment", "offsetsBefore", "[I", true)
def t_Ad : Nat → FieldType := fun k => match k with
  | 0 => .array .int
  | 1 => .array .int
  | 2 => .array .int
  | _ => .array .int
theorem n_Ad : ∀ a, a < 4 → ∀ b, b < 4 → a ≠ b → (F_Ad a).2.1 ≠ (F_Ad b).2.1 := by decide +kernel
theorem t_Ad_ok : ∀ k, k < 4 → parseFieldDescriptor (F_Ad k).2.2.1 = some (t_Ad k) := by decide +kernel
theorem i_Ad : ∀ w ∈ u_ws R_Ad F_Ad 4, w ∈ tw := twis (by decide +kernel)
def R_Ag : String := "PhotoModels$Agreement"
def F_Ag : u_T := fun k => match k with
  | 0 => ("PhotoModels$Agreement", "seed", "I", true)
  | 1 => ("PhotoModels$Agreement", "shiftX", "[I", true)
  | 2 => ("PhotoModels$Agreement", "shiftY", "[I", true)
  | 3 => ("PhotoModels$Agreement", "number", "I", false)
  | 4 => ("PhotoModels$Agreement", "reached", "Z", false)
  | 5 => ("PhotoModels$Agreement", "bestX", "I", false)
  | _ => ("PhotoModels$Agreement", "bestY", "I", false)
def t_Ag : Nat → FieldType := fun k => match k with
  | 0 => .int
  | 1 => .array .int
  | 2 => .array .int
  | 3 => .int
  | 4 => .boolean
  | 5 => .int
  | _ => .int
theorem n_Ag : ∀ a, a < 7 → ∀ b, b < 7 → a ≠ b → (F_Ag a).2.1 ≠ (F_Ag b).2.1 := by decide +kernel
theorem t_Ag_ok : ∀ k, k < 7 → parseFieldDescriptor (F_Ag k).2.2.1 = some (t_Ag k) := by decide +kernel
theorem i_Ag : ∀ w ∈ u_ws R_Ag F_Ag 7, w ∈ tw := twis (by decide +kernel)
def R_Le : String := "PhotoModels$Lengths"
def F_Le : u_T := fun k => match k with
  | 0 => ("PhotoModels$Lengths", "from", "[I", true)
  | 1 => ("PhotoModels$Lengths", "to", "[I", true)
  | 2 => ("PhotoModels$Lengths", "length", "[I", true)
  | _ => ("PhotoModels$Lengths", "number", "I", false)
def t_Le : Nat → FieldType := fun k => match k with
  | 0 => .array .int
  | 1 => .array .int
  | 2 => .array .int
  | _ => .int
theorem n_Le : ∀ a, a < 4 → ∀ b, b < 4 → a ≠ b → (F_Le a).2.1 ≠ (F_Le b).2.1 := by decide +kernel
theorem t_Le_ok : ∀ k, k < 4 → parseFieldDescriptor (F_Le k).2.2.1 = some (t_Le k) := by decide +kernel
theorem i_Le : ∀ w ∈ u_ws R_Le F_Le 4, w ∈ tw := twis (by decide +kernel)
def R_Ph : String := "PhotoModels$Photos"
def F_Ph : u_T := fun k => match k with
  | 0 => ("PhotoModels$Photos", "width", "I", true)
  | 1 => ("PhotoModels$Photos", "height", "I", true)
  | _ => ("PhotoModels$Photos", "values", "[I", true)
def t_Ph : Nat → FieldType := fun k => match k with
  | 0 => .int
  | 1 => .int
  | _ => .array .int
theorem n_Ph : ∀ a, a < 3 → ∀ b, b < 3 → a ≠ b → (F_Ph a).2.1 ≠ (F_Ph b).2.1 := by decide +kernel
theorem t_Ph_ok : ∀ k, k < 3 → parseFieldDescriptor (F_Ph k).2.2.1 = some (t_Ph k) := by decide +kernel
theorem i_Ph : ∀ w ∈ u_ws R_Ph F_Ph 3, w ∈ tw := twis (by decide +kernel)
def R_Pl : String := "PhotoModels$Places"
def F_Pl : u_T := fun k => match k with
  | 0 => ("PhotoModels$Places", "aside", "[Z", true)
  | 1 => ("PhotoModels$Places", "noted", "[Z", true)
  | 2 => ("PhotoModels$Places", "where", "[I", true)
  | 3 => ("PhotoModels$Places", "number", "I", false)
  | _ => ("PhotoModels$Places", "spares", "I", false)
def t_Pl : Nat → FieldType := fun k => match k with
  | 0 => .array .boolean
  | 1 => .array .boolean
  | 2 => .array .int
  | 3 => .int
  | _ => .int
theorem n_Pl : ∀ a, a < 5 → ∀ b, b < 5 → a ≠ b → (F_Pl a).2.1 ≠ (F_Pl b).2.1 := by decide +kernel
theorem t_Pl_ok : ∀ k, k < 5 → parseFieldDescriptor (F_Pl k).2.2.1 = some (t_Pl k) := by decide +kernel
theorem i_Pl : ∀ w ∈ u_ws R_Pl F_Pl 5, w ∈ tw := twis (by decide +kernel)
def R_Re : String := "PhotoModels$Relief"
def F_Re : u_T := fun k => match k with
  | 0 => ("PhotoModels$Relief", "width", "I", true)
  | 1 => ("PhotoModels$Relief", "height", "I", true)
  | 2 => ("PhotoModels$Relief", "depths", "[I", true)
  | 3 => ("PhotoModels$Relief", "differences", "[I", true)
  | 4 => ("PhotoModels$Relief", "costs", "[I", true)
  | 5 => ("PhotoModels$Relief", "margined", "I", true)
  | 6 => ("PhotoModels$Relief", "open", "[Z", true)
  | 7 => ("PhotoModels$Relief", "queue", "[I", true)
  | 8 => ("PhotoModels$Relief", "queued", "I", false)
  | _ => ("PhotoModels$Relief", "raised", "Z", false)
def t_Re : Nat → FieldType := fun k => match k with
  | 0 => .int
  | 1 => .int
  | 2 => .array .int
  | 3 => .array .int
  | 4 => .array .int
  | 5 => .int
  | 6 => .array .boolean
  | 7 => .array .int
  | 8 => .int
  | _ => .boolean
theorem n_Re : ∀ a, a < 10 → ∀ b, b < 10 → a ≠ b → (F_Re a).2.1 ≠ (F_Re b).2.1 := by decide +kernel
theorem t_Re_ok : ∀ k, k < 10 → parseFieldDescriptor (F_Re k).2.2.1 = some (t_Re k) := by decide +kernel
theorem i_Re : ∀ w ∈ u_ws R_Re F_Re 10, w ∈ tw := twis (by decide +kernel)
def R_Se : String := "PhotoModels$Search"
def F_Se : u_T := fun k => match k with
  | 0 => ("PhotoModels$Search", "width", "I", true)
  | 1 => ("PhotoModels$Search", "height", "I", true)
  | 2 => ("PhotoModels$Search", "misses", "[I", true)
  | 3 => ("PhotoModels$Search", "done", "Z", false)
  | 4 => ("PhotoModels$Search", "foundX", "I", false)
  | 5 => ("PhotoModels$Search", "foundY", "I", false)
  | _ => ("PhotoModels$Search", "leastElsewhere", "I", false)
def t_Se : Nat → FieldType := fun k => match k with
  | 0 => .int
  | 1 => .int
  | 2 => .array .int
  | 3 => .boolean
  | 4 => .int
  | 5 => .int
  | _ => .int
theorem n_Se : ∀ a, a < 7 → ∀ b, b < 7 → a ≠ b → (F_Se a).2.1 ≠ (F_Se b).2.1 := by decide +kernel
theorem t_Se_ok : ∀ k, k < 7 → parseFieldDescriptor (F_Se k).2.2.1 = some (t_Se k) := by decide +kernel
theorem i_Se : ∀ w ∈ u_ws R_Se F_Se 7, w ∈ tw := twis (by decide +kernel)
def R_Pm : String := "PhotoModels"
def F_Pm : u_T := fun k => match k with
  | 0 => ("PhotoModels", "photos", "LPhotoModels$Photos;", true)
  | 1 => ("PhotoModels", "search", "LPhotoModels$Search;", true)
  | 2 => ("PhotoModels", "places", "LPhotoModels$Places;", true)
  | 3 => ("PhotoModels", "agreement", "LPhotoModels$Agreement;", true)
  | 4 => ("PhotoModels", "adjustment", "LPhotoModels$Adjustment;", true)
  | 5 => ("PhotoModels", "lengths", "LPhotoModels$Lengths;", true)
  | _ => ("PhotoModels", "relief", "LPhotoModels$Relief;", true)
def t_Pm : Nat → FieldType := fun k => match k with
  | 0 => .object "PhotoModels$Photos"
  | 1 => .object "PhotoModels$Search"
  | 2 => .object "PhotoModels$Places"
  | 3 => .object "PhotoModels$Agreement"
  | 4 => .object "PhotoModels$Adjustment"
  | 5 => .object "PhotoModels$Lengths"
  | _ => .object "PhotoModels$Relief"
theorem n_Pm : ∀ a, a < 7 → ∀ b, b < 7 → a ≠ b → (F_Pm a).2.1 ≠ (F_Pm b).2.1 := by decide +kernel
theorem t_Pm_ok : ∀ k, k < 7 → parseFieldDescriptor (F_Pm k).2.2.1 = some (t_Pm k) := by decide +kernel
theorem i_Pm : ∀ w ∈ u_ws R_Pm F_Pm 7, w ∈ tw := twis (by decide +kernel)
def R_Mo : String := "PhotoModelsModel"
def F_Mo : u_T := fun k => match k with
  | 0 => ("PhotoModelsModel", "thrown", "I", false)
  | 1 => ("PhotoModelsModel", "width", "I", true)
  | 2 => ("PhotoModelsModel", "height", "I", true)
  | 3 => ("PhotoModelsModel", "seed", "I", true)
  | 4 => ("PhotoModelsModel", "values", "[I", true)
  | 5 => ("PhotoModelsModel", "matched", "Z", false)
  | 6 => ("PhotoModelsModel", "match", "[I", true)
  | 7 => ("PhotoModelsModel", "places", "I", false)
  | 8 => ("PhotoModelsModel", "seenX", "[I", true)
  | 9 => ("PhotoModelsModel", "seenY", "[I", true)
  | 10 => ("PhotoModelsModel", "spares", "[Z", true)
  | 11 => ("PhotoModelsModel", "positions", "[I", true)
  | 12 => ("PhotoModelsModel", "offsets", "[I", true)
  | 13 => ("PhotoModelsModel", "keptPositions", "[I", true)
  | 14 => ("PhotoModelsModel", "keptOffsets", "[I", true)
  | 15 => ("PhotoModelsModel", "shifted", "Z", false)
  | 16 => ("PhotoModelsModel", "shiftX", "I", false)
  | 17 => ("PhotoModelsModel", "shiftY", "I", false)
  | 18 => ("PhotoModelsModel", "lengths", "I", false)
  | 19 => ("PhotoModelsModel", "ones", "[I", true)
  | 20 => ("PhotoModelsModel", "others", "[I", true)
  | 21 => ("PhotoModelsModel", "known", "[I", true)
  | 22 => ("PhotoModelsModel", "high", "Z", false)
  | 23 => ("PhotoModelsModel", "depths", "[I", true)
  | 24 => ("PhotoModelsModel", "differs", "[I", true)
  | 25 => ("PhotoModelsModel", "costs", "[I", true)
  | 26 => ("PhotoModelsModel", "open", "[Z", true)
  | _ => ("PhotoModelsModel", "marks", "[Z", true)
def t_Mo : Nat → FieldType := fun k => match k with
  | 0 => .int
  | 1 => .int
  | 2 => .int
  | 3 => .int
  | 4 => .array .int
  | 5 => .boolean
  | 6 => .array .int
  | 7 => .int
  | 8 => .array .int
  | 9 => .array .int
  | 10 => .array .boolean
  | 11 => .array .int
  | 12 => .array .int
  | 13 => .array .int
  | 14 => .array .int
  | 15 => .boolean
  | 16 => .int
  | 17 => .int
  | 18 => .int
  | 19 => .array .int
  | 20 => .array .int
  | 21 => .array .int
  | 22 => .boolean
  | 23 => .array .int
  | 24 => .array .int
  | 25 => .array .int
  | 26 => .array .boolean
  | _ => .array .boolean
theorem n_Mo : ∀ a, a < 28 → ∀ b, b < 28 → a ≠ b → (F_Mo a).2.1 ≠ (F_Mo b).2.1 := by decide +kernel
theorem t_Mo_ok : ∀ k, k < 28 → parseFieldDescriptor (F_Mo k).2.2.1 = some (t_Mo k) := by decide +kernel
theorem i_Mo : ∀ w ∈ u_ws R_Mo F_Mo 28, w ∈ tw := twis (by decide +kernel)
def R_La : String := "PhotoModelsLaw"
def F_exc : u_T := fun _ => ("", "", "", false)
abbrev cls : List vw_C := [(R_Ad, F_Ad, 4), (R_Ag, F_Ag, 7), (R_Le, F_Le, 4), (R_Ph, F_Ph, 3), (R_Pl, F_Pl, 5), (R_Re, F_Re, 10), (R_Se, F_Se, 7), (R_Pm, F_Pm, 7), (R_Mo, F_Mo, 28), ("java/lang/IndexOutOfBoundsException", F_exc, 0), ("java/lang/IllegalArgumentException", F_exc, 0), ("java/lang/IllegalStateException", F_exc, 0)]
def csz : Nat → Nat
  | 0 => 4
  | 1 => 7
  | 2 => 4
  | 3 => 3
  | 4 => 5
  | 5 => 10
  | 6 => 7
  | 7 => 7
  | 8 => 28
  | 9 => 6
  | 10 => 6
  | 11 => 6
  | _ => 0
end
section
/-! A RUN'S PICTURE. The cells that the run has made are a list h (its k-th cell lies at the address b + k); a virtual reference .ref (k + 1) means the k-th of them, .ref 0 the law's script. -/
abbrev Gb : Type := Nat × Nat × Nat × (Nat → Int32) × va_G × (FieldType → ClassId)
abbrev Gb.b (G : Gb) : Nat := G.1
abbrev Gb.scr (G : Gb) : Nat := G.2.1
abbrev Gb.L (G : Gb) : Nat := G.2.2.1
abbrev Gb.xs (G : Gb) : Nat → Int32 := G.2.2.2.1
abbrev Gb.D (G : Gb) : va_G := G.2.2.2.2.1
abbrev Gb.dA (G : Gb) : FieldType → ClassId := G.2.2.2.2.2
/-- a virtual value as a real one -/
def sv (G : Gb) : Value → Value
  | .ref 0 => .ref G.scr
  | .ref (k + 1) => .ref (G.b + k)
  | v => v
theorem sv_cat (G : Gb) (v : Value) : (sv G v).category = v.category := by
  cases v with
  | ref a => cases a <;> rfl
  | _ => rfl
/-- a cell: an array (component type, length, contents), or an object (its class's number, its fields) -/
abbrev Ce : Type := (FieldType × vp_A) ⊕ (Nat × List Value)
def cv (G : Gb) : Ce → va_E
  | .inl q => .inl (G.dA q.1, q.2)
  | .inr q => .inr (q.1, q.2.map (sv G))
def sl1 : Ce → Nat
  | .inl q => q.2.1
  | .inr q => csz q.1
def sl : List Ce → Nat
  | [] => 0
  | c :: t => sl1 c + sl t
theorem sl_app : ∀ (a b : List Ce), sl (a ++ b) = sl a + sl b
  | [], b => by simp [sl]
  | c :: t, b => by simp [sl, sl_app t b]; omega
theorem sl_set : ∀ (h : List Ce) (k : Nat) (c c' : Ce), h[k]? = some c → sl1 c' = sl1 c → sl (h.set k c') = sl h
  | [], k, c, c', hk, _ => by simp at hk
  | a :: t, 0, c, c', hk, e => by simp at hk; subst hk; simp [sl, e]
  | a :: t, k + 1, c, c', hk, e => by simp at hk; simp [sl, sl_set t k c c' hk e]
/-- the list as a world of the kit -/
def wl (G : Gb) (h : List Ce) : va_W := h.mapIdx (fun k c => (G.b + k, cv G c))
theorem wl_at {G : Gb} {h : List Ce} {k : Nat} {c : Ce} (hk : h[k]? = some c) : (wl G h)[k]? = some (G.b + k, cv G c) := by
  simp [wl, hk]
theorem wl_of {G : Gb} {h : List Ce} {k : Nat} {q : Nat × va_E} (hq : (wl G h)[k]? = some q) : ∃ c, h[k]? = some c ∧ q = (G.b + k, cv G c) := by
  simp only [wl, List.getElem?_mapIdx, Option.map_eq_some_iff] at hq
  obtain ⟨c, h1, h2⟩ := hq
  exact ⟨c, h1, h2.symm⟩
theorem wl_set (G : Gb) (h : List Ce) (k : Nat) (c : Ce) : (wl G h).set k (G.b + k, cv G c) = wl G (h.set k c) := by
  apply List.ext_getElem?
  intro i
  simp only [wl, List.getElem?_mapIdx, List.getElem?_set, List.length_mapIdx]
  by_cases e : k = i
  · subst e
    by_cases hl : k < h.length
    · simp [hl]
    · simp [hl]
  · simp [e]
theorem wl_push (G : Gb) (h : List Ce) (c : Ce) : wl G h ++ [(G.b + h.length, cv G c)] = wl G (h ++ [c]) := by
  simp [wl, List.mapIdx_append]
/-- what the run may write -/
abbrev Ar (G : Gb) : Nat → Prop := fun q => G.b ≤ q
theorem wl_D (G : Gb) (h : List Ce) : va_D (Ar G) (wl G h) := by
  refine ⟨fun i j p q hp hq e => ?_, fun k q hq => ?_⟩
  · obtain ⟨c, -, rfl⟩ := wl_of hp
    obtain ⟨d, -, rfl⟩ := wl_of hq
    have : G.b + i = G.b + j := e
    omega
  · obtain ⟨c, -, rfl⟩ := wl_of hq
    exact Nat.le_add_right _ _
/-- a method: its name, code, how many locals, its answer's type, the frames and words that its calls need, its handlers -/
abbrev Kt : Type := MethodName × ByteArray × Nat × Option FieldType × Nat × Nat × List (Nat × Nat × Nat × Nat)
abbrev Kt.y (K : Kt) : MethodName := K.1
abbrev Kt.code (K : Kt) : ByteArray := K.2.1
abbrev Kt.maxL (K : Kt) : Nat := K.2.2.1
abbrev Kt.ret (K : Kt) : Option FieldType := K.2.2.2.1
abbrev Kt.fr (K : Kt) : Nat := K.2.2.2.2.1
abbrev Kt.lo (K : Kt) : Nat := K.2.2.2.2.2.1
abbrev Kt.hd (K : Kt) : List (Nat × Nat × Nat × Nat) := K.2.2.2.2.2.2
def Kt.w (K : Kt) : Cond := match K.hd with
  | [] => .code K.y K.code K.maxL K.ret
  | hs => .codeWith K.y K.code K.maxL K.ret hs
abbrev tyl (G : Gb) : List (ClassId × FieldType) := [(G.dA .int, .int), (G.dA .boolean, .boolean), (G.dA .long, .long)]
def hdl (c : Code) : List (Nat × Nat × Nat × Nat) := c.exceptionTable.toList.map (fun h => (h.startPc, h.endPc, h.handlerPc, h.catchType))
/-- the words on the JDK's two statics that a new Throwable reads: they look at one cell, which the run doesn't write -/
def evw : List Cond := [.laysStatic "java/lang/Throwable" "UNASSIGNED_STACK" "[Ljava/lang/StackTraceElement;", .laysStatic "java/lang/Throwable" "SUPPRESSED_SENTINEL" "Ljava/util/List;", .isRef (.static "java/lang/Throwable" "UNASSIGNED_STACK" "[Ljava/lang/StackTraceElement;"), .isRef (.static "java/lang/Throwable" "SUPPRESSED_SENTINEL" "Ljava/util/List;")]
def EvS (G : Gb) (U : State) (H : Heap) : Prop := ∃ (aS : Nat) (cell : Cell), aS < G.b ∧ H[aS]? = some cell ∧ ∀ (S : State) (A : Array Value), U.WarmedH S.vm → S.heap[aS]? = some cell → ∀ w ∈ evw, w.before A S = true
/-- .. and that the exceptions' classes are apart -/
def Ev (G : Gb) (U : State) (H : Heap) : Prop := EvS G U H ∧ va_Nc "java/lang/IllegalArgumentException" "java/lang/IndexOutOfBoundsException" U ∧ va_Nc "java/lang/IllegalStateException" "java/lang/IndexOutOfBoundsException" U ∧ va_Nc "java/lang/IllegalStateException" "java/lang/IllegalArgumentException" U
theorem Ev.moved {G : Gb} {u U : State} {H : Heap} (hvm : u.WarmedH U.vm) (h : Ev G u H) : Ev G U H := by
  obtain ⟨⟨aS, cell, h1, h2, h3⟩, n1, n2, n3⟩ := h
  exact ⟨⟨aS, cell, h1, h2, fun S A hW => h3 S A (State.WarmedH.trans hvm hW)⟩, n1.moved hvm.alike, n2.moved hvm.alike, n3.moved hvm.alike⟩
theorem Ev.kept {G : Gb} {U : State} {H H1 : Heap} (h : Ev G U H) (hq : ∀ a : Nat, a < H.size → ¬ Ar G a → H1[a]? = H[a]?) : Ev G U H1 := by
  obtain ⟨⟨aS, cell, h1, h2, h3⟩, n⟩ := h
  exact ⟨⟨aS, cell, h1, by rw [hq aS (Array.getElem?_eq_some_iff.mp h2).1 (Nat.not_le.mpr h1)]; exact h2, h3⟩, n⟩
theorem Ev.use {G : Gb} {U : State} (h : Ev G U U.heap) {A : Array Value} {w : Cond} (hw : w ∈ evw) : w.before A U = true := by
  obtain ⟨⟨aS, cell, h1, h2, h3⟩, n⟩ := h
  exact h3 U A (State.WarmedH.refl U) h2 w hw
/-- what holds in a method all the while -/
def Cx (G : Gb) (K : Kt) (p : Program) (s : State) (m : MethodId) (args : Array Value) (meth : Method) (c : Code) : Prop :=
  p.tables.exec = Jvm.exec ∧ c.code = K.code ∧ c.maxLocals = K.maxL ∧ meth.sig.returnType = K.ret ∧ meth.locks = false ∧ s.vm.findClass K.y.cls = some m.cls ∧ meth.name = K.y.name ∧ hdl c = K.hd ∧ (∀ w ∈ tw, w.before args s = true) ∧ va_K G.D cls (tyl G) s ∧ Ev G s s.heap ∧ va_X G.scr G.L G.xs s s.heap ∧ G.scr < G.b ∧ G.b ≤ s.heap.size
/-- how a call ends: with an answer, or with the cell that it threw -/
abbrev Rs : Type := Option Value ⊕ Nat
def oc (G : Gb) : Rs → Outcome
  | .inl v => .returned (v.map (sv G))
  | .inr a => .threw (G.b + a)
def Fin' (G : Gb) (below : List Frame) (s : State) (h0 : List Ce) (r : Rs) (h' : List Ce) : State → Prop := fun t =>
  t.status = .running ∧ Ended t below (oc G r) ∧ va_P G.D cls (wl G h') t.heap ∧ s.WarmedH t.vm ∧ ∃ Ls, s.sameButNew ({ t with vm := s.vm } : State) Ls (h'.length - h0.length) (sl h' - sl h0) ∧ ∀ q ∈ Ls, G.b ≤ q.base
def rmK (K : Kt) (h0 h' : List Ce) : Room := { frames := K.fr, cells := h'.length - h0.length, slots := sl h' - sl h0, locals := K.lo }
abbrev mv (G : Gb) (ls : List (Nat × Value)) : List (Nat × Value) := ls.map (fun q => (q.1, sv G q.2))
/-- FROM HERE the method K, begun with the cells h0, ends with r and the cells h' -/
def V (l : Launch) (G : Gb) (K : Kt) (h0 : List Ce) (pc : Nat) (ls : List (Nat × Value)) (st : List Value) (h : List Ce) (r : Rs) (h' : List Ce) : Prop :=
  h.length ≤ h'.length ∧ sl h ≤ sl h' ∧ ∀ {p : Program} {e : Env} {s : State} {m : MethodId} {args : Array Value} {below : List Frame} {meth : Method} {c : Code} {H : Heap} {locs : List Loc} {lsA : Array Slot},
    Cx G K p s m args meth c → va_P G.D cls (wl G h) H → s.heap.size = G.b + h0.length → h0.length ≤ h.length → sl h0 ≤ sl h → va_S (Ar G) s.heap H locs → lv_has lsA K.maxL (mv G ls) →
    W p l e (rmK K h0 h') s m args below meth c H locs (h.length - h0.length) (sl h - sl h0) (Fin' G below s h0 r h') (F0 m pc lsA (st.map (sv G)))
/-- THE METHOD K, called with vs where the cells are h, ends with r and the cells h' -/
def Do (l : Launch) (G : Gb) (K : Kt) (vs : List Value) (h : List Ce) (r : Rs) (h' : List Ce) : Prop :=
  h.length ≤ h'.length ∧ sl h ≤ sl h' ∧ MetFree l K.y (headSpec (K.w :: tw) (rmK K h h'))
    (fun a U => a = (vs.map (sv G)).toArray ∧ va_P G.D cls (wl G h) U.heap ∧ U.heap.size = G.b + h.length ∧ va_X G.scr G.L G.xs U U.heap ∧ G.scr < G.b ∧ va_K G.D cls (tyl G) U ∧ Ev G U U.heap) (fun _ _ _ _ _ => True)
    (fun _ st o t => o = oc G r ∧ va_P G.D cls (wl G h') t.heap ∧ st.WarmedH t.vm ∧ ∃ Ls, st.sameButNew ({ t with vm := st.vm } : State) Ls (h'.length - h.length) (sl h' - sl h) ∧ ∀ q ∈ Ls, G.b ≤ q.base)
theorem W.mono {p : Program} {l : Launch} {e : Env} {R : Room} {s : State} {m : MethodId} {args : Array Value} {below : List Frame} {meth : Method} {c : Code} {H : Heap} {locs : List Loc} {cells slots : Nat} {Q Q' : State → Prop} {g : JFrame} (h : ∀ t, Q t → Q' t) (w : W p l e R s m args below meth c H locs cells slots Q g) : W p l e R s m args below meth c H locs cells slots Q' g := fun T hT X => by
  obtain ⟨t, a, b⟩ := w T hT X
  exact ⟨t, a, h t b⟩
theorem lv_args_mv (G : Gb) : ∀ (vs : List Value) (i : Nat), lv_args i (vs.map (sv G)) = mv G (lv_args i vs)
  | [], _ => rfl
  | v :: vs, i => by
    show (i, sv G v) :: lv_args (if (sv G v).category = 2 then i + 2 else i + 1) (vs.map (sv G)) = (i, sv G v) :: mv G (lv_args (if v.category = 2 then i + 2 else i + 1) vs)
    rw [sv_cat, lv_args_mv G vs]
theorem lg_sl_mv (G : Gb) : ∀ vs : List Value, (lg_sl (vs.map (sv G))).length = (lg_sl vs).length
  | [] => rfl
  | v :: vs => by
    have e := lg_sl_mv G vs
    simp only [lg_sl, List.map_cons, List.flatMap_cons, List.length_append, sv_cat] at e ⊢
    rw [e]
    by_cases h : v.category = 2 <;> simp [h]
/-- a method's contract out of its walk -/
theorem Do.of {l : Launch} {G : Gb} {K : Kt} {vs : List Value} {h : List Ce} {r : Rs} {h' : List Ce} (hy : plainName K.y.cls = true) (hn : (lg_sl vs).length ≤ K.maxL) (hw : K.w ∈ tw) (kk : V l G K h 0 (lv_args 0 vs) [] h r h') : Do l G K vs h r h' := by
  refine ⟨kk.1, kk.2.1, MetFree.of_bodyS (code := K.code) (maxLocals := K.maxL) (ret := K.ret) hy ?_ ?_⟩
  · intro args s m hp hnm
    have hk := atoms_spec (ws := K.w :: tw) hp _ List.mem_cons_self
    obtain ⟨y, code, maxL, ret, fr, lo, hd⟩ := K
    cases hd with
    | nil =>
      obtain ⟨meth, c, h1, h2, h3, h4, h5, h6, -, -⟩ := Cond.code_spec hnm hk
      exact ⟨meth, c, h1, h2, h3, h4, h5, h6⟩
    | cons q t =>
      obtain ⟨m', meth, c, hn', h1, h2, h3, h4, -, h5, h6, -⟩ := Cond.codeWith_spec hk
      cases hnm.symm.trans hn'
      exact ⟨meth, c, h1, h2, h3, h4, h5, h6⟩
  · intro p e s m args below meth c s₁ B hml hP _
    obtain ⟨rfl, hP, hz, hX, hb, hK, hE⟩ := hP
    have hh0 : s₁.heap = s.heap := by rw [B.state]; rfl
    have hall := atoms_spec (ws := K.w :: tw) B.pre
    have hcode : meth.code = some c := (Stand.of_body B).code
    have hdl' : hdl c = K.hd := by
      have hk := hall _ List.mem_cons_self
      obtain ⟨y, code, maxL, ret, fr, lo, hd⟩ := K
      cases hd with
      | nil =>
        obtain ⟨meth', c', h1, h2, h3, h4, h5, h6, h7, -⟩ := Cond.code_spec B.named hk
        cases B.method.symm.trans h1
        cases hcode.symm.trans h2
        have : c.exceptionTable.toList = [] := by simpa using h7
        simp [hdl, this]
      | cons q t =>
        obtain ⟨m', meth', c', hn', h1, h2, h3, h4, h5, -, -, -⟩ := Cond.codeWith_spec hk
        cases B.named.symm.trans hn'
        cases B.method.symm.trans h1
        cases hcode.symm.trans h2
        exact h5
    have C : Cx G K p s m (vs.map (sv G)).toArray meth c := ⟨B.exec, B.bytes, hml, B.returns, B.notSynchronized, findClass_of_methodNamed B.named, (name_of_methodNamed B.named B.method).1, hdl', fun w hw => hall w (List.mem_cons_of_mem _ hw), hK, hE, hX, hb, by omega⟩
    have hl := lv_entry (vs.map (sv G)) (n := K.maxL) (by rw [lg_sl_mv]; exact hn)
    rw [lv_args_mv] at hl
    have w := kk.2.2 (e := e) (below := below) (locs := []) C hP hz (Nat.le_refl _) (Nat.le_refl _) va_S.rf hl
    rw [Nat.sub_self, Nat.sub_self] at w
    obtain ⟨t, a1, b1, b2, b3, b4, b5⟩ := w s₁ hh0 (Stand.of_body B)
    refine ⟨t, oc G r, ?_, b1, b2, rfl, b3, b4, b5⟩
    rw [lg_entry_eq]
    exact a1
end
section
section R3
variable {l : Launch} {G : Gb} {K : Kt} {h0 : List Ce} {pc : Nat} {ls : List (Nat × Value)} {st : List Value} {h : List Ce} {r : Rs} {h' : List Ce}
/-- the value that a local holds -/
def lg (ls : List (Nat × Value)) (i : Nat) : Option Value := (ls.find? (fun q => q.1 == i)).map (·.2)
theorem lg_mem {i : Nat} {v : Value} (e : lg ls i = some v) : (i, v) ∈ ls := by
  simp only [lg, Option.map_eq_some_iff] at e
  obtain ⟨⟨j, w⟩, h1, h2⟩ := e
  have a := List.mem_of_find?_eq_some h1
  have b := List.find?_some h1
  simp at b h2
  subst b; subst h2
  exact a
theorem lg_at {lsA : Array Slot} {n i : Nat} {v : Value} (hl : lv_has lsA n (mv G ls)) (e : lg ls i = some v) : lsA[i]? = some (.val (sv G v)) := hl.2.2 (i, sv G v) (List.mem_map.mpr ⟨(i, v), lg_mem e, rfl⟩)
/-- a local is stored: the list stays in order -/
def lset (i : Nat) (v : Value) (ls : List (Nat × Value)) : List (Nat × Value) := ls.filter (fun q => decide (q.1 < i) && !(q.1 + 1 == i && q.2.category == 2)) ++ (i, v) :: ls.filter (fun q => decide (i + (v.category - 1) < q.1))
theorem lset_mem {i : Nat} {v : Value} {q : Nat × Value} (hq : q ∈ lset i v ls) : q = (i, v) ∨ (q ∈ ls ∧ q.1 ≠ i ∧ (v.category = 2 → q.1 ≠ i + 1) ∧ ¬ (q.1 + 1 = i ∧ q.2.category = 2)) := by
  rcases List.mem_append.mp hq with a | a
  · obtain ⟨b, c⟩ := List.mem_filter.mp a
    simp at c
    exact Or.inr ⟨b, by omega, fun _ => by omega, fun z => c.2.elim (fun k => k z.1) (fun k => k z.2)⟩
  · rcases List.mem_cons.mp a with a | a
    · exact Or.inl a
    · obtain ⟨b, c⟩ := List.mem_filter.mp a
      simp at c
      exact Or.inr ⟨b, by omega, fun z => by omega, fun z => by omega⟩
/-- fewer locals -/
theorem V_keep (ks : List Nat) (kk : V l G K h0 pc (ls.filter (fun q => ks.contains q.1)) st h r h') : V l G K h0 pc ls st h r h' :=
  ⟨kk.1, kk.2.1, fun C hP a1 a2 a3 a4 hl => kk.2.2 C hP a1 a2 a3 a4 ⟨hl.1, hl.2.1, fun q hq => by
    obtain ⟨q0, hm, rfl⟩ := List.mem_map.mp hq
    exact hl.2.2 _ (List.mem_map.mpr ⟨q0, (List.mem_filter.mp hm).1, rfl⟩)⟩⟩
/-- a step that leaves the cells and the locals -/
theorem V_go {pc' : Nat} {st' : List Value} (kk : V l G K h0 pc' ls st' h r h') (f : ∀ {p : Program} {e : Env} {R : Room} {s : State} {m : MethodId} {args : Array Value} {below : List Frame} {meth : Method} {c : Code} {H : Heap} {locs : List Loc} {cells slots : Nat} {Q : State → Prop} {lsA : Array Slot}, Cx G K p s m args meth c → lv_has lsA K.maxL (mv G ls) → va_P G.D cls (wl G h) H → va_S (Ar G) s.heap H locs → W p l e R s m args below meth c H locs cells slots Q (F0 m pc' lsA (st'.map (sv G))) → W p l e R s m args below meth c H locs cells slots Q (F0 m pc lsA (st.map (sv G)))) : V l G K h0 pc ls st h r h' :=
  ⟨kk.1, kk.2.1, fun C hP a1 a2 a3 a4 hl => f C hl hP a4 (kk.2.2 C hP a1 a2 a3 a4 hl)⟩
/-- a step that leaves the cells, and stores a local -/
theorem V_go1 {pc' i : Nat} {v : Value} {st' : List Value} (kk : V l G K h0 pc' (lset i v ls) st' h r h') (f : ∀ {p : Program} {e : Env} {R : Room} {s : State} {m : MethodId} {args : Array Value} {below : List Frame} {meth : Method} {c : Code} {H : Heap} {locs : List Loc} {cells slots : Nat} {Q : State → Prop} {lsA : Array Slot}, Cx G K p s m args meth c → lv_has lsA K.maxL (mv G ls) → (∀ lsB : Array Slot, lv_has lsB K.maxL (mv G (lset i v ls)) → W p l e R s m args below meth c H locs cells slots Q (F0 m pc' lsB (st'.map (sv G)))) → W p l e R s m args below meth c H locs cells slots Q (F0 m pc lsA (st.map (sv G)))) : V l G K h0 pc ls st h r h' :=
  ⟨kk.1, kk.2.1, fun C hP a1 a2 a3 a4 hl => f C hl (fun lsB hB => kk.2.2 C hP a1 a2 a3 a4 hB)⟩
theorem lset_has1 {lsB : Array Slot} {n i : Nat} {v : Value} (hc : v.category = 1) (hB : lv_has lsB n ((i, sv G v) :: (mv G ls).filter (fun q => !(q.1 == i) && !(q.1 + 1 == i && q.2.category == 2)))) : lv_has lsB n (mv G (lset i v ls)) := by
  refine ⟨hB.1, hB.2.1, fun q hq => ?_⟩
  obtain ⟨q0, hm, rfl⟩ := List.mem_map.mp hq
  refine hB.2.2 _ ?_
  rcases lset_mem hm with e | ⟨e1, e2, e3, e4⟩
  · subst e; exact List.mem_cons_self
  · refine List.mem_cons_of_mem _ (List.mem_filter.mpr ⟨List.mem_map.mpr ⟨q0, e1, rfl⟩, ?_⟩)
    simp [sv_cat, e2]
    rcases Nat.decEq (q0.fst + 1) i with z | z
    · exact Or.inl z
    · exact Or.inr (fun z2 => e4 ⟨z, z2⟩)
theorem lset_has2 {lsB : Array Slot} {n i : Nat} {v : Value} (hc : v.category = 2) (hB : lv_has lsB n ((i, sv G v) :: (mv G ls).filter (fun q => !(q.1 == i) && (!(q.1 == i + 1) && !(q.1 + 1 == i && q.2.category == 2))))) : lv_has lsB n (mv G (lset i v ls)) := by
  refine ⟨hB.1, hB.2.1, fun q hq => ?_⟩
  obtain ⟨q0, hm, rfl⟩ := List.mem_map.mp hq
  refine hB.2.2 _ ?_
  rcases lset_mem hm with e | ⟨e1, e2, e3, e4⟩
  · subst e; exact List.mem_cons_self
  · refine List.mem_cons_of_mem _ (List.mem_filter.mpr ⟨List.mem_map.mpr ⟨q0, e1, rfl⟩, ?_⟩)
    simp [sv_cat, e2, e3 hc]
    rcases Nat.decEq (q0.fst + 1) i with z | z
    · exact Or.inl z
    · exact Or.inr (fun z2 => e4 ⟨z, z2⟩)

theorem V_iconst {n : Int} {v : Int32} (hd : decode K.code pc = .ok (.iconst n, 1)) (hv : Int32.ofInt n = v) (kk : V l G K h0 (pc + 1) ls (.int v :: st) h r h') : V l G K h0 pc ls (st) h r h' := V_go kk (fun C hl _ _ w => lv_iconst C.1 C.2.1 hd hv w)
theorem V_bipush {n : Int} {v : Int32} (hd : decode K.code pc = .ok (.bipush n, 2)) (hv : (Int8.ofInt n).toInt32 = v) (kk : V l G K h0 (pc + 2) ls (.int v :: st) h r h') : V l G K h0 pc ls (st) h r h' := V_go kk (fun C hl _ _ w => lv_bipush C.1 C.2.1 hd hv w)
theorem V_sipush {n : Int} {v : Int32} (hd : decode K.code pc = .ok (.sipush n, 3)) (hv : (Int16.ofInt n).toInt32 = v) (kk : V l G K h0 (pc + 3) ls (.int v :: st) h r h') : V l G K h0 pc ls (st) h r h' := V_go kk (fun C hl _ _ w => lv_sipush C.1 C.2.1 hd hv w)
theorem V_lconst {n : Fin 2} {v : Int64} (hd : decode K.code pc = .ok (.lconst n, 1)) (hv : Int64.ofNat n = v) (kk : V l G K h0 (pc + 1) ls (.long v :: st) h r h') : V l G K h0 pc ls (st) h r h' := V_go kk (fun C hl _ _ w => lv_lconst C.1 C.2.1 hd hv w)
theorem V_ldc {ix : Nat} {v : Int32} (hd : decode K.code pc = .ok (.ldc ix, 2)) (hw : Cond.constant K.y.cls ix v ∈ tw) (kk : V l G K h0 (pc + 2) ls (.int v :: st) h r h') : V l G K h0 pc ls (st) h r h' := V_go kk (fun C hl _ _ w => lv_ldc C.1 C.2.1 C.2.2.2.2.2.1 (C.2.2.2.2.2.2.2.2.1 _ hw) hd w)
theorem V_ldc2 {ix : Nat} {v : Int64} (hd : decode K.code pc = .ok (.ldc2_w ix, 3)) (hw : Cond.constantLong K.y.cls ix v ∈ tw) (kk : V l G K h0 (pc + 3) ls (.long v :: st) h r h') : V l G K h0 pc ls (st) h r h' := V_go kk (fun C hl _ _ w => lv_ldc2 C.1 C.2.1 C.2.2.2.2.2.1 (C.2.2.2.2.2.2.2.2.1 _ hw) hd w)
theorem V_iload_n {k : Fin 4} {x : Int32} (hd : decode K.code pc = .ok (.iload_n k, 1)) (e : lg ls k = some (.int x)) (kk : V l G K h0 (pc + 1) ls (.int x :: st) h r h') : V l G K h0 pc ls (st) h r h' := V_go kk (fun C hl _ _ w => lv_iload_n C.1 C.2.1 hd rfl (lg_at hl e) w)
theorem V_iload {i : Nat} {x : Int32} (hd : decode K.code pc = .ok (.iload i, 2)) (e : lg ls i = some (.int x)) (kk : V l G K h0 (pc + 2) ls (.int x :: st) h r h') : V l G K h0 pc ls (st) h r h' := V_go kk (fun C hl _ _ w => lv_iload C.1 C.2.1 hd (lg_at hl e) w)
theorem V_lload_n {k : Fin 4} {x : Int64} (hd : decode K.code pc = .ok (.lload_n k, 1)) (e : lg ls k = some (.long x)) (kk : V l G K h0 (pc + 1) ls (.long x :: st) h r h') : V l G K h0 pc ls (st) h r h' := V_go kk (fun C hl _ _ w => lv_lload_n C.1 C.2.1 hd rfl (lg_at hl e) w)
theorem V_lload {i : Nat} {x : Int64} (hd : decode K.code pc = .ok (.lload i, 2)) (e : lg ls i = some (.long x)) (kk : V l G K h0 (pc + 2) ls (.long x :: st) h r h') : V l G K h0 pc ls (st) h r h' := V_go kk (fun C hl _ _ w => lv_lload C.1 C.2.1 hd (lg_at hl e) w)
theorem V_aload_n {k : Fin 4} {x : Nat} (hd : decode K.code pc = .ok (.aload_n k, 1)) (e : lg ls k = some (.ref x)) (kk : V l G K h0 (pc + 1) ls (.ref x :: st) h r h') : V l G K h0 pc ls st h r h' := by
  cases x with
  | zero => exact V_go kk (fun C hl _ _ w => lv_aload_n C.1 C.2.1 hd rfl (lg_at hl e) w)
  | succ x => exact V_go kk (fun C hl _ _ w => lv_aload_n C.1 C.2.1 hd rfl (lg_at hl e) w)
theorem V_aload {i : Nat} {x : Nat} (hd : decode K.code pc = .ok (.aload i, 2)) (e : lg ls i = some (.ref x)) (kk : V l G K h0 (pc + 2) ls (.ref x :: st) h r h') : V l G K h0 pc ls st h r h' := by
  cases x with
  | zero => exact V_go kk (fun C hl _ _ w => lv_aload C.1 C.2.1 hd (lg_at hl e) w)
  | succ x => exact V_go kk (fun C hl _ _ w => lv_aload C.1 C.2.1 hd (lg_at hl e) w)
theorem V_istore_n {k : Fin 4} {x : Int32} {ls' : List (Nat × Value)} (hd : decode K.code pc = .ok (.istore_n k, 1)) (hi : (k : Nat) < K.maxL) (e : lset k (.int x) ls = ls') (kk : V l G K h0 (pc + 1) ls' st h r h') : V l G K h0 pc ls (.int x :: st) h r h' := by
  subst e
  exact V_go1 kk (fun C hl w => lv_istore_n C.1 C.2.1 hd rfl hl hi rfl (fun lsB hB => w lsB (lset_has1 (v := .int x) rfl hB)))
theorem V_istore {i : Nat} {x : Int32} {ls' : List (Nat × Value)} (hd : decode K.code pc = .ok (.istore i, 2)) (hi : i < K.maxL) (e : lset i (.int x) ls = ls') (kk : V l G K h0 (pc + 2) ls' st h r h') : V l G K h0 pc ls (.int x :: st) h r h' := by
  subst e
  exact V_go1 kk (fun C hl w => lv_istore C.1 C.2.1 hd hl hi rfl (fun lsB hB => w lsB (lset_has1 (v := .int x) rfl hB)))
theorem V_lstore_n {k : Fin 4} {x : Int64} {ls' : List (Nat × Value)} (hd : decode K.code pc = .ok (.lstore_n k, 1)) (hi : (k : Nat) + 1 < K.maxL) (e : lset k (.long x) ls = ls') (kk : V l G K h0 (pc + 1) ls' st h r h') : V l G K h0 pc ls (.long x :: st) h r h' := by
  subst e
  exact V_go1 kk (fun C hl w => lv_lstore_n C.1 C.2.1 hd rfl hl hi rfl (fun lsB hB => w lsB (lset_has2 (v := .long x) rfl hB)))
theorem V_lstore {i : Nat} {x : Int64} {ls' : List (Nat × Value)} (hd : decode K.code pc = .ok (.lstore i, 2)) (hi : i + 1 < K.maxL) (e : lset i (.long x) ls = ls') (kk : V l G K h0 (pc + 2) ls' st h r h') : V l G K h0 pc ls (.long x :: st) h r h' := by
  subst e
  exact V_go1 kk (fun C hl w => lv_lstore C.1 C.2.1 hd hl hi rfl (fun lsB hB => w lsB (lset_has2 (v := .long x) rfl hB)))
theorem V_astore_n {k : Fin 4} {x : Nat} {ls' : List (Nat × Value)} (hd : decode K.code pc = .ok (.astore_n k, 1)) (hi : (k : Nat) < K.maxL) (e : lset k (.ref x) ls = ls') (kk : V l G K h0 (pc + 1) ls' st h r h') : V l G K h0 pc ls (.ref x :: st) h r h' := by
  subst e
  cases x with
  | zero => exact V_go1 kk (fun C hl w => lv_astore_n C.1 C.2.1 hd rfl hl hi rfl (fun lsB hB => w lsB (lset_has1 (v := .ref 0) rfl hB)))
  | succ x => exact V_go1 kk (fun C hl w => lv_astore_n C.1 C.2.1 hd rfl hl hi rfl (fun lsB hB => w lsB (lset_has1 (v := .ref (x + 1)) rfl hB)))
theorem V_astore {i : Nat} {x : Nat} {ls' : List (Nat × Value)} (hd : decode K.code pc = .ok (.astore i, 2)) (hi : i < K.maxL) (e : lset i (.ref x) ls = ls') (kk : V l G K h0 (pc + 2) ls' st h r h') : V l G K h0 pc ls (.ref x :: st) h r h' := by
  subst e
  cases x with
  | zero => exact V_go1 kk (fun C hl w => lv_astore C.1 C.2.1 hd hl hi rfl (fun lsB hB => w lsB (lset_has1 (v := .ref 0) rfl hB)))
  | succ x => exact V_go1 kk (fun C hl w => lv_astore C.1 C.2.1 hd hl hi rfl (fun lsB hB => w lsB (lset_has1 (v := .ref (x + 1)) rfl hB)))
theorem V_iinc {i : Nat} {n : Int} {x v : Int32} {ls' : List (Nat × Value)} (hd : decode K.code pc = .ok (.iinc i n, 3)) (e : lg ls i = some (.int x)) (hv : x + Int32.ofInt n = v) (hi : i < K.maxL) (e' : lset i (.int v) ls = ls') (kk : V l G K h0 (pc + 3) ls' st h r h') : V l G K h0 pc ls st h r h' := by
  subst e'
  obtain ⟨k, hk⟩ := List.getElem?_of_mem (lg_mem e)
  exact V_go1 kk (fun C hl w => lv_iinc C.1 C.2.1 hd hl (k := k) (by rw [List.getElem?_map, hk]; rfl) hv hi rfl (fun lsB hB => w lsB (lset_has1 (v := .int v) rfl hB)))
theorem ofInt1 : Int32.ofInt 1 = 1 := by decide
theorem V_iinc1 {i : Nat} {x : Int32} {ls' : List (Nat × Value)} (hd : decode K.code pc = .ok (.iinc i 1, 3)) (e : lg ls i = some (.int x)) (hi : i < K.maxL) (e' : lset i (.int (x + 1)) ls = ls') (kk : V l G K h0 (pc + 3) ls' st h r h') : V l G K h0 pc ls st h r h' := V_iinc hd e (by rw [ofInt1]) hi e' kk
theorem V_iadd {x y : Int32} (hd : decode K.code pc = .ok (.iadd, 1))  (kk : V l G K h0 (pc + 1) ls (.int (x + y) :: st) h r h') : V l G K h0 pc ls (.int y :: .int x :: st) h r h' := V_go kk (fun C hl _ _ w => lv_iadd C.1 C.2.1 hd w)
theorem V_isub {x y : Int32} (hd : decode K.code pc = .ok (.isub, 1))  (kk : V l G K h0 (pc + 1) ls (.int (x - y) :: st) h r h') : V l G K h0 pc ls (.int y :: .int x :: st) h r h' := V_go kk (fun C hl _ _ w => lv_isub C.1 C.2.1 hd w)
theorem V_imul {x y : Int32} (hd : decode K.code pc = .ok (.imul, 1))  (kk : V l G K h0 (pc + 1) ls (.int (x * y) :: st) h r h') : V l G K h0 pc ls (.int y :: .int x :: st) h r h' := V_go kk (fun C hl _ _ w => lv_imul C.1 C.2.1 hd w)
theorem V_iand {x y : Int32} (hd : decode K.code pc = .ok (.iand, 1))  (kk : V l G K h0 (pc + 1) ls (.int (x &&& y) :: st) h r h') : V l G K h0 pc ls (.int y :: .int x :: st) h r h' := V_go kk (fun C hl _ _ w => lv_iand C.1 C.2.1 hd w)
theorem V_ior {x y : Int32} (hd : decode K.code pc = .ok (.ior, 1))  (kk : V l G K h0 (pc + 1) ls (.int (x ||| y) :: st) h r h') : V l G K h0 pc ls (.int y :: .int x :: st) h r h' := V_go kk (fun C hl _ _ w => lv_ior C.1 C.2.1 hd w)
theorem V_ixor {x y : Int32} (hd : decode K.code pc = .ok (.ixor, 1))  (kk : V l G K h0 (pc + 1) ls (.int (x ^^^ y) :: st) h r h') : V l G K h0 pc ls (.int y :: .int x :: st) h r h' := V_go kk (fun C hl _ _ w => lv_ixor C.1 C.2.1 hd w)
theorem V_ladd {x y : Int64} (hd : decode K.code pc = .ok (.ladd, 1))  (kk : V l G K h0 (pc + 1) ls (.long (x + y) :: st) h r h') : V l G K h0 pc ls (.long y :: .long x :: st) h r h' := V_go kk (fun C hl _ _ w => lv_ladd C.1 C.2.1 hd w)
theorem V_lsub {x y : Int64} (hd : decode K.code pc = .ok (.lsub, 1))  (kk : V l G K h0 (pc + 1) ls (.long (x - y) :: st) h r h') : V l G K h0 pc ls (.long y :: .long x :: st) h r h' := V_go kk (fun C hl _ _ w => lv_lsub C.1 C.2.1 hd w)
theorem V_lmul {x y : Int64} (hd : decode K.code pc = .ok (.lmul, 1))  (kk : V l G K h0 (pc + 1) ls (.long (x * y) :: st) h r h') : V l G K h0 pc ls (.long y :: .long x :: st) h r h' := V_go kk (fun C hl _ _ w => lv_lmul C.1 C.2.1 hd w)
theorem V_land {x y : Int64} (hd : decode K.code pc = .ok (.land, 1))  (kk : V l G K h0 (pc + 1) ls (.long (x &&& y) :: st) h r h') : V l G K h0 pc ls (.long y :: .long x :: st) h r h' := V_go kk (fun C hl _ _ w => lv_land C.1 C.2.1 hd w)
theorem V_lor {x y : Int64} (hd : decode K.code pc = .ok (.lor, 1))  (kk : V l G K h0 (pc + 1) ls (.long (x ||| y) :: st) h r h') : V l G K h0 pc ls (.long y :: .long x :: st) h r h' := V_go kk (fun C hl _ _ w => lv_lor C.1 C.2.1 hd w)
theorem V_lxor {x y : Int64} (hd : decode K.code pc = .ok (.lxor, 1))  (kk : V l G K h0 (pc + 1) ls (.long (x ^^^ y) :: st) h r h') : V l G K h0 pc ls (.long y :: .long x :: st) h r h' := V_go kk (fun C hl _ _ w => lv_lxor C.1 C.2.1 hd w)
theorem V_idiv {x y : Int32} (hd : decode K.code pc = .ok (.idiv, 1)) (hne : ¬ y = 0) (kk : V l G K h0 (pc + 1) ls (.int (x / y) :: st) h r h') : V l G K h0 pc ls (.int y :: .int x :: st) h r h' := V_go kk (fun C hl _ _ w => lv_idiv C.1 C.2.1 hd hne w)
theorem V_irem {x y : Int32} (hd : decode K.code pc = .ok (.irem, 1)) (hne : ¬ y = 0) (kk : V l G K h0 (pc + 1) ls (.int (x - x / y * y) :: st) h r h') : V l G K h0 pc ls (.int y :: .int x :: st) h r h' := V_go kk (fun C hl _ _ w => lv_irem C.1 C.2.1 hd hne w)
theorem V_ldiv {x y : Int64} (hd : decode K.code pc = .ok (.ldiv, 1)) (hne : ¬ y = 0) (kk : V l G K h0 (pc + 1) ls (.long (x / y) :: st) h r h') : V l G K h0 pc ls (.long y :: .long x :: st) h r h' := V_go kk (fun C hl _ _ w => lv_ldiv C.1 C.2.1 hd hne w)
theorem V_lrem {x y : Int64} (hd : decode K.code pc = .ok (.lrem, 1)) (hne : ¬ y = 0) (kk : V l G K h0 (pc + 1) ls (.long (x - x / y * y) :: st) h r h') : V l G K h0 pc ls (.long y :: .long x :: st) h r h' := V_go kk (fun C hl _ _ w => lv_lrem C.1 C.2.1 hd hne w)
theorem V_ineg {x : Int32} (hd : decode K.code pc = .ok (.ineg, 1))  (kk : V l G K h0 (pc + 1) ls (.int (-x) :: st) h r h') : V l G K h0 pc ls (.int x :: st) h r h' := V_go kk (fun C hl _ _ w => lv_ineg C.1 C.2.1 hd w)
theorem V_lneg {x : Int64} (hd : decode K.code pc = .ok (.lneg, 1))  (kk : V l G K h0 (pc + 1) ls (.long (-x) :: st) h r h') : V l G K h0 pc ls (.long x :: st) h r h' := V_go kk (fun C hl _ _ w => lv_lneg C.1 C.2.1 hd w)
theorem V_lshl {x v : Int64} {y : Int32} (hd : decode K.code pc = .ok (.lshl, 1)) (hv : x <<< (y.toInt64 &&& 63) = v) (kk : V l G K h0 (pc + 1) ls (.long v :: st) h r h') : V l G K h0 pc ls (.int y :: .long x :: st) h r h' := V_go kk (fun C hl _ _ w => lv_lshl C.1 C.2.1 hd hv w)
theorem V_i2l {x : Int32} (hd : decode K.code pc = .ok (.i2l, 1))  (kk : V l G K h0 (pc + 1) ls (.long x.toInt64 :: st) h r h') : V l G K h0 pc ls (.int x :: st) h r h' := V_go kk (fun C hl _ _ w => lv_i2l C.1 C.2.1 hd rfl w)
theorem V_l2i {x : Int64} (hd : decode K.code pc = .ok (.l2i, 1))  (kk : V l G K h0 (pc + 1) ls (.int x.toInt32 :: st) h r h') : V l G K h0 pc ls (.long x :: st) h r h' := V_go kk (fun C hl _ _ w => lv_l2i C.1 C.2.1 hd rfl w)
theorem V_lcmp {x y : Int64} (hd : decode K.code pc = .ok (.lcmp, 1))  (kk : V l G K h0 (pc + 1) ls (.int (lg_cmp x y) :: st) h r h') : V l G K h0 pc ls (.long y :: .long x :: st) h r h' := V_go kk (fun C hl _ _ w => W.lcmp C.1 C.2.1 hd w)
theorem V_dup {v : Value} (hd : decode K.code pc = .ok (.dup, 1)) (hc : v.category = 1) (kk : V l G K h0 (pc + 1) ls (v :: v :: st) h r h') : V l G K h0 pc ls (v :: st) h r h' := V_go kk (fun C hl _ _ w => lv_dup C.1 C.2.1 hd (by rw [sv_cat]; exact hc) w)
theorem V_pop {v : Value} (hd : decode K.code pc = .ok (.pop, 1)) (hc : v.category = 1) (kk : V l G K h0 (pc + 1) ls (st) h r h') : V l G K h0 pc ls (v :: st) h r h' := V_go kk (fun C hl _ _ w => lv_pop C.1 C.2.1 hd (by rw [sv_cat]; exact hc) w)
theorem V_dup_x1 {v u : Value} (hd : decode K.code pc = .ok (.dup_x1, 1)) (hc : v.category = 1) (hu : u.category = 1) (kk : V l G K h0 (pc + 1) ls (v :: u :: v :: st) h r h') : V l G K h0 pc ls (v :: u :: st) h r h' := V_go kk (fun C hl _ _ w => lv_dup_x1 C.1 C.2.1 hd (by rw [sv_cat]; exact hc) (by rw [sv_cat]; exact hu) w)
theorem V_dup_x2 {v u t : Value} (hd : decode K.code pc = .ok (.dup_x2, 1)) (hc : v.category = 1) (hu : u.category = 1) (ht : t.category = 1) (kk : V l G K h0 (pc + 1) ls (v :: u :: t :: v :: st) h r h') : V l G K h0 pc ls (v :: u :: t :: st) h r h' := V_go kk (fun C hl _ _ w => lv_dup_x2 C.1 C.2.1 hd (by rw [sv_cat]; exact hc) (by rw [sv_cat]; exact hu) (by rw [sv_cat]; exact ht) w)
theorem V_dup2 {v u : Value} (hd : decode K.code pc = .ok (.dup2, 1)) (hc : v.category = 1) (hu : u.category = 1) (kk : V l G K h0 (pc + 1) ls (v :: u :: v :: u :: st) h r h') : V l G K h0 pc ls (v :: u :: st) h r h' := V_go kk (fun C hl _ _ w => lv_dup2_11 C.1 C.2.1 hd (by rw [sv_cat]; exact hc) (by rw [sv_cat]; exact hu) w)
theorem V_if_eq {x : Int32} {off : Int} {tgt : Nat} (hd : decode K.code pc = .ok (.ifCond .eq off, 3)) (ht : (pc : Int) + off = (tgt : Int)) (kt : x = 0 → V l G K h0 tgt ls st h r h') (kf : ¬ (x = 0) → V l G K h0 (pc + 3) ls st h r h') : V l G K h0 pc ls (.int x :: st) h r h' := by
  rcases Classical.em (x = 0) with e | e
  · exact V_go (kt e) (fun C hl _ _ w => lv_if_eq C.1 C.2.1 hd ht (fun _ => w) (fun q => absurd e q))
  · exact V_go (kf e) (fun C hl _ _ w => lv_if_eq C.1 C.2.1 hd ht (fun q => absurd q e) (fun _ => w))
theorem V_icmp_eq {x y : Int32} {off : Int} {tgt : Nat} (hd : decode K.code pc = .ok (.if_icmp .eq off, 3)) (ht : (pc : Int) + off = (tgt : Int)) (kt : x = y → V l G K h0 tgt ls st h r h') (kf : ¬ (x = y) → V l G K h0 (pc + 3) ls st h r h') : V l G K h0 pc ls (.int y :: .int x :: st) h r h' := by
  rcases Classical.em (x = y) with e | e
  · exact V_go (kt e) (fun C hl _ _ w => lv_icmp_eq C.1 C.2.1 hd ht (fun _ => w) (fun q => absurd e q))
  · exact V_go (kf e) (fun C hl _ _ w => lv_icmp_eq C.1 C.2.1 hd ht (fun q => absurd q e) (fun _ => w))
theorem V_if_ne {x : Int32} {off : Int} {tgt : Nat} (hd : decode K.code pc = .ok (.ifCond .ne off, 3)) (ht : (pc : Int) + off = (tgt : Int)) (kt : ¬ x = 0 → V l G K h0 tgt ls st h r h') (kf : x = 0 → V l G K h0 (pc + 3) ls st h r h') : V l G K h0 pc ls (.int x :: st) h r h' := by
  rcases Classical.em (¬ x = 0) with e | e
  · exact V_go (kt e) (fun C hl _ _ w => lv_if_ne C.1 C.2.1 hd ht (fun _ => w) (fun q => absurd q e))
  · exact V_go (kf (Classical.not_not.mp e)) (fun C hl _ _ w => lv_if_ne C.1 C.2.1 hd ht (fun q => absurd q e) (fun _ => w))
theorem V_icmp_ne {x y : Int32} {off : Int} {tgt : Nat} (hd : decode K.code pc = .ok (.if_icmp .ne off, 3)) (ht : (pc : Int) + off = (tgt : Int)) (kt : ¬ x = y → V l G K h0 tgt ls st h r h') (kf : x = y → V l G K h0 (pc + 3) ls st h r h') : V l G K h0 pc ls (.int y :: .int x :: st) h r h' := by
  rcases Classical.em (¬ x = y) with e | e
  · exact V_go (kt e) (fun C hl _ _ w => lv_icmp_ne C.1 C.2.1 hd ht (fun _ => w) (fun q => absurd q e))
  · exact V_go (kf (Classical.not_not.mp e)) (fun C hl _ _ w => lv_icmp_ne C.1 C.2.1 hd ht (fun q => absurd q e) (fun _ => w))
theorem V_if_lt {x : Int32} {off : Int} {tgt : Nat} (hd : decode K.code pc = .ok (.ifCond .lt off, 3)) (ht : (pc : Int) + off = (tgt : Int)) (kt : x < 0 → V l G K h0 tgt ls st h r h') (kf : ¬ (x < 0) → V l G K h0 (pc + 3) ls st h r h') : V l G K h0 pc ls (.int x :: st) h r h' := by
  rcases Classical.em (x < 0) with e | e
  · exact V_go (kt e) (fun C hl _ _ w => lv_if_lt C.1 C.2.1 hd ht (fun _ => w) (fun q => absurd e q))
  · exact V_go (kf e) (fun C hl _ _ w => lv_if_lt C.1 C.2.1 hd ht (fun q => absurd q e) (fun _ => w))
theorem V_icmp_lt {x y : Int32} {off : Int} {tgt : Nat} (hd : decode K.code pc = .ok (.if_icmp .lt off, 3)) (ht : (pc : Int) + off = (tgt : Int)) (kt : x < y → V l G K h0 tgt ls st h r h') (kf : ¬ (x < y) → V l G K h0 (pc + 3) ls st h r h') : V l G K h0 pc ls (.int y :: .int x :: st) h r h' := by
  rcases Classical.em (x < y) with e | e
  · exact V_go (kt e) (fun C hl _ _ w => lv_icmp_lt C.1 C.2.1 hd ht (fun _ => w) (fun q => absurd e q))
  · exact V_go (kf e) (fun C hl _ _ w => lv_icmp_lt C.1 C.2.1 hd ht (fun q => absurd q e) (fun _ => w))
theorem V_if_ge {x : Int32} {off : Int} {tgt : Nat} (hd : decode K.code pc = .ok (.ifCond .ge off, 3)) (ht : (pc : Int) + off = (tgt : Int)) (kt : 0 ≤ x → V l G K h0 tgt ls st h r h') (kf : ¬ (0 ≤ x) → V l G K h0 (pc + 3) ls st h r h') : V l G K h0 pc ls (.int x :: st) h r h' := by
  rcases Classical.em (0 ≤ x) with e | e
  · exact V_go (kt e) (fun C hl _ _ w => lv_if_ge C.1 C.2.1 hd ht (fun _ => w) (fun q => absurd e q))
  · exact V_go (kf e) (fun C hl _ _ w => lv_if_ge C.1 C.2.1 hd ht (fun q => absurd q e) (fun _ => w))
theorem V_icmp_ge {x y : Int32} {off : Int} {tgt : Nat} (hd : decode K.code pc = .ok (.if_icmp .ge off, 3)) (ht : (pc : Int) + off = (tgt : Int)) (kt : y ≤ x → V l G K h0 tgt ls st h r h') (kf : ¬ (y ≤ x) → V l G K h0 (pc + 3) ls st h r h') : V l G K h0 pc ls (.int y :: .int x :: st) h r h' := by
  rcases Classical.em (y ≤ x) with e | e
  · exact V_go (kt e) (fun C hl _ _ w => lv_icmp_ge C.1 C.2.1 hd ht (fun _ => w) (fun q => absurd e q))
  · exact V_go (kf e) (fun C hl _ _ w => lv_icmp_ge C.1 C.2.1 hd ht (fun q => absurd q e) (fun _ => w))
theorem V_if_gt {x : Int32} {off : Int} {tgt : Nat} (hd : decode K.code pc = .ok (.ifCond .gt off, 3)) (ht : (pc : Int) + off = (tgt : Int)) (kt : 0 < x → V l G K h0 tgt ls st h r h') (kf : ¬ (0 < x) → V l G K h0 (pc + 3) ls st h r h') : V l G K h0 pc ls (.int x :: st) h r h' := by
  rcases Classical.em (0 < x) with e | e
  · exact V_go (kt e) (fun C hl _ _ w => lv_if_gt C.1 C.2.1 hd ht (fun _ => w) (fun q => absurd e q))
  · exact V_go (kf e) (fun C hl _ _ w => lv_if_gt C.1 C.2.1 hd ht (fun q => absurd q e) (fun _ => w))
theorem V_icmp_gt {x y : Int32} {off : Int} {tgt : Nat} (hd : decode K.code pc = .ok (.if_icmp .gt off, 3)) (ht : (pc : Int) + off = (tgt : Int)) (kt : y < x → V l G K h0 tgt ls st h r h') (kf : ¬ (y < x) → V l G K h0 (pc + 3) ls st h r h') : V l G K h0 pc ls (.int y :: .int x :: st) h r h' := by
  rcases Classical.em (y < x) with e | e
  · exact V_go (kt e) (fun C hl _ _ w => lv_icmp_gt C.1 C.2.1 hd ht (fun _ => w) (fun q => absurd e q))
  · exact V_go (kf e) (fun C hl _ _ w => lv_icmp_gt C.1 C.2.1 hd ht (fun q => absurd q e) (fun _ => w))
theorem V_if_le {x : Int32} {off : Int} {tgt : Nat} (hd : decode K.code pc = .ok (.ifCond .le off, 3)) (ht : (pc : Int) + off = (tgt : Int)) (kt : x ≤ 0 → V l G K h0 tgt ls st h r h') (kf : ¬ (x ≤ 0) → V l G K h0 (pc + 3) ls st h r h') : V l G K h0 pc ls (.int x :: st) h r h' := by
  rcases Classical.em (x ≤ 0) with e | e
  · exact V_go (kt e) (fun C hl _ _ w => lv_if_le C.1 C.2.1 hd ht (fun _ => w) (fun q => absurd e q))
  · exact V_go (kf e) (fun C hl _ _ w => lv_if_le C.1 C.2.1 hd ht (fun q => absurd q e) (fun _ => w))
theorem V_icmp_le {x y : Int32} {off : Int} {tgt : Nat} (hd : decode K.code pc = .ok (.if_icmp .le off, 3)) (ht : (pc : Int) + off = (tgt : Int)) (kt : x ≤ y → V l G K h0 tgt ls st h r h') (kf : ¬ (x ≤ y) → V l G K h0 (pc + 3) ls st h r h') : V l G K h0 pc ls (.int y :: .int x :: st) h r h' := by
  rcases Classical.em (x ≤ y) with e | e
  · exact V_go (kt e) (fun C hl _ _ w => lv_icmp_le C.1 C.2.1 hd ht (fun _ => w) (fun q => absurd e q))
  · exact V_go (kf e) (fun C hl _ _ w => lv_icmp_le C.1 C.2.1 hd ht (fun q => absurd q e) (fun _ => w))
theorem V_goto {off : Int} {tgt : Nat} (hd : decode K.code pc = .ok (.goto off, 3)) (ht : (pc : Int) + off = (tgt : Int)) (kk : V l G K h0 tgt ls st h r h') : V l G K h0 pc ls st h r h' := V_go kk (fun C hl _ _ w => lv_goto C.1 C.2.1 hd ht w)
theorem V_swIn {dflt lo hi : Int} {offs : Array Int} {len : Nat} {x : Int32} {off : Int} {tgt : Nat} (hd : decode K.code pc = .ok (.tableswitch dflt lo hi offs, len)) (h1 : ¬ x.toInt < lo) (h2 : ¬ hi < x.toInt) (ho : offs[(x.toInt - lo).toNat]? = some off) (ht : (pc : Int) + off = (tgt : Int)) (kk : V l G K h0 tgt ls st h r h') : V l G K h0 pc ls (.int x :: st) h r h' := V_go kk (fun C hl _ _ w => lv_tableIn C.1 C.2.1 hd h1 h2 ho ht w)
theorem V_swOut {dflt lo hi : Int} {offs : Array Int} {len : Nat} {x : Int32} {tgt : Nat} (hd : decode K.code pc = .ok (.tableswitch dflt lo hi offs, len)) (h1 : x.toInt < lo ∨ hi < x.toInt) (ht : (pc : Int) + dflt = (tgt : Int)) (kk : V l G K h0 tgt ls st h r h') : V l G K h0 pc ls (.int x :: st) h r h' := V_go kk (fun C hl _ _ w => lv_tableOut C.1 C.2.1 hd h1 ht w)
end R3
end
section
section R4
variable {l : Launch} {G : Gb} {K : Kt} {h0 : List Ce} {pc : Nat} {ls : List (Nat × Value)} {st : List Value} {h : List Ce} {r : Rs} {h' : List Ce}
theorem Cx.tw {p : Program} {s : State} {m : MethodId} {args : Array Value} {meth : Method} {c : Code} (X : Cx G K p s m args meth c) : ∀ w ∈ tw, w.before args s = true := X.2.2.2.2.2.2.2.2.1
theorem Cx.own {p : Program} {s : State} {m : MethodId} {args : Array Value} {meth : Method} {c : Code} (X : Cx G K p s m args meth c) : s.vm.findClass K.y.cls = some m.cls := X.2.2.2.2.2.1
theorem Cx.kn {p : Program} {s : State} {m : MethodId} {args : Array Value} {meth : Method} {c : Code} (X : Cx G K p s m args meth c) : va_K G.D cls (tyl G) s := X.2.2.2.2.2.2.2.2.2.1
theorem Cx.ev {p : Program} {s : State} {m : MethodId} {args : Array Value} {meth : Method} {c : Code} (X : Cx G K p s m args meth c) : Ev G s s.heap := X.2.2.2.2.2.2.2.2.2.2.1
theorem Cx.scr {p : Program} {s : State} {m : MethodId} {args : Array Value} {meth : Method} {c : Code} (X : Cx G K p s m args meth c) : va_X G.scr G.L G.xs s s.heap ∧ G.scr < G.b ∧ G.b ≤ s.heap.size := X.2.2.2.2.2.2.2.2.2.2.2
/-- the heap's size at a point of the walk -/
theorem sz_of {p : Program} {e : Env} {R : Room} {s : State} {m : MethodId} {args : Array Value} {below : List Frame} {meth : Method} {c : Code} {T : State} {locs : List Loc} {slots : Nat} (X : Stand p l e R s m args below meth c T locs (h.length - h0.length) slots) (hs : s.heap.size = G.b + h0.length) (hle : h0.length ≤ h.length) (hP : va_P G.D cls (wl G h) T.heap) : T.heap.size = G.b + h.length := by
  have h1 := X.heapSize
  have h2 : s.heap.size ≤ T.heap.size := X.same.2.1
  rcases Nat.eq_or_lt_of_le hle with q | q
  · omega
  · obtain ⟨c, hc'⟩ : ∃ c, h[h.length - 1]? = some c := ⟨_, List.getElem?_eq_getElem (by omega)⟩
    have h3 := (hP _ _ (wl_at (G := G) hc')).lt
    have h4 : G.b + (h.length - 1) < T.heap.size := h3
    omega
theorem V_get {ix a ci j N : Nat} {ref C : String} {T : u_T} {fs : List Value} {v : Value} (hd : decode K.code pc = .ok (.getfield ix, 3)) (hlink : Cond.fieldLink K.y.cls ix ref (T j).2.1 (T j).2.2.1 ∈ tw) (hin : ∀ w ∈ u_ws C T N, w ∈ tw) (hr : (T j).1 = ref) (hcell : h[a]? = some (.inr (ci, fs))) (hc : cls[ci]? = some (C, T, N)) (hj : j < N) (hv : fs[j]? = some v) (kk : V l G K h0 (pc + 3) ls (v :: st) h r h') : V l G K h0 pc ls (.ref (a + 1) :: st) h r h' :=
  V_go kk (fun X hl hP hS w => va_get X.1 X.2.1 X.tw hin X.own X.kn hP a (wl_at hcell) hc j hj (X.tw _ hlink) (by subst hr; exact fun _ h => h) (v := sv G v) (by simp [hv]) hd w)
theorem V_put {ix a ci j N : Nat} {ref C : String} {T : u_T} {fs : List Value} {v : Value} (tyf : Nat → FieldType) (hty : ∀ k, k < N → parseFieldDescriptor (T k).2.2.1 = some (tyf k)) (hnm : ∀ a, a < N → ∀ b, b < N → a ≠ b → (T a).2.1 ≠ (T b).2.1) (hd : decode K.code pc = .ok (.putfield ix, 3)) (hlink : Cond.fieldLink K.y.cls ix ref (T j).2.1 (T j).2.2.1 ∈ tw) (hin : ∀ w ∈ u_ws C T N, w ∈ tw) (hr : (T j).1 = ref) (hfin : (T j).2.2.2 = false) (hcell : h[a]? = some (.inr (ci, fs))) (hc : cls[ci]? = some (C, T, N)) (hj : j < N) (hn : narrow (tyf j) (sv G v) = sv G v) (hf : fits (tyf j) (sv G v) = true) (hl' : j < fs.length) (kk : V l G K h0 (pc + 3) ls st (h.set a (.inr (ci, fs.set j v))) r h') : V l G K h0 pc ls (v :: .ref (a + 1) :: st) h r h' := by
  have es : sl (h.set a (.inr (ci, fs.set j v))) = sl h := sl_set h a _ _ hcell rfl
  refine ⟨by have := kk.1; rwa [List.length_set] at this, by have := kk.2.1; rwa [es] at this, ?_⟩
  intro p e s m args below meth c H locs lsA X hP a1 a2 a3 a4 hl
  refine va_put X.1 X.2.1 X.tw hin tyf hty hnm X.own X.kn hP (wl_D G h) a4 a (wl_at hcell) hc j hj (X.tw _ hlink) (by subst hr; exact fun _ h => h) hfin (hty j hj) hn hf (by rw [List.length_map]; exact hl') hd (fun H1 locs1 hP1 _ hS1 => ?_)
  have w := kk.2.2 (e := e) (below := below) (H := H1) (locs := locs1) X (by rw [← wl_set]; show va_P _ _ ((wl G h).set a (G.b + a, .inr (ci, (fs.set j v).map (sv G)))) H1; rw [List.map_set]; exact hP1) a1 (by rw [List.length_set]; exact a2) (by rw [es]; exact a3) hS1 hl
  rw [List.length_set, es] at w
  exact w
theorem V_putF {ix a ci j N : Nat} {ref C : String} {T : u_T} {fs : List Value} {v : Value} (tyf : Nat → FieldType) (hty : ∀ k, k < N → parseFieldDescriptor (T k).2.2.1 = some (tyf k)) (hnm : ∀ a, a < N → ∀ b, b < N → a ≠ b → (T a).2.1 ≠ (T b).2.1) (hd : decode K.code pc = .ok (.putfield ix, 3)) (hlink : Cond.fieldLink K.y.cls ix ref (T j).2.1 (T j).2.2.1 ∈ tw) (hin : ∀ w ∈ u_ws C T N, w ∈ tw) (hr : (T j).1 = ref) (hfin : (T j).2.2.2 = true) (hini : K.y.name = "<init>") (how : (T j).1 = K.y.cls) (hcell : h[a]? = some (.inr (ci, fs))) (hc : cls[ci]? = some (C, T, N)) (hj : j < N) (hn : narrow (tyf j) (sv G v) = sv G v) (hf : fits (tyf j) (sv G v) = true) (hl' : j < fs.length) (kk : V l G K h0 (pc + 3) ls st (h.set a (.inr (ci, fs.set j v))) r h') : V l G K h0 pc ls (v :: .ref (a + 1) :: st) h r h' := by
  have es : sl (h.set a (.inr (ci, fs.set j v))) = sl h := sl_set h a _ _ hcell rfl
  refine ⟨by have := kk.1; rwa [List.length_set] at this, by have := kk.2.1; rwa [es] at this, ?_⟩
  intro p e s m args below meth c H locs lsA X hP a1 a2 a3 a4 hl
  refine va_putF X.1 X.2.1 X.tw hin tyf hty hnm X.own X.kn hP (wl_D G h) a4 a (wl_at hcell) hc j hj (X.tw _ hlink) (by subst hr; exact fun _ h => h) hfin (X.2.2.2.2.2.2.1.trans hini) how (hty j hj) hn hf (by rw [List.length_map]; exact hl') hd (fun H1 locs1 hP1 _ hS1 => ?_)
  have w := kk.2.2 (e := e) (below := below) (H := H1) (locs := locs1) X (by rw [← wl_set]; show va_P _ _ ((wl G h).set a (G.b + a, .inr (ci, (fs.set j v).map (sv G)))) H1; rw [List.map_set]; exact hP1) a1 (by rw [List.length_set]; exact a2) (by rw [es]; exact a3) hS1 hl
  rw [List.length_set, es] at w
  exact w
theorem V_iald {a N : Nat} {f : Nat → Int32} {i : Int32} (hd : decode K.code pc = .ok (.iaload, 1)) (hcell : h[a]? = some (.inl (.int, N, .inl f))) (hi : vp_in i N) (kk : V l G K h0 (pc + 1) ls (.int (f i.toNatClampNeg) :: st) h r h') : V l G K h0 pc ls (.int i :: .ref (a + 1) :: st) h r h' :=
  V_go kk (fun X hl hP hS w => va_iald X.1 X.2.1 X.kn hP a 0 (wl_at hcell) rfl hi hd w)
theorem V_zald {a N : Nat} {f : Nat → Int32} {i : Int32} (hd : decode K.code pc = .ok (.baload, 1)) (hcell : h[a]? = some (.inl (.boolean, N, .inl f))) (hi : vp_in i N) (kk : V l G K h0 (pc + 1) ls (.int (f i.toNatClampNeg) :: st) h r h') : V l G K h0 pc ls (.int i :: .ref (a + 1) :: st) h r h' :=
  V_go kk (fun X hl hP hS w => va_zald X.1 X.2.1 X.kn hP a 1 (wl_at hcell) rfl hi hd w)
theorem V_lald {a N : Nat} {f : Nat → Int64} {i : Int32} (hd : decode K.code pc = .ok (.laload, 1)) (hcell : h[a]? = some (.inl (.long, N, .inr (.inl f)))) (hi : vp_in i N) (kk : V l G K h0 (pc + 1) ls (.long (f i.toNatClampNeg) :: st) h r h') : V l G K h0 pc ls (.int i :: .ref (a + 1) :: st) h r h' :=
  V_go kk (fun X hl hP hS w => va_lald X.1 X.2.1 X.kn hP a 2 (wl_at hcell) rfl hi hd w)
theorem V_sld {i : Int32} (hd : decode K.code pc = .ok (.iaload, 1)) (hi : vp_in i G.L) (kk : V l G K h0 (pc + 1) ls (.int (G.xs i.toNatClampNeg) :: st) h r h') : V l G K h0 pc ls (.int i :: .ref 0 :: st) h r h' :=
  V_go kk (fun X hl hP hS w => va_sld X.1 X.2.1 X.scr.1 (Nat.lt_of_lt_of_le X.scr.2.1 X.scr.2.2) (Nat.not_le.mpr X.scr.2.1) hS hi hd w)
theorem V_slen (hd : decode K.code pc = .ok (.arraylength, 1)) (kk : V l G K h0 (pc + 1) ls (.int (nI G.L) :: st) h r h') : V l G K h0 pc ls (.ref 0 :: st) h r h' :=
  V_go kk (fun X hl hP hS w => va_slen X.1 X.2.1 X.scr.1 (Nat.lt_of_lt_of_le X.scr.2.1 X.scr.2.2) (Nat.not_le.mpr X.scr.2.1) hS hd w)
theorem V_ialen {a N : Nat} {f : Nat → Int32} (hd : decode K.code pc = .ok (.arraylength, 1)) (hcell : h[a]? = some (.inl (.int, N, .inl f))) (kk : V l G K h0 (pc + 1) ls (.int (nI N) :: st) h r h') : V l G K h0 pc ls (.ref (a + 1) :: st) h r h' :=
  V_go kk (fun X hl hP hS w => va_alen X.1 X.2.1 X.kn hP a 0 (wl_at hcell) (ty := .int) rfl rfl hd w)
/-- an array's contents are written -/
theorem V_wr {pc' a : Nat} {c c' : Ce} {st' : List Value} (hcell : h[a]? = some c) (e1 : sl1 c' = sl1 c) (kk : V l G K h0 pc' ls st' (h.set a c') r h') (f : ∀ {p : Program} {e : Env} {R : Room} {s : State} {m : MethodId} {args : Array Value} {below : List Frame} {meth : Method} {c0 : Code} {H : Heap} {locs : List Loc} {cells slots : Nat} {Q : State → Prop} {lsA : Array Slot}, Cx G K p s m args meth c0 → lv_has lsA K.maxL (mv G ls) → va_P G.D cls (wl G h) H → va_S (Ar G) s.heap H locs → (∀ (H1 : Heap) (locs1 : List Loc), va_P G.D cls ((wl G h).set a (G.b + a, cv G c')) H1 → va_S (Ar G) s.heap H1 locs1 → W p l e R s m args below meth c0 H1 locs1 cells slots Q (F0 m pc' lsA (st'.map (sv G)))) → W p l e R s m args below meth c0 H locs cells slots Q (F0 m pc lsA (st.map (sv G)))) : V l G K h0 pc ls st h r h' := by
  have es : sl (h.set a c') = sl h := sl_set h a _ _ hcell e1
  refine ⟨by have := kk.1; rwa [List.length_set] at this, by have := kk.2.1; rwa [es] at this, ?_⟩
  intro p e s m args below meth c H locs lsA X hP a1 a2 a3 a4 hl
  refine f X hl hP a4 (fun H1 locs1 hP1 hS1 => ?_)
  have w := kk.2.2 (e := e) (below := below) (H := H1) (locs := locs1) X (by rw [← wl_set]; exact hP1) a1 (by rw [List.length_set]; exact a2) (by rw [es]; exact a3) hS1 hl
  rw [List.length_set, es] at w
  exact w
theorem V_iast {a N : Nat} {f : Nat → Int32} {i x : Int32} (hd : decode K.code pc = .ok (.iastore, 1)) (hcell : h[a]? = some (.inl (.int, N, .inl f))) (hi : vp_in i N) (kk : V l G K h0 (pc + 1) ls st (h.set a (.inl (.int, N, .inl (upd f i.toNatClampNeg x)))) r h') : V l G K h0 pc ls (.int x :: .int i :: .ref (a + 1) :: st) h r h' :=
  V_wr (c' := .inl (.int, N, .inl (upd f i.toNatClampNeg x))) hcell rfl kk (fun X hl hP hS w => va_iast X.1 X.2.1 X.kn hP (wl_D G h) hS a 0 (wl_at hcell) rfl hi hd (fun H1 locs1 hP1 _ hS1 => w H1 locs1 hP1 hS1))
theorem V_zast {a N : Nat} {f : Nat → Int32} {i x : Int32} (hd : decode K.code pc = .ok (.bastore, 1)) (hcell : h[a]? = some (.inl (.boolean, N, .inl f))) (hi : vp_in i N) (hx : vp_nar .boolean x = x) (kk : V l G K h0 (pc + 1) ls st (h.set a (.inl (.boolean, N, .inl (upd f i.toNatClampNeg x)))) r h') : V l G K h0 pc ls (.int x :: .int i :: .ref (a + 1) :: st) h r h' :=
  V_wr (c' := .inl (.boolean, N, .inl (upd f i.toNatClampNeg x))) hcell rfl kk (fun X hl hP hS w => va_zast X.1 X.2.1 X.kn hP (wl_D G h) hS a 1 (wl_at hcell) rfl hi hd (fun H1 locs1 hP1 _ hS1 => w H1 locs1 (by rw [hx] at hP1; exact hP1) hS1))
theorem V_last {a N : Nat} {f : Nat → Int64} {i : Int32} {x : Int64} (hd : decode K.code pc = .ok (.lastore, 1)) (hcell : h[a]? = some (.inl (.long, N, .inr (.inl f)))) (hi : vp_in i N) (kk : V l G K h0 (pc + 1) ls st (h.set a (.inl (.long, N, .inr (.inl (vp_updL f i.toNatClampNeg x))))) r h') : V l G K h0 pc ls (.long x :: .int i :: .ref (a + 1) :: st) h r h' :=
  V_wr (c' := .inl (.long, N, .inr (.inl (vp_updL f i.toNatClampNeg x)))) hcell rfl kk (fun X hl hP hS w => va_last X.1 X.2.1 X.kn hP (wl_D G h) hS a 2 (wl_at hcell) rfl hi hd (fun H1 locs1 hP1 _ hS1 => w H1 locs1 hP1 hS1))
theorem wl_grow {H H1 : Heap} {c : Ce} (hP : va_P G.D cls (wl G h) H) (o1 : ∀ q, q < H.size → H1[q]? = H[q]?) (hn : va_at G.D cls (G.b + h.length, cv G c) H1) : va_P G.D cls (wl G (h ++ [c])) H1 := by
  rw [← wl_push]
  refine (hP.kept (fun k x hx => o1 x.1 ((hP k x hx).lt))).app (fun k x hx => ?_)
  cases k with
  | zero => simp at hx; subst hx; exact hn
  | succ k => simp at hx
/-- a new array of ints, booleans or longs -/
theorem V_newa {at9 : ArrayType} {ty : FieldType} (k0 : Nat) {n : Int32} {N : Nat} {a9 : vp_A} (hd : decode K.code pc = .ok (.newarray at9, 2)) (hty : newarray.typeOf at9 = ty) (hk0 : (tyl G)[k0]? = some (G.dA ty, ty)) (hra : ∀ (U : State) (c : ClassId), va_RA U c ty → U.vm.findClass ("[" ++ ty.toString) = some c) (ha : ∀ cA : ClassId, vp_cell cA a9 = arrV cA N (fun _ => defaultValue ty)) (hlen : a9.1 = N) (hw : Cond.arrayClass ty ∈ tw) (hn : ¬ n < 0) (hN : n.toNatClampNeg = N) (hb : N * componentBytes ty ≤ 536870912) (kk : V l G K h0 (pc + 2) ls (.ref (h.length + 1) :: st) (h ++ [.inl (ty, a9)]) r h') : V l G K h0 pc ls (.int n :: st) h r h' := by
  have e1 : (h ++ [(.inl (ty, a9) : Ce)]).length = h.length + 1 := by simp
  have e2 : sl (h ++ [(.inl (ty, a9) : Ce)]) = sl h + N := by rw [sl_app]; simp [sl, sl1, hlen]
  have k1 := kk.1
  have k2 := kk.2.1
  rw [e1] at k1
  rw [e2] at k2
  refine ⟨by omega, by omega, ?_⟩
  intro p e s m args below meth c H locs lsA X hP a1 a2 a3 a4 hl
  intro T hT X1
  have hz := sz_of (G := G) X1 a1 a2 (by rw [hT]; exact hP)
  rw [hT] at hz
  subst hty
  have hKt := X.kn.2 k0 _ hk0
  have hcs : h.length - h0.length + 1 ≤ (rmK K h0 h').cells := by show _ ≤ h'.length - h0.length; omega
  have hss : sl h - sl h0 + N ≤ (rmK K h0 h').slots := by show _ ≤ sl h' - sl h0; omega
  have hsz := a4.1
  rw [hz] at hsz
  have W1 : W p l e (rmK K h0 h') s m args below meth c H locs (h.length - h0.length) (sl h - sl h0) (Fin' G below s h0 r h') (F0 m pc lsA (.int n :: st.map (sv G))) := by
    refine va_newaK (h := G.b + h.length) X.1 X.2.1 (X.tw _ hw) rfl hd rfl hn hN hb hcs hss hz (fun H1 cA e3 z1 o1 hAr hNm => ?_)
    have ec : cA = G.dA (newarray.typeOf at9) := Option.some.inj (hNm.symm.trans (hra _ _ hKt.2))
    subst ec
    have hat : va_at G.D cls (G.b + h.length, cv G (.inl (newarray.typeOf at9, a9))) H1 := by
      show H1[G.b + h.length]? = some (vp_cell (G.dA (newarray.typeOf at9)) a9)
      rw [ha]
      exact e3
    have w := kk.2.2 (e := e) (below := below) (H := H1) (locs := locs) X (wl_grow hP (fun q hq => o1 q (by rw [hz] at hq; exact hq)) hat) a1 (by omega) (by omega) ⟨by omega, fun x h1 h2 => (o1 x (by omega)).trans (a4.2.1 x h1 h2), a4.2.2⟩ hl
    rw [e1, e2, show h.length + 1 - h0.length = h.length - h0.length + 1 by omega, show sl h + N - sl h0 = sl h - sl h0 + N by omega] at w
    exact w
  exact W1 T hT X1
theorem V_newi {n : Int32} {N : Nat} (hd : decode K.code pc = .ok (.newarray .int, 2)) (hw : Cond.arrayClass .int ∈ tw) (hn : ¬ n < 0) (hN : n.toNatClampNeg = N) (hb : N * 4 ≤ 536870912) (kk : V l G K h0 (pc + 2) ls (.ref (h.length + 1) :: st) (h ++ [.inl (.int, N, .inl (fun _ => 0))]) r h') : V l G K h0 pc ls (.int n :: st) h r h' :=
  V_newa 0 hd rfl rfl (fun _ _ h => h) (fun _ => rfl) rfl hw hn hN hb kk
theorem V_newz {n : Int32} {N : Nat} (hd : decode K.code pc = .ok (.newarray .boolean, 2)) (hw : Cond.arrayClass .boolean ∈ tw) (hn : ¬ n < 0) (hN : n.toNatClampNeg = N) (hb : N * 1 ≤ 536870912) (kk : V l G K h0 (pc + 2) ls (.ref (h.length + 1) :: st) (h ++ [.inl (.boolean, N, .inl (fun _ => 0))]) r h') : V l G K h0 pc ls (.int n :: st) h r h' :=
  V_newa 1 hd rfl rfl (fun _ _ h => h) (fun _ => rfl) rfl hw hn hN hb kk
theorem V_newl {n : Int32} {N : Nat} (hd : decode K.code pc = .ok (.newarray .long, 2)) (hw : Cond.arrayClass .long ∈ tw) (hn : ¬ n < 0) (hN : n.toNatClampNeg = N) (hb : N * 8 ≤ 536870912) (kk : V l G K h0 (pc + 2) ls (.ref (h.length + 1) :: st) (h ++ [.inl (.long, N, .inr (.inl (fun _ => 0)))]) r h') : V l G K h0 pc ls (.int n :: st) h r h' :=
  V_newa 2 hd rfl rfl (fun _ _ h => h) (fun _ => rfl) rfl hw hn hN hb kk
theorem sv_dflt (t : FieldType) : sv G (defaultValue t) = defaultValue t := by cases t <;> rfl
/-- a new object: its fields as they are born -/
theorem V_new {ix ci N : Nat} {C : String} {T : u_T} {fs : List Value} (tyf : Nat → FieldType) (hty : ∀ k, k < N → parseFieldDescriptor (T k).2.2.1 = some (tyf k)) (hd : decode K.code pc = .ok (.new ix, 3)) (hlink : Cond.classLink K.y.cls ix C ∈ tw) (hins : Cond.instantiable C (csz ci) ∈ tw) (hini : Cond.initialized C ∈ tw) (hin : ∀ w ∈ u_ws C T N, w ∈ tw) (hc : cls[ci]? = some (C, T, N)) (hfs : (List.range N).map (fun j => defaultValue (tyf j)) = fs) (kk : V l G K h0 (pc + 3) ls (.ref (h.length + 1) :: st) (h ++ [.inr (ci, fs)]) r h') : V l G K h0 pc ls st h r h' := by
  have e1 : (h ++ [(.inr (ci, fs) : Ce)]).length = h.length + 1 := by simp
  have e2 : sl (h ++ [(.inr (ci, fs) : Ce)]) = sl h + csz ci := by rw [sl_app]; simp [sl, sl1]
  have k1 := kk.1
  have k2 := kk.2.1
  rw [e1] at k1
  rw [e2] at k2
  refine ⟨by omega, by omega, ?_⟩
  intro p e s m args below meth c H locs lsA X hP a1 a2 a3 a4 hl
  intro T9 hT X1
  have hz := sz_of (G := G) X1 a1 a2 (by rw [hT]; exact hP)
  rw [hT] at hz
  have hKn := X.kn.1 ci _ hc
  have hcs : h.length - h0.length + 1 ≤ (rmK K h0 h').cells := by show _ ≤ h'.length - h0.length; omega
  have hss : sl h - sl h0 + csz ci ≤ (rmK K h0 h').slots := by show _ ≤ sl h' - sl h0; omega
  have hsz := a4.1
  rw [hz] at hsz
  have W1 : W p l e (rmK K h0 h') s m args below meth c H locs (h.length - h0.length) (sl h - sl h0) (Fin' G below s h0 r h') (F0 m pc lsA (st.map (sv G))) := by
    refine W.newcK (h := G.b + h.length) X.1 X.2.1 X.own (X.tw _ hlink) (X.tw _ hins) (X.tw _ hini) rfl hd hcs hss hKn.2.1 hz (fun H1 kC hkC e3 z1 o1 => ?_)
    have hob : va_at G.D cls (G.b + h.length, cv G (.inr (ci, fs))) H1 := by
      refine ⟨_, hc, (u_born tyf X.tw hin hKn hkC e3 hty).to (fun j hj => ?_)⟩
      subst hfs
      have hj : j < N := hj
      simp [vp_V, hj, sv_dflt]
    have w := kk.2.2 (e := e) (below := below) (H := H1) (locs := locs) X (wl_grow hP (fun q hq => o1 q (by rw [hz] at hq; exact hq)) hob) a1 (by omega) (by omega) ⟨by omega, fun x h1 h2 => (o1 x (by omega)).trans (a4.2.1 x h1 h2), a4.2.2⟩ hl
    rw [e1, e2, show h.length + 1 - h0.length = h.length - h0.length + 1 by omega, show sl h + csz ci - sl h0 = sl h - sl h0 + csz ci by omega] at w
    exact w
  exact W1 T9 hT X1
/-! returns -/
theorem V_iret {v : Int32} {ty : FieldType} (hd : decode K.code pc = .ok (.ireturn, 1)) (hr : K.ret = some ty) (hn : narrow ty (.int v) = .int v) : V l G K h0 pc ls [.int v] h (.inl (some (.int v))) h :=
  ⟨Nat.le_refl _, Nat.le_refl _, fun X hP a1 a2 a3 a4 hl => W.mono (fun t q => by
    obtain ⟨o, run, en, ⟨rfl, hp⟩, Ls, ⟨_, hW, hs⟩, hf⟩ := q
    exact ⟨run, en, hp, hW, Ls, hs, hf⟩) (W.zret (Qc := fun _ _ o t => o = .returned (some (.int v)) ∧ va_P G.D cls (wl G h) t.heap) (free := Ar G) X.1 X.2.1 (X.2.2.2.1.trans hr) hn (fun t ht _ => ⟨rfl, by rw [ht]; exact hP⟩) a4.2.2 hd X.2.2.2.2.1)⟩
theorem V_lret {v : Int64} (hd : decode K.code pc = .ok (.lreturn, 1)) (hr : K.ret = some .long) : V l G K h0 pc ls [.long v] h (.inl (some (.long v))) h :=
  ⟨Nat.le_refl _, Nat.le_refl _, fun X hP a1 a2 a3 a4 hl => W.mono (fun t q => by
    obtain ⟨o, run, en, ⟨rfl, hp⟩, Ls, ⟨_, hW, hs⟩, hf⟩ := q
    exact ⟨run, en, hp, hW, Ls, hs, hf⟩) (W.lret (Qc := fun _ _ o t => o = .returned (some (.long v)) ∧ va_P G.D cls (wl G h) t.heap) (free := Ar G) X.1 X.2.1 (X.2.2.2.1.trans hr) (fun t ht _ => ⟨rfl, by rw [ht]; exact hP⟩) a4.2.2 hd X.2.2.2.2.1)⟩
theorem V_vret (hd : decode K.code pc = .ok (.return_, 1)) (hr : K.ret = none) : V l G K h0 pc ls [] h (.inl none) h :=
  ⟨Nat.le_refl _, Nat.le_refl _, fun X hP a1 a2 a3 a4 hl => W.mono (fun t q => by
    obtain ⟨o, run, en, ⟨rfl, hp⟩, Ls, ⟨_, hW, hs⟩, hf⟩ := q
    exact ⟨run, en, hp, hW, Ls, hs, hf⟩) (W.vret (Qc := fun _ _ o t => o = .returned none ∧ va_P G.D cls (wl G h) t.heap) (free := Ar G) X.1 X.2.1 (X.2.2.2.1.trans hr) (fun t ht _ => ⟨rfl, by rw [ht]; exact hP⟩) a4.2.2 hd X.2.2.2.2.1)⟩
end R4
end
section
section R5
variable {l : Launch} {G : Gb} {K : Kt} {h0 : List Ce} {pc : Nat} {ls : List (Nat × Value)} {st : List Value} {h : List Ce} {r : Rs} {h' : List Ce}
theorem twAt {p : Program} {e : Env} {R : Room} {s : State} {m : MethodId} {args : Array Value} {below : List Frame} {meth : Method} {c : Code} {T : State} {locs : List Loc} {cells slots : Nat} (X0 : Cx G K p s m args meth c) (X : Stand p l e R s m args below meth c T locs cells slots) (w : Cond) (hw : w ∈ tw) (a : Array Value) : w.before a T = true := okW_at (tw_good w hw) X.warmed (X0.tw w hw)
/-- the callee's code stands in the tables -/
theorem Kt.stands {j : Kt} {T : State} {mk : MethodId} (hn : T.methodNamed? j.y = some mk) {a : Array Value} (hk : j.w.before a T = true) : ∃ methY cY, T.vm.method? mk = some methY ∧ methY.code = some cY ∧ cY.maxLocals = j.maxL ∧ parseMethodDescriptor j.y.desc = some methY.sig := by
  obtain ⟨y, code, maxL, ret, fr, lo, hd⟩ := j
  cases hd with
  | nil =>
    obtain ⟨meth, c, h1, h2, h3, h4, h5, h6, h7, h8⟩ := Cond.code_spec hn hk
    exact ⟨meth, c, h1, h2, h4, h8⟩
  | cons q t =>
    obtain ⟨m', meth, c, hn', h1, h2, h3, h4, h5, h6, h7, h8⟩ := Cond.codeWith_spec hk
    cases hn.symm.trans hn'
    exact ⟨meth, c, h1, h2, h4, h8⟩
theorem Kt.named {j : Kt} {T : State} {a : Array Value} (hk : j.w.before a T = true) : ∃ mk, T.methodNamed? j.y = some mk := by
  obtain ⟨y, code, maxL, ret, fr, lo, hd⟩ := j
  cases hd with
  | nil => exact Cond.code_named hk
  | cons q t =>
    obtain ⟨m', meth, c, hn', -⟩ := Cond.codeWith_spec hk
    exact ⟨m', hn'⟩
theorem callDo {j : Kt} {As : List Value} {o : Rs} {h1 : List Ce} (hD : Do l G j As h o h1) (hw : j.w ∈ tw) (hi : Cond.initialized j.y.cls ∈ tw) {p : Program} {e : Env} {R : Room} {s : State} {m : MethodId} {args : Array Value} {below : List Frame} {meth : Method} {c : Code} {T : State} {locs : List Loc} {cells slots : Nat} (X0 : Cx G K p s m args meth c) (X : Stand p l e R s m args below meth c T locs cells slots) (hP : va_P G.D cls (wl G h) T.heap) (hz : T.heap.size = G.b + h.length) (hS : va_S (Ar G) s.heap T.heap locs) {g : JFrame} (hg : g.method = m) (hsize : g.locals.size = c.maxLocals) {ig : Instr} (hdg : decode c.code g.pc = .ok (ig, 3)) {mk : MethodId} (hn : s.methodNamed? j.y = some mk) (hfr : j.fr + 1 ≤ R.frames) (hlo : 2 * g.monitorRoom + (g.stack.map fun v => v.category).sum + (j.maxL + 11) + j.lo ≤ R.locals) (hc : cells + (h1.length - h.length) ≤ R.cells) (hs : slots + (sl h1 - sl h) ≤ R.slots) :
    ∃ s₂ Ls, Steps p.tables e below (doInvoke e (T.setTop g) [] mk (As.map (sv G)).toArray).1 s₂ ∧ Ended s₂ (.java g :: below) (oc G o) ∧ va_P G.D cls (wl G h1) s₂.heap ∧ (T.calling g mk (As.map (sv G)).toArray).WarmedH s₂.vm ∧ (T.calling g mk (As.map (sv G)).toArray).sameButNew ({ s₂ with vm := (T.calling g mk (As.map (sv G)).toArray).vm } : State) Ls (h1.length - h.length) (sl h1 - sl h) ∧ ∀ q ∈ Ls, G.b ≤ q.base := by
  have hTn : T.methodNamed? j.y = some mk := X.named hn
  have hat := twAt X0 X
  obtain ⟨methY, cY, hmY, hcY, hlY, -⟩ := Kt.stands hTn (hat _ hw #[])
  obtain ⟨kY, hkY, -⟩ := className_of_methodNamed hTn
  have hinitY : kY.init = .initialized := Cond.initialized_spec (findClass_of_methodNamed hTn) hkY (hat _ hi #[])
  have hAt : At T g.method c below := by rw [hg]; exact X.here
  have happ : (headSpec (j.w :: tw) (rmK j h h1)).appliesLoose j.y e.platform (T.calling g mk (As.map (sv G)).toArray) = true :=
    Spec.appliesLoose_calling (g := g) hAt hdg hTn hkY hinitY (X.room_calling (g := g) (R' := rmK j h h1) hsize hmY hcY hfr (by rw [hlY]; exact hlo) hc hs) (atoms_intro fun w hw' => by
      rcases List.mem_cons.mp hw' with e | e
      · rw [e]; exact hat _ hw _
      · exact hat _ e _)
  have hfr' : (T.setTop g).frames = [.java g] ++ below := by rw [State.frames_setTop' g hAt.top, X.tail]; rfl
  have hX : va_X G.scr G.L G.xs (T.calling g mk (As.map (sv G)).toArray) (T.calling g mk (As.map (sv G)).toArray).heap := va_X.moved (u := s) X.warmed.alike (X0.scr.1.kept (hS.2.1 _ (Nat.lt_of_lt_of_le X0.scr.2.1 X0.scr.2.2) (Nat.not_le.mpr X0.scr.2.1)))
  obtain ⟨o', s₂, hsteps, -, hend, ho, hP2, hW2, Ls, hsame, hL⟩ := Steps.callFree hD.2.2 p X.admits X.cas X.clock (acts := []) (mid := [.java g]) (below := below) hfr' happ ⟨rfl, hP, hz, hX, X0.scr.2.1, va_K.moved X.warmed.alike X0.kn, Ev.moved (u := s) (U := T.calling g mk (As.map (sv G)).toArray) X.warmed (X0.ev.kept (fun a h1 h2 => hS.2.1 a h1 h2))⟩ trivial
  subst ho
  rw [hfr'] at hend
  exact ⟨s₂, Ls, hsteps, hend, hP2, hW2, hsame, hL⟩
/-- behind a call nothing below the run's own cells has changed -/
theorem va_S.call {s T U : State} {locs Ls : List Loc} {k n : Nat} (hS : va_S (Ar G) s.heap T.heap locs) (hm : T.sameButNew U Ls k n) (hL : ∀ q ∈ Ls, G.b ≤ q.base) : va_S (Ar G) s.heap U.heap (locs ++ Ls) := by
  refine ⟨Nat.le_trans hS.1 hm.2.1, fun q h1 h2 => ?_, fun q hq => ?_⟩
  · have h3 := hS.2.1 q h1 h2
    obtain ⟨c, hc⟩ : ∃ c, s.heap[q]? = some c := ⟨_, Array.getElem?_eq_getElem h1⟩
    rw [hc] at h3
    rw [hc, hm.kept_off (fun i hi => h2 (hL _ hi)) h3]
  · rcases List.mem_append.mp hq with a | a
    · exact hS.2.2 q a
    · exact hL q a
/-- the invoking instruction links: what it asks of the tables is there -/
def Link (l : Launch) (G : Gb) (K j : Kt) (pc : Nat) (h : List Ce) (As rest st : List Value) : Prop :=
  ∀ {p : Program} {e : Env} {R : Room} {s : State} {m : MethodId} {args : Array Value} {below : List Frame} {meth : Method} {c : Code} {T : State} {locs : List Loc} {cells slots : Nat} {lsA : Array Slot}, Cx G K p s m args meth c → Stand p l e R s m args below meth c T locs cells slots → va_P G.D cls (wl G h) T.heap → lsA.size = K.maxL →
    ∃ mk vm', s.methodNamed? j.y = some mk ∧ Stand p l e R s m args below meth c (T.setVm vm') locs cells slots ∧
      ∀ target, (∀ acts, Steps p.tables e below (doInvoke e ((T.setVm vm').setTop (F0 m pc lsA (rest.map (sv G)))) acts mk (As.map (sv G)).toArray).1 target) → Steps p.tables e below (T.setTop (F0 m pc lsA (st.map (sv G)))) target
/-- what a caller K and a callee j owe each other: words, frames -/
def Fit (K j : Kt) : Prop := j.w ∈ tw ∧ Cond.initialized j.y.cls ∈ tw ∧ j.fr + 1 ≤ K.fr ∧ 8 + (j.maxL + 11) + j.lo ≤ K.lo
theorem cat_map (G : Gb) (rest : List Value) : ((rest.map (sv G)).map fun v => v.category) = rest.map fun v => v.category := by
  rw [List.map_map]
  exact List.map_congr_left fun v _ => sv_cat G v
theorem V_call {j : Kt} {As rest : List Value} {h1 : List Ce} {v : Option Value} {ig : Instr} (hd : decode K.code pc = .ok (ig, 3)) (ft : Fit K j) (lk : Link l G K j pc h As rest st) (hrest : (rest.map fun v => v.category).sum ≤ 8) (hD : Do l G j As h (.inl v) h1) (kk : V l G K h0 (pc + 3) ls (v.toList ++ rest) h1 r h') : V l G K h0 pc ls st h r h' := by
  have d1 := hD.1
  have d2 := hD.2.1
  have k1 := kk.1
  have k2 := kk.2.1
  refine ⟨Nat.le_trans d1 k1, Nat.le_trans d2 k2, ?_⟩
  intro p e s m args below meth c H locs lsA X0 hP a1 a2 a3 a4 hl T hT X
  subst hT
  have hz := sz_of (G := G) X a1 a2 hP
  obtain ⟨mk, vm', hn, X1, hstep⟩ := lk X0 X hP hl.1
  have hdg : decode c.code pc = .ok (ig, 3) := by rw [X0.2.1]; exact hd
  obtain ⟨s₂, Ls, hst, hend, hP2, hW2, hsame, hL⟩ := callDo hD ft.1 ft.2.1 X0 X1 hP hz a4 (g := F0 m pc lsA (rest.map (sv G))) rfl (hl.1.trans X0.2.2.1.symm) hdg hn ft.2.2.1
    (by show 2 * 0 + _ + _ + _ ≤ K.lo; have := ft.2.2.2; rw [cat_map]; omega) (by show _ ≤ h'.length - h0.length; omega) (by show _ ≤ sl h' - sl h0; omega)
  obtain ⟨T', X', hW', hsm, ht⟩ := X1.outOf (g := F0 m pc lsA (rest.map (sv G))) rfl hdg hend hW2 hsame
  have e1 : s₂.heap = T'.heap := by rw [ht]; exact State.heap_setTop _ _
  have hS' : va_S (Ar G) s.heap T'.heap (locs ++ Ls) := va_S.call (T := T.setVm vm') (U := T'.setVm (T.setVm vm').vm) a4 hsm hL
  have w := kk.2.2 (e := e) (below := below) (H := T'.heap) (locs := locs ++ Ls) X0 (by rw [← e1]; exact hP2) a1 (by omega) (by omega) hS' hl
  rw [show h.length - h0.length + (h1.length - h.length) = h1.length - h0.length by omega, show sl h - sl h0 + (sl h1 - sl h) = sl h1 - sl h0 by omega] at X'
  obtain ⟨t, b1, b2⟩ := w T' rfl X'
  refine ⟨t, hstep _ (fun acts => ?_), b2⟩
  rw [doInvoke_state]
  refine hst.trans ?_
  rw [ht]
  cases v <;> exact b1
/-- the callee throws, and nobody catches here -/
theorem V_callThr {j : Kt} {As rest : List Value} {h1 : List Ce} {a : Nat} {ig : Instr} (hd : decode K.code pc = .ok (ig, 3)) (ft : Fit K j) (lk : Link l G K j pc h As rest st) (hrest : (rest.map fun v => v.category).sum ≤ 8) (hout : K.hd.all (fun x => !(decide (x.1 ≤ pc) && decide (pc < x.2.1))) = true) (hD : Do l G j As h (.inr a) h1) : V l G K h0 pc ls st h (.inr a) h1 := by
  have d1 := hD.1
  have d2 := hD.2.1
  refine ⟨d1, d2, ?_⟩
  intro p e s m args below meth c H locs lsA X0 hP a1 a2 a3 a4 hl T hT X
  subst hT
  have hz := sz_of (G := G) X a1 a2 hP
  obtain ⟨mk, vm', hn, X1, hstep⟩ := lk X0 X hP hl.1
  have hdg : decode c.code pc = .ok (ig, 3) := by rw [X0.2.1]; exact hd
  obtain ⟨s₂, Ls, hst, hend, hP2, hW2, hsame, hL⟩ := callDo hD ft.1 ft.2.1 X0 X1 hP hz a4 (g := F0 m pc lsA (rest.map (sv G))) rfl (hl.1.trans X0.2.2.1.symm) hdg hn ft.2.2.1
    (by show 2 * 0 + _ + _ + _ ≤ K.lo; have := ft.2.2.2; rw [cat_map]; omega) (by show _ ≤ h1.length - h0.length; omega) (by show _ ≤ sl h1 - sl h0; omega)
  obtain ⟨T', X', hW', hsm, ht⟩ := X1.outOfThrown (g := F0 m pc lsA (rest.map (sv G))) rfl hend hW2 hsame
  have e1 : s₂.heap = T'.heap := by rw [ht]; exact Stand.throwing_heap _ _ _
  have hS' : va_S (Ar G) s.heap T'.heap (locs ++ Ls) := va_S.call (T := T.setVm vm') (U := T'.setVm (T.setVm vm').vm) a4 hsm hL
  rw [show h.length - h0.length + (h1.length - h.length) = h1.length - h0.length by omega, show sl h - sl h0 + (sl h1 - sl h) = sl h1 - sl h0 by omega] at X'
  obtain ⟨q1, q2, q3, q4, q5⟩ := X'.leaveThrown (G.b + a) (g := F0 m pc lsA (rest.map (sv G))) rfl rfl rfl (fun x hx => by
    have hm : (x.startPc, x.endPc, x.handlerPc, x.catchType) ∈ K.hd := by rw [← X0.2.2.2.2.2.2.2.1]; exact List.mem_map.mpr ⟨x, hx, rfl⟩
    have hz9 := List.all_eq_true.mp hout _ hm
    simp at hz9
    simp
    intro hz8
    omega) X0.2.2.2.2.1
  refine ⟨_, hstep _ (fun acts => ?_), q2, q3, ?_, q4, locs ++ Ls, q5, hS'.2.2⟩
  · rw [doInvoke_state]
    refine hst.trans ?_
    rw [ht]
    exact q1
  · show va_P _ _ _ T'.heap
    rw [← e1]
    exact hP2
/-! the links -/
theorem lkS {j : Kt} {ix : Nat} {As rest : List Value} (hd : decode K.code pc = .ok (.invokestatic ix, 3)) (hw : j.w ∈ tw) (hi : Cond.initialized j.y.cls ∈ tw) (hl : Cond.methodLink K.y.cls ix j.y ∈ tw) (hs : Cond.static j.y ∈ tw) (hy : j.y.cls ≠ "java/lang/invoke/MethodHandle" ∧ j.y.cls ≠ "java/lang/invoke/VarHandle") (hn : ∀ sig, parseMethodDescriptor j.y.desc = some sig → As.length = sig.parameters.length) (hst : st = As.reverse ++ rest) : Link l G K j pc h As rest st := by
  intro p e R s m args below meth c T locs cells slots lsA X0 X hP hz
  obtain ⟨mk, hnm⟩ := Kt.named (X0.tw _ hw)
  obtain ⟨methM, cM, hmM, -, -, hsig⟩ := Kt.stands hnm (X0.tw _ hw)
  obtain ⟨kP, hkP, -⟩ := className_of_methodNamed hnm
  have hinit : kP.init = .initialized := Cond.initialized_spec (findClass_of_methodNamed hnm) hkP (X0.tw _ hi)
  obtain ⟨vm₁, X₁, h₁⟩ := X.invokestatic X0.1 X0.own (X0.tw _ hl) hnm hmM (Cond.static_spec hnm hmM (X0.tw _ hs)) hkP hinit hy (g := F0 m pc lsA (st.map (sv G))) rfl (argsL := As.map (sv G)) (rest := rest.map (sv G)) (by rw [List.length_map]; exact hn _ hsig) (by rw [hst]; simp) (by rw [X0.2.1]; exact hd)
  exact ⟨mk, vm₁, hnm, X₁, h₁⟩
theorem lkSN {j : Kt} {ix : Nat} {host : String} {As rest : List Value} (hd : decode K.code pc = .ok (.invokestatic ix, 3)) (hw : j.w ∈ tw) (hi : Cond.initialized j.y.cls ∈ tw) (hl : Cond.methodLinkNest K.y.cls ix j.y host ∈ tw) (hs : Cond.static j.y ∈ tw) (hy : j.y.cls ≠ "java/lang/invoke/MethodHandle" ∧ j.y.cls ≠ "java/lang/invoke/VarHandle") (hn : ∀ sig, parseMethodDescriptor j.y.desc = some sig → As.length = sig.parameters.length) (hst : st = As.reverse ++ rest) : Link l G K j pc h As rest st := by
  intro p e R s m args below meth c T locs cells slots lsA X0 X hP hz
  obtain ⟨mk, hnm⟩ := Kt.named (X0.tw _ hw)
  obtain ⟨methM, cM, hmM, -, -, hsig⟩ := Kt.stands hnm (X0.tw _ hw)
  obtain ⟨kP, hkP, -⟩ := className_of_methodNamed hnm
  have hinit : kP.init = .initialized := Cond.initialized_spec (findClass_of_methodNamed hnm) hkP (X0.tw _ hi)
  obtain ⟨vm₁, X₁, h₁⟩ := X.invokestaticNest X0.1 X0.own (X0.tw _ hl) hnm hmM (Cond.static_spec hnm hmM (X0.tw _ hs)) hkP hinit hy (g := F0 m pc lsA (st.map (sv G))) rfl (argsL := As.map (sv G)) (rest := rest.map (sv G)) (by rw [List.length_map]; exact hn _ hsig) (by rw [hst]; simp) (by rw [X0.2.1]; exact hd)
  exact ⟨mk, vm₁, hnm, X₁, h₁⟩
/-- the receiver's cell: an object of the class C -/
theorem recvOf {p : Program} {s : State} {m : MethodId} {args : Array Value} {meth : Method} {c : Code} {H : Heap} (X0 : Cx G K p s m args meth c) (hP : va_P G.D cls (wl G h) H) {a ci : Nat} {fs : List Value} {q : vw_C} (hcell : h[a]? = some (.inr (ci, fs))) (hc : cls[ci]? = some q) : ∃ cell, H[G.b + a]? = some cell ∧ (∀ k, cell.vm ≠ .statics k) ∧ s.vm.findClass q.1 = some cell.cls := by
  obtain ⟨r, h1, cell, q1, q2, q3, q4⟩ := hP a _ (wl_at hcell)
  have hr : r = q := Option.some.inj (h1.symm.trans hc)
  subst hr
  refine ⟨cell, q1, fun k z => ?_, ?_⟩
  · rw [q3] at z; cases z
  · rw [q2]; exact (X0.kn.1 ci _ hc).2.1
theorem lkV {j : Kt} {ix a ci : Nat} {fs : List Value} {q : vw_C} {As rest : List Value} (hd : decode K.code pc = .ok (.invokevirtual ix, 3)) (hw : j.w ∈ tw) (hl : Cond.methodLink K.y.cls ix j.y ∈ tw) (hs : Cond.instanceMethod j.y ∈ tw) (hse : Cond.selects q.1 j.y j.y ∈ tw) (hy : j.y.cls ≠ "java/lang/invoke/MethodHandle" ∧ j.y.cls ≠ "java/lang/invoke/VarHandle") (hcell : h[a]? = some (.inr (ci, fs))) (hc : cls[ci]? = some q) (hn : ∀ sig, parseMethodDescriptor j.y.desc = some sig → As.length = sig.parameters.length) (hst : st = As.reverse ++ .ref (a + 1) :: rest) : Link l G K j pc h (.ref (a + 1) :: As) rest st := by
  intro p e R s m args below meth c T locs cells slots lsA X0 X hP hz
  obtain ⟨mk, methM, hnamed, hmethM, hstM, habM⟩ := Cond.instanceMethod_spec (X0.tw _ hs)
  obtain ⟨methM', cM, hmM', -, -, hsig⟩ := Kt.stands hnamed (X0.tw _ hw)
  cases hmethM.symm.trans hmM'
  obtain ⟨cell, c1, c2, c3⟩ := recvOf X0 hP hcell hc
  obtain ⟨k2, r2, m2, q1, q2, q3, q4, kP, hkP, hkPi⟩ := Cond.selects_spec (X0.tw _ hse)
  cases c3.symm.trans q1
  cases (State.methodFound?_of_named hnamed hy).symm.trans q2
  cases hnamed.symm.trans q3
  have hselP : selectMethod e.platform s.vm cell.cls mk = .method mk := by rw [Launch.admits_selectMethod X.admits]; exact q4
  obtain ⟨vm₁, X₁, h₁⟩ := X.invokevirtual X0.1 X0.own (X0.tw _ hl) hnamed hmethM hstM hkP hkPi hy (a := G.b + a) (cell := cell) c1 c2 hselP hmethM habM hkP hkPi (g := F0 m pc lsA (st.map (sv G))) rfl (argsL := As.map (sv G)) (rest := rest.map (sv G)) (by rw [List.length_map]; exact hn _ hsig) (by rw [hst]; simp [sv]) (by rw [X0.2.1]; exact hd)
  exact ⟨mk, vm₁, hnamed, X₁, h₁⟩
theorem lkI {j : Kt} {ix a : Nat} {As rest : List Value} (hd : decode K.code pc = .ok (.invokespecial ix, 3)) (hini : j.y.name = "<init>") (hret : j.ret = none) (hhd : j.hd = []) (hw : j.w ∈ tw) (hl : Cond.methodLink K.y.cls ix j.y ∈ tw) (hs : Cond.instanceMethod j.y ∈ tw) (hy : j.y.cls ≠ "java/lang/invoke/MethodHandle" ∧ j.y.cls ≠ "java/lang/invoke/VarHandle") (hn : ∀ sig, parseMethodDescriptor j.y.desc = some sig → As.length = sig.parameters.length) (hst : st = As.reverse ++ .ref (a + 1) :: rest) : Link l G K j pc h (.ref (a + 1) :: As) rest st := by
  intro p e R s m args below meth c T locs cells slots lsA X0 X hP hz
  have hpl : e.platform.magicAccessors = ({} : Platform).magicAccessors := by rw [X.admits.platform]
  have hcode : (Cond.code j.y j.code j.maxL none).before args s = true := by
    have := X0.tw _ hw
    obtain ⟨y, code, maxL, ret, fr, lo, hd⟩ := j
    cases hhd
    cases hret
    exact this
  obtain ⟨mk, methM, cM, kP, vm₁, hnamed, hmethM, hcodeM, -, hlocalsM, -, hkP, -, hW₁, hstep₁⟩ := Steps.initColdArgs (e := e) X.here X0.1 X.warmed hpl X0.own hini hy (X0.tw _ hl) (X0.tw _ hs) hcode (f := F0 m pc lsA (st.map (sv G))) rfl (a := G.b + a) (argsL := As.map (sv G)) (rest := rest.map (sv G)) (fun sig hsig => by rw [List.length_map]; exact hn _ hsig) (by rw [hst]; simp [sv]) (by rw [X0.2.1]; exact hd)
  exact ⟨mk, vm₁, hnamed, X.noted hW₁, hstep₁⟩
theorem V_objInit {ix a : Nat} (hd : decode K.code pc = .ok (.invokespecial ix, 3)) (hl : Cond.methodLink K.y.cls ix Lib.objectInit ∈ tw) (hs : Cond.instanceMethod Lib.objectInit ∈ tw) (hw : Cond.code Lib.objectInit ⟨#[0xb1]⟩ 1 none ∈ tw) (hf : 1 ≤ K.fr) (hlo : (st.map fun v => v.category).sum + 12 ≤ K.lo) (kk : V l G K h0 (pc + 3) ls st h r h') : V l G K h0 pc ls (.ref (a + 1) :: st) h r h' :=
  ⟨kk.1, kk.2.1, fun X0 hP a1 a2 a3 a4 hz => W.objInit X0.1 X0.2.1 X0.own (X0.tw _ hl) (X0.tw _ hs) (X0.tw _ hw) rfl (hz.1.trans X0.2.2.1.symm) rfl hd hf (by show 2 * 0 + _ + 12 ≤ K.lo; rw [cat_map]; omega) (kk.2.2 X0 hP a1 a2 a3 a4 hz)⟩
theorem V_mmax {ix : Nat} {x y : Int32} (hd : decode K.code pc = .ok (.invokestatic ix, 3)) (hl : Cond.methodLink K.y.cls ix Lib.Math.max.name ∈ tw) (hs : Cond.static Lib.Math.max.name ∈ tw) (hi : Cond.initialized "java/lang/Math" ∈ tw) (hw : Cond.code Lib.Math.max.name Lib.Math.max.code 2 (some .int) ∈ tw) (hf : 1 ≤ K.fr) (hlo : (st.map fun v => v.category).sum + 13 ≤ K.lo) (kk : V l G K h0 (pc + 3) ls (.int (if x < y then y else x) :: st) h r h') : V l G K h0 pc ls (.int y :: .int x :: st) h r h' := by
  have k1 := kk.1
  have k2 := kk.2.1
  exact ⟨k1, k2, fun X0 hP a1 a2 a3 a4 hz => va_mmax X0.1 X0.2.1 (X0.2.2.1.trans hz.1.symm) X0.own (X0.tw _ hl) (X0.tw _ hs) (X0.tw _ hi) (X0.tw _ hw) hf (by show _ + 13 ≤ K.lo; rw [cat_map]; omega) (by show _ ≤ h'.length - h0.length; omega) (by show _ ≤ sl h' - sl h0; omega) hd (kk.2.2 X0 hP a1 a2 a3 a4 hz)⟩
theorem V_mmin {ix : Nat} {x y : Int32} (hd : decode K.code pc = .ok (.invokestatic ix, 3)) (hl : Cond.methodLink K.y.cls ix Lib.Math.min.name ∈ tw) (hs : Cond.static Lib.Math.min.name ∈ tw) (hi : Cond.initialized "java/lang/Math" ∈ tw) (hw : Cond.code Lib.Math.min.name Lib.Math.min.code 2 (some .int) ∈ tw) (hf : 1 ≤ K.fr) (hlo : (st.map fun v => v.category).sum + 13 ≤ K.lo) (kk : V l G K h0 (pc + 3) ls (.int (if y < x then y else x) :: st) h r h') : V l G K h0 pc ls (.int y :: .int x :: st) h r h' := by
  have k1 := kk.1
  have k2 := kk.2.1
  exact ⟨k1, k2, fun X0 hP a1 a2 a3 a4 hz => va_mmin X0.1 X0.2.1 (X0.2.2.1.trans hz.1.symm) X0.own (X0.tw _ hl) (X0.tw _ hs) (X0.tw _ hi) (X0.tw _ hw) hf (by show _ + 13 ≤ K.lo; rw [cat_map]; omega) (by show _ ≤ h'.length - h0.length; omega) (by show _ ≤ sl h' - sl h0; omega) hd (kk.2.2 X0 hP a1 a2 a3 a4 hz)⟩
theorem V_mabs {ix : Nat} {x : Int32} (hd : decode K.code pc = .ok (.invokestatic ix, 3)) (hl : Cond.methodLink K.y.cls ix Lib.Math.abs.name ∈ tw) (hs : Cond.static Lib.Math.abs.name ∈ tw) (hi : Cond.initialized "java/lang/Math" ∈ tw) (hw : Cond.code Lib.Math.abs.name Lib.Math.abs.code 1 (some .int) ∈ tw) (hf : 1 ≤ K.fr) (hlo : (st.map fun v => v.category).sum + 13 ≤ K.lo) (kk : V l G K h0 (pc + 3) ls (.int (if 0 ≤ x then x else 0 - x) :: st) h r h') : V l G K h0 pc ls (.int x :: st) h r h' := by
  have k1 := kk.1
  have k2 := kk.2.1
  exact ⟨k1, k2, fun X0 hP a1 a2 a3 a4 hz => va_mabs X0.1 X0.2.1 (X0.2.2.1.trans hz.1.symm) X0.own (X0.tw _ hl) (X0.tw _ hs) (X0.tw _ hi) (X0.tw _ hw) hf (by show _ + 13 ≤ K.lo; rw [cat_map]; omega) (by show _ ≤ h'.length - h0.length; omega) (by show _ ≤ sl h' - sl h0; omega) hd (kk.2.2 X0 hP a1 a2 a3 a4 hz)⟩
theorem V_copyi {ix a b n0 n1 : Nat} {f g : Nat → Int32} {sp dp n : Int32} (hd : decode K.code pc = .ok (.invokestatic ix, 3)) (hl : Cond.methodLink K.y.cls ix arraycopyName ∈ tw) (hna : Cond.native arraycopyName ∈ tw) (hs : Cond.static arraycopyName ∈ tw) (hi : Cond.initialized "java/lang/System" ∈ tw) (ha : h[a]? = some (.inl (.int, n0, .inl f))) (hb : h[b]? = some (.inl (.int, n1, .inl g))) (h1 : ¬ sp < 0) (h2 : ¬ dp < 0) (h3 : ¬ n < 0) (h4 : sp.toNatClampNeg + n.toNatClampNeg ≤ n0) (h5 : dp.toNatClampNeg + n.toNatClampNeg ≤ n1) (hf : 1 ≤ K.fr) (hlo : (st.map fun v => v.category).sum + (nativeFrameWords "java/lang/System" "arraycopy" 5 + 11) ≤ K.lo) (kk : V l G K h0 (pc + 3) ls st (h.set b (.inl (.int, n1, .inl (va_cpy f g sp.toNatClampNeg dp.toNatClampNeg n.toNatClampNeg)))) r h') : V l G K h0 pc ls (.int n :: .int dp :: .ref (b + 1) :: .int sp :: .ref (a + 1) :: st) h r h' := by
  have es : sl (h.set b (.inl (.int, n1, .inl (va_cpy f g sp.toNatClampNeg dp.toNatClampNeg n.toNatClampNeg)))) = sl h := sl_set h b _ _ hb rfl
  refine ⟨by have := kk.1; rwa [List.length_set] at this, by have := kk.2.1; rwa [es] at this, ?_⟩
  intro p e s m args below meth c H locs lsA X hP a1 a2 a3 a4 hz
  refine va_copyi X.1 X.2.1 (X.2.2.1.trans hz.1.symm) X.own (X.tw _ hl) (X.tw _ hna) (X.tw _ hs) (X.tw _ hi) X.kn hP (wl_D G h) a4 a b 0 0 (wl_at ha) (wl_at hb) (ty := .int) rfl rfl rfl h1 h2 h3 h4 h5 (fun _ _ => rfl) hf (by show _ ≤ K.lo; rw [cat_map]; omega) hd (fun H1 locs1 hP1 _ hS1 => ?_)
  have w := kk.2.2 (e := e) (below := below) (H := H1) (locs := locs1) X (by rw [← wl_set]; exact hP1) a1 (by rw [List.length_set]; exact a2) (by rw [es]; exact a3) hS1 hz
  rw [List.length_set, es] at w
  exact w
end R5
end
section
/-! SITES: what an instruction asks of the tables, once for all -/
section R6
variable {l : Launch} {G : Gb} {K : Kt} {h0 : List Ce} {pc : Nat} {ls : List (Nat × Value)} {st : List Value} {h : List Ce} {r : Rs} {h' : List Ce}
def SiteG (K : Kt) (pc ci j : Nat) : Prop := ∃ (ix N : Nat) (C ref : String) (T : u_T), decode K.code pc = .ok (.getfield ix, 3) ∧ Cond.fieldLink K.y.cls ix ref (T j).2.1 (T j).2.2.1 ∈ tw ∧ (∀ w ∈ u_ws C T N, w ∈ tw) ∧ (T j).1 = ref ∧ cls[ci]? = some (C, T, N) ∧ j < N
theorem V_gf {a ci j : Nat} {fs : List Value} {v : Value} (s : SiteG K pc ci j) (hcell : h[a]? = some (.inr (ci, fs))) (hv : fs[j]? = some v) (kk : V l G K h0 (pc + 3) ls (v :: st) h r h') : V l G K h0 pc ls (.ref (a + 1) :: st) h r h' := by
  obtain ⟨ix, N, C, ref, T, s1, s2, s3, s4, s5, s6⟩ := s
  exact V_get s1 s2 s3 s4 hcell s5 s6 hv kk
def SiteP (K : Kt) (pc ci j : Nat) (ty : FieldType) : Prop := ∃ (ix N : Nat) (C ref : String) (T : u_T) (tyf : Nat → FieldType), (∀ k, k < N → parseFieldDescriptor (T k).2.2.1 = some (tyf k)) ∧ (∀ a, a < N → ∀ b, b < N → a ≠ b → (T a).2.1 ≠ (T b).2.1) ∧ decode K.code pc = .ok (.putfield ix, 3) ∧ Cond.fieldLink K.y.cls ix ref (T j).2.1 (T j).2.2.1 ∈ tw ∧ (∀ w ∈ u_ws C T N, w ∈ tw) ∧ (T j).1 = ref ∧ ((T j).2.2.2 = false ∨ ((T j).2.2.2 = true ∧ K.y.name = "<init>" ∧ (T j).1 = K.y.cls)) ∧ cls[ci]? = some (C, T, N) ∧ j < N ∧ tyf j = ty
theorem V_pf {a ci j : Nat} {fs : List Value} {v : Value} {ty : FieldType} (s : SiteP K pc ci j ty) (hcell : h[a]? = some (.inr (ci, fs))) (hl' : j < fs.length) (hn : narrow ty (sv G v) = sv G v) (hf : fits ty (sv G v) = true) (kk : V l G K h0 (pc + 3) ls st (h.set a (.inr (ci, fs.set j v))) r h') : V l G K h0 pc ls (v :: .ref (a + 1) :: st) h r h' := by
  obtain ⟨ix, N, C, ref, T, tyf, s1, s2, s3, s4, s5, s6, s7, s8, s9, s10⟩ := s
  subst s10
  rcases s7 with q | ⟨q1, q2, q3⟩
  · exact V_put tyf s1 s2 s3 s4 s5 s6 q hcell s8 s9 hn hf hl' kk
  · exact V_putF tyf s1 s2 s3 s4 s5 s6 q1 q2 q3 hcell s8 s9 hn hf hl' kk
def SiteN (K : Kt) (pc ci : Nat) (fs : List Value) : Prop := ∃ (ix N : Nat) (C : String) (T : u_T) (tyf : Nat → FieldType), (∀ k, k < N → parseFieldDescriptor (T k).2.2.1 = some (tyf k)) ∧ decode K.code pc = .ok (.new ix, 3) ∧ Cond.classLink K.y.cls ix C ∈ tw ∧ Cond.instantiable C (csz ci) ∈ tw ∧ Cond.initialized C ∈ tw ∧ (∀ w ∈ u_ws C T N, w ∈ tw) ∧ cls[ci]? = some (C, T, N) ∧ (List.range N).map (fun j => defaultValue (tyf j)) = fs
theorem V_nw {ci : Nat} {fs : List Value} (s : SiteN K pc ci fs) (kk : V l G K h0 (pc + 3) ls (.ref (h.length + 1) :: st) (h ++ [.inr (ci, fs)]) r h') : V l G K h0 pc ls st h r h' := by
  obtain ⟨ix, N, C, T, tyf, s1, s2, s3, s4, s5, s6, s7, s8⟩ := s
  exact V_new tyf s1 s2 s3 s4 s5 s6 s7 s8 kk
def nMH (j : Kt) : Prop := j.y.cls ≠ "java/lang/invoke/MethodHandle" ∧ j.y.cls ≠ "java/lang/invoke/VarHandle"
def nPar (j : Kt) (n : Nat) : Prop := ∀ sig, parseMethodDescriptor j.y.desc = some sig → n = sig.parameters.length
def SiteV (K j : Kt) (pc ci n : Nat) : Prop := ∃ (ix : Nat) (q : vw_C), decode K.code pc = .ok (.invokevirtual ix, 3) ∧ Fit K j ∧ Cond.methodLink K.y.cls ix j.y ∈ tw ∧ Cond.instanceMethod j.y ∈ tw ∧ Cond.selects q.1 j.y j.y ∈ tw ∧ cls[ci]? = some q ∧ nMH j ∧ nPar j n
theorem V_cV {j : Kt} {a ci n : Nat} {fs As rest : List Value} {v : Option Value} {h1 : List Ce} (s : SiteV K j pc ci n) (hD : Do l G j (.ref (a + 1) :: As) h (.inl v) h1) (hcell : h[a]? = some (.inr (ci, fs))) (hn : As.length = n) (hst : st = As.reverse ++ .ref (a + 1) :: rest) (hrest : (rest.map fun v => v.category).sum ≤ 8) (kk : V l G K h0 (pc + 3) ls (v.toList ++ rest) h1 r h') : V l G K h0 pc ls st h r h' := by
  obtain ⟨ix, q, s1, s2, s3, s4, s5, s6, s7, s8⟩ := s
  exact V_call s1 s2 (lkV s1 s2.1 s3 s4 s5 s7 hcell s6 (fun sig hs => hn.trans (s8 sig hs)) hst) hrest hD kk
theorem V_cVt {j : Kt} {a ci n x : Nat} {fs As rest : List Value} {h1 : List Ce} (s : SiteV K j pc ci n) (hD : Do l G j (.ref (a + 1) :: As) h (.inr x) h1) (hcell : h[a]? = some (.inr (ci, fs))) (hn : As.length = n) (hst : st = As.reverse ++ .ref (a + 1) :: rest) (hrest : (rest.map fun v => v.category).sum ≤ 8) (hout : K.hd.all (fun x => !(decide (x.1 ≤ pc) && decide (pc < x.2.1))) = true) : V l G K h0 pc ls st h (.inr x) h1 := by
  obtain ⟨ix, q, s1, s2, s3, s4, s5, s6, s7, s8⟩ := s
  exact V_callThr s1 s2 (lkV s1 s2.1 s3 s4 s5 s7 hcell s6 (fun sig hs => hn.trans (s8 sig hs)) hst) hrest hout hD
def SiteS (K j : Kt) (pc n : Nat) : Prop := ∃ (ix : Nat), decode K.code pc = .ok (.invokestatic ix, 3) ∧ Fit K j ∧ (Cond.methodLink K.y.cls ix j.y ∈ tw ∨ ∃ host, Cond.methodLinkNest K.y.cls ix j.y host ∈ tw) ∧ Cond.static j.y ∈ tw ∧ nMH j ∧ nPar j n
theorem lkSS {j : Kt} {n : Nat} {As rest : List Value} (s : SiteS K j pc n) (hn : As.length = n) (hst : st = As.reverse ++ rest) : ∃ ix, decode K.code pc = .ok (.invokestatic ix, 3) ∧ Link l G K j pc h As rest st := by
  obtain ⟨ix, s1, s2, s3, s4, s5, s6⟩ := s
  rcases s3 with q | ⟨host, q⟩
  · exact ⟨ix, s1, lkS s1 s2.1 s2.2.1 q s4 s5 (fun sig hs => hn.trans (s6 sig hs)) hst⟩
  · exact ⟨ix, s1, lkSN s1 s2.1 s2.2.1 q s4 s5 (fun sig hs => hn.trans (s6 sig hs)) hst⟩
theorem SiteS.fit {j : Kt} {n : Nat} (s : SiteS K j pc n) : Fit K j := by
  obtain ⟨ix, s1, s2, s3, s4, s5, s6⟩ := s
  exact s2
theorem V_cS {j : Kt} {n : Nat} {As rest : List Value} {v : Option Value} {h1 : List Ce} (s : SiteS K j pc n) (hD : Do l G j As h (.inl v) h1) (hn : As.length = n) (hst : st = As.reverse ++ rest) (hrest : (rest.map fun v => v.category).sum ≤ 8) (kk : V l G K h0 (pc + 3) ls (v.toList ++ rest) h1 r h') : V l G K h0 pc ls st h r h' := by
  obtain ⟨ix, s1, lk⟩ := lkSS (l := l) (G := G) (h := h) s hn hst
  exact V_call s1 s.fit lk hrest hD kk
theorem V_cSt {j : Kt} {n x : Nat} {As rest : List Value} {h1 : List Ce} (s : SiteS K j pc n) (hD : Do l G j As h (.inr x) h1) (hn : As.length = n) (hst : st = As.reverse ++ rest) (hrest : (rest.map fun v => v.category).sum ≤ 8) (hout : K.hd.all (fun x => !(decide (x.1 ≤ pc) && decide (pc < x.2.1))) = true) : V l G K h0 pc ls st h (.inr x) h1 := by
  obtain ⟨ix, s1, lk⟩ := lkSS (l := l) (G := G) (h := h) s hn hst
  exact V_callThr s1 s.fit lk hrest hout hD
theorem lkIN {j : Kt} {ix a : Nat} {host : String} {As rest : List Value} (hd : decode K.code pc = .ok (.invokespecial ix, 3)) (hini : j.y.name = "<init>") (hret : j.ret = none) (hhd : j.hd = []) (hw : j.w ∈ tw) (hl : Cond.methodLinkNest K.y.cls ix j.y host ∈ tw) (hs : Cond.instanceMethod j.y ∈ tw) (hy : j.y.cls ≠ "java/lang/invoke/MethodHandle" ∧ j.y.cls ≠ "java/lang/invoke/VarHandle") (hn : ∀ sig, parseMethodDescriptor j.y.desc = some sig → As.length = sig.parameters.length) (hst : st = As.reverse ++ .ref (a + 1) :: rest) : Link l G K j pc h (.ref (a + 1) :: As) rest st := by
  intro p e R s m args below meth c T locs cells slots lsA X0 X hP hz
  have hpl : e.platform.magicAccessors = ({} : Platform).magicAccessors := by rw [X.admits.platform]
  have hcode : (Cond.code j.y j.code j.maxL none).before args s = true := by
    have := X0.tw _ hw
    obtain ⟨y, code, maxL, ret, fr, lo, hd⟩ := j
    cases hhd
    cases hret
    exact this
  obtain ⟨mk, methM, cM, kP, vm₁, hnamed, hmethM, hcodeM, -, hlocalsM, -, hkP, -, hW₁, hstep₁⟩ := Steps.initColdArgsNest (e := e) X.here X0.1 X.warmed hpl X0.own hini hy (X0.tw _ hl) (X0.tw _ hs) hcode (f := F0 m pc lsA (st.map (sv G))) rfl (a := G.b + a) (argsL := As.map (sv G)) (rest := rest.map (sv G)) (fun sig hsig => by rw [List.length_map]; exact hn _ hsig) (by rw [hst]; simp [sv]) (by rw [X0.2.1]; exact hd)
  exact ⟨mk, vm₁, hnamed, X.noted hW₁, hstep₁⟩
def SiteI (K j : Kt) (pc n : Nat) : Prop := ∃ (ix : Nat), decode K.code pc = .ok (.invokespecial ix, 3) ∧ Fit K j ∧ j.y.name = "<init>" ∧ j.ret = none ∧ j.hd = [] ∧ (Cond.methodLink K.y.cls ix j.y ∈ tw ∨ ∃ host, Cond.methodLinkNest K.y.cls ix j.y host ∈ tw) ∧ Cond.instanceMethod j.y ∈ tw ∧ nMH j ∧ nPar j n
theorem V_cI {j : Kt} {a n : Nat} {As rest : List Value} {v : Option Value} {h1 : List Ce} (s : SiteI K j pc n) (hD : Do l G j (.ref (a + 1) :: As) h (.inl v) h1) (hn : As.length = n) (hst : st = As.reverse ++ .ref (a + 1) :: rest) (hrest : (rest.map fun v => v.category).sum ≤ 8) (kk : V l G K h0 (pc + 3) ls (v.toList ++ rest) h1 r h') : V l G K h0 pc ls st h r h' := by
  obtain ⟨ix, s1, s2, s3, s4, s5, s6, s7, s8, s9⟩ := s
  rcases s6 with q | ⟨host, q⟩
  · exact V_call s1 s2 (lkI s1 s3 s4 s5 s2.1 q s7 s8 (fun sig hs => hn.trans (s9 sig hs)) hst) hrest hD kk
  · exact V_call s1 s2 (lkIN s1 s3 s4 s5 s2.1 q s7 s8 (fun sig hs => hn.trans (s9 sig hs)) hst) hrest hD kk
def SiteO (K : Kt) (pc : Nat) : Prop := ∃ ix, decode K.code pc = .ok (.invokespecial ix, 3) ∧ Cond.methodLink K.y.cls ix Lib.objectInit ∈ tw ∧ Cond.instanceMethod Lib.objectInit ∈ tw ∧ Cond.code Lib.objectInit ⟨#[0xb1]⟩ 1 none ∈ tw ∧ 1 ≤ K.fr ∧ 20 ≤ K.lo
theorem V_ob {a : Nat} (s : SiteO K pc) (hst : (st.map fun v => v.category).sum ≤ 8) (kk : V l G K h0 (pc + 3) ls st h r h') : V l G K h0 pc ls (.ref (a + 1) :: st) h r h' := by
  obtain ⟨ix, s1, s2, s3, s4, s5, s6⟩ := s
  exact V_objInit s1 s2 s3 s4 s5 (by omega) kk
def SiteM (K : Kt) (pc : Nat) (nm : MethodName) (cd : ByteArray) (n : Nat) : Prop := ∃ ix, decode K.code pc = .ok (.invokestatic ix, 3) ∧ Cond.methodLink K.y.cls ix nm ∈ tw ∧ Cond.static nm ∈ tw ∧ Cond.initialized "java/lang/Math" ∈ tw ∧ Cond.code nm cd n (some .int) ∈ tw ∧ 1 ≤ K.fr ∧ 21 ≤ K.lo
theorem V_max {x y : Int32} (s : SiteM K pc Lib.Math.max.name Lib.Math.max.code 2) (hst : (st.map fun v => v.category).sum ≤ 8) (kk : V l G K h0 (pc + 3) ls (.int (if x < y then y else x) :: st) h r h') : V l G K h0 pc ls (.int y :: .int x :: st) h r h' := by
  obtain ⟨ix, s1, s2, s3, s4, s5, s6, s7⟩ := s
  exact V_mmax s1 s2 s3 s4 s5 s6 (by omega) kk
theorem V_min {x y : Int32} (s : SiteM K pc Lib.Math.min.name Lib.Math.min.code 2) (hst : (st.map fun v => v.category).sum ≤ 8) (kk : V l G K h0 (pc + 3) ls (.int (if y < x then y else x) :: st) h r h') : V l G K h0 pc ls (.int y :: .int x :: st) h r h' := by
  obtain ⟨ix, s1, s2, s3, s4, s5, s6, s7⟩ := s
  exact V_mmin s1 s2 s3 s4 s5 s6 (by omega) kk
theorem V_abs {x : Int32} (s : SiteM K pc Lib.Math.abs.name Lib.Math.abs.code 1) (hst : (st.map fun v => v.category).sum ≤ 8) (kk : V l G K h0 (pc + 3) ls (.int (if 0 ≤ x then x else 0 - x) :: st) h r h') : V l G K h0 pc ls (.int x :: st) h r h' := by
  obtain ⟨ix, s1, s2, s3, s4, s5, s6, s7⟩ := s
  exact V_mabs s1 s2 s3 s4 s5 s6 (by omega) kk
def SiteC (K : Kt) (pc : Nat) : Prop := ∃ ix, decode K.code pc = .ok (.invokestatic ix, 3) ∧ Cond.methodLink K.y.cls ix arraycopyName ∈ tw ∧ Cond.native arraycopyName ∈ tw ∧ Cond.static arraycopyName ∈ tw ∧ Cond.initialized "java/lang/System" ∈ tw ∧ 1 ≤ K.fr ∧ 8 + (nativeFrameWords "java/lang/System" "arraycopy" 5 + 11) ≤ K.lo
theorem V_cpy {a b n0 n1 : Nat} {f g : Nat → Int32} {sp dp n : Int32} (s : SiteC K pc) (ha : h[a]? = some (.inl (.int, n0, .inl f))) (hb : h[b]? = some (.inl (.int, n1, .inl g))) (h1 : ¬ sp < 0) (h2 : ¬ dp < 0) (h3 : ¬ n < 0) (h4 : sp.toNatClampNeg + n.toNatClampNeg ≤ n0) (h5 : dp.toNatClampNeg + n.toNatClampNeg ≤ n1) (hst : (st.map fun v => v.category).sum ≤ 8) (kk : V l G K h0 (pc + 3) ls st (h.set b (.inl (.int, n1, .inl (va_cpy f g sp.toNatClampNeg dp.toNatClampNeg n.toNatClampNeg)))) r h') : V l G K h0 pc ls (.int n :: .int dp :: .ref (b + 1) :: .int sp :: .ref (a + 1) :: st) h r h' := by
  obtain ⟨ix, s1, s2, s3, s4, s5, s6, s7⟩ := s
  exact V_copyi s1 s2 s3 s4 s5 ha hb h1 h2 h3 h4 h5 s6 (by omega) kk
end R6
end
section
/-! the methods; how many parameters they take -/
def k_Pm_init : Kt := (⟨R_Pm, "<init>", "(III)V"⟩, prog_1_method_1_code, 6, none, 2, 43, [])
theorem np_Pm_init : nPar k_Pm_init 3 := fun sig hs => by
  have e : parseMethodDescriptor k_Pm_init.y.desc = some sig := hs
  have e2 : (parseMethodDescriptor k_Pm_init.y.desc).map (fun q => q.parameters.length) = some 3 := by decide +kernel
  rw [e] at e2
  exact (Option.some.inj e2).symm
theorem kw_Pm_init : k_Pm_init.w ∈ tw := tx1 23 rfl rfl
def k_Pm_within : Kt := (⟨R_Pm, "within", "(III)I"⟩, prog_1_method_24_code, 3, (some .int), 1, 21, [])
theorem np_Pm_within : nPar k_Pm_within 3 := fun sig hs => by
  have e : parseMethodDescriptor k_Pm_within.y.desc = some sig := hs
  have e2 : (parseMethodDescriptor k_Pm_within.y.desc).map (fun q => q.parameters.length) = some 3 := by decide +kernel
  rw [e] at e2
  exact (Option.some.inj e2).symm
theorem kw_Pm_within : k_Pm_within.w ∈ tw := tx1 29 rfl rfl
def k_Ph_init : Kt := (⟨R_Ph, "<init>", "(II)V"⟩, prog_5_method_1_code, 3, none, 1, 20, [])
theorem np_Ph_init : nPar k_Ph_init 2 := fun sig hs => by
  have e : parseMethodDescriptor k_Ph_init.y.desc = some sig := hs
  have e2 : (parseMethodDescriptor k_Ph_init.y.desc).map (fun q => q.parameters.length) = some 2 := by decide +kernel
  rw [e] at e2
  exact (Option.some.inj e2).symm
theorem kw_Ph_init : k_Ph_init.w ∈ tw := tx1 40 rfl rfl
def k_Se_init : Kt := (⟨R_Se, "<init>", "(II)V"⟩, prog_8_method_1_code, 3, none, 1, 20, [])
theorem np_Se_init : nPar k_Se_init 2 := fun sig hs => by
  have e : parseMethodDescriptor k_Se_init.y.desc = some sig := hs
  have e2 : (parseMethodDescriptor k_Se_init.y.desc).map (fun q => q.parameters.length) = some 2 := by decide +kernel
  rw [e] at e2
  exact (Option.some.inj e2).symm
theorem kw_Se_init : k_Se_init.w ∈ tw := tx1 57 rfl rfl
def k_Pl_init : Kt := (⟨R_Pl, "<init>", "()V"⟩, prog_6_method_1_code, 1, none, 1, 20, [])
theorem np_Pl_init : nPar k_Pl_init 0 := fun sig hs => by
  have e : parseMethodDescriptor k_Pl_init.y.desc = some sig := hs
  have e2 : (parseMethodDescriptor k_Pl_init.y.desc).map (fun q => q.parameters.length) = some 0 := by decide +kernel
  rw [e] at e2
  exact (Option.some.inj e2).symm
theorem kw_Pl_init : k_Pl_init.w ∈ tw := tx1 85 rfl rfl
def k_Ag_init : Kt := (⟨R_Ag, "<init>", "(I)V"⟩, prog_3_method_1_code, 2, none, 1, 20, [])
theorem np_Ag_init : nPar k_Ag_init 1 := fun sig hs => by
  have e : parseMethodDescriptor k_Ag_init.y.desc = some sig := hs
  have e2 : (parseMethodDescriptor k_Ag_init.y.desc).map (fun q => q.parameters.length) = some 1 := by decide +kernel
  rw [e] at e2
  exact (Option.some.inj e2).symm
theorem kw_Ag_init : k_Ag_init.w ∈ tw := tx1 109 rfl rfl
def k_Ad_init : Kt := (⟨R_Ad, "<init>", "()V"⟩, prog_2_method_1_code, 1, none, 1, 20, [])
theorem np_Ad_init : nPar k_Ad_init 0 := fun sig hs => by
  have e : parseMethodDescriptor k_Ad_init.y.desc = some sig := hs
  have e2 : (parseMethodDescriptor k_Ad_init.y.desc).map (fun q => q.parameters.length) = some 0 := by decide +kernel
  rw [e] at e2
  exact (Option.some.inj e2).symm
theorem kw_Ad_init : k_Ad_init.w ∈ tw := tx1 137 rfl rfl
def k_Le_init : Kt := (⟨R_Le, "<init>", "()V"⟩, prog_4_method_1_code, 1, none, 1, 20, [])
theorem np_Le_init : nPar k_Le_init 0 := fun sig hs => by
  have e : parseMethodDescriptor k_Le_init.y.desc = some sig := hs
  have e2 : (parseMethodDescriptor k_Le_init.y.desc).map (fun q => q.parameters.length) = some 0 := by decide +kernel
  rw [e] at e2
  exact (Option.some.inj e2).symm
theorem kw_Le_init : k_Le_init.w ∈ tw := tx1 156 rfl rfl
def k_Re_init : Kt := (⟨R_Re, "<init>", "(II)V"⟩, prog_7_method_1_code, 3, none, 1, 20, [])
theorem np_Re_init : nPar k_Re_init 2 := fun sig hs => by
  have e : parseMethodDescriptor k_Re_init.y.desc = some sig := hs
  have e2 : (parseMethodDescriptor k_Re_init.y.desc).map (fun q => q.parameters.length) = some 2 := by decide +kernel
  rw [e] at e2
  exact (Option.some.inj e2).symm
theorem kw_Re_init : k_Re_init.w ∈ tw := tx1 175 rfl rfl
def k_Pm_sum : Kt := (⟨R_Pm, "sum", "()J"⟩, prog_1_method_11_code, 1, (some .long), 3, 75, [])
theorem np_Pm_sum : nPar k_Pm_sum 0 := fun sig hs => by
  have e : parseMethodDescriptor k_Pm_sum.y.desc = some sig := hs
  have e2 : (parseMethodDescriptor k_Pm_sum.y.desc).map (fun q => q.parameters.length) = some 0 := by decide +kernel
  rw [e] at e2
  exact (Option.some.inj e2).symm
theorem kw_Pm_sum : k_Pm_sum.w ∈ tw := tx1 233 rfl rfl
def k_Ad_total : Kt := (⟨R_Ad, "total", "(LPhotoModels$Places;)J"⟩, prog_2_method_5_code, 5, (some .long), 2, 51, [])
theorem np_Ad_total : nPar k_Ad_total 1 := fun sig hs => by
  have e : parseMethodDescriptor k_Ad_total.y.desc = some sig := hs
  have e2 : (parseMethodDescriptor k_Ad_total.y.desc).map (fun q => q.parameters.length) = some 1 := by decide +kernel
  rw [e] at e2
  exact (Option.some.inj e2).symm
theorem kw_Ad_total : k_Ad_total.w ∈ tw := tx1 237 rfl rfl
def k_Pl_number : Kt := (⟨R_Pl, "number", "()I"⟩, prog_6_method_2_code, 1, (some .int), 0, 0, [])
theorem np_Pl_number : nPar k_Pl_number 0 := fun sig hs => by
  have e : parseMethodDescriptor k_Pl_number.y.desc = some sig := hs
  have e2 : (parseMethodDescriptor k_Pl_number.y.desc).map (fun q => q.parameters.length) = some 0 := by decide +kernel
  rw [e] at e2
  exact (Option.some.inj e2).symm
theorem kw_Pl_number : k_Pl_number.w ∈ tw := tx2 1 rfl rfl
def k_Pl_isSpare : Kt := (⟨R_Pl, "isSpare", "(I)Z"⟩, prog_6_method_6_code, 2, (some .boolean), 0, 0, [])
theorem np_Pl_isSpare : nPar k_Pl_isSpare 1 := fun sig hs => by
  have e : parseMethodDescriptor k_Pl_isSpare.y.desc = some sig := hs
  have e2 : (parseMethodDescriptor k_Pl_isSpare.y.desc).map (fun q => q.parameters.length) = some 1 := by decide +kernel
  rw [e] at e2
  exact (Option.some.inj e2).symm
theorem kw_Pl_isSpare : k_Pl_isSpare.w ∈ tw := tx2 5 rfl rfl
def k_Ad_share : Kt := (⟨R_Ad, "share", "(LPhotoModels$Places;I)J"⟩, prog_2_method_6_code, 9, (some .long), 1, 23, [])
theorem np_Ad_share : nPar k_Ad_share 2 := fun sig hs => by
  have e : parseMethodDescriptor k_Ad_share.y.desc = some sig := hs
  have e2 : (parseMethodDescriptor k_Ad_share.y.desc).map (fun q => q.parameters.length) = some 2 := by decide +kernel
  rw [e] at e2
  exact (Option.some.inj e2).symm
theorem kw_Ad_share : k_Ad_share.w ∈ tw := tx2 9 rfl rfl
def k_Pl_isNoted : Kt := (⟨R_Pl, "isNoted", "(II)Z"⟩, prog_6_method_8_code, 3, (some .boolean), 0, 0, [])
theorem np_Pl_isNoted : nPar k_Pl_isNoted 2 := fun sig hs => by
  have e : parseMethodDescriptor k_Pl_isNoted.y.desc = some sig := hs
  have e2 : (parseMethodDescriptor k_Pl_isNoted.y.desc).map (fun q => q.parameters.length) = some 2 := by decide +kernel
  rw [e] at e2
  exact (Option.some.inj e2).symm
theorem kw_Pl_isNoted : k_Pl_isNoted.w ∈ tw := tx2 13 rfl rfl
def k_Pl_where : Kt := (⟨R_Pl, "where", "(III)I"⟩, prog_6_method_9_code, 4, (some .int), 0, 0, [])
theorem np_Pl_where : nPar k_Pl_where 3 := fun sig hs => by
  have e : parseMethodDescriptor k_Pl_where.y.desc = some sig := hs
  have e2 : (parseMethodDescriptor k_Pl_where.y.desc).map (fun q => q.parameters.length) = some 3 := by decide +kernel
  rw [e] at e2
  exact (Option.some.inj e2).symm
theorem kw_Pl_where : k_Pl_where.w ∈ tw := tx2 18 rfl rfl
def k_Ad_position : Kt := (⟨R_Ad, "position", "(II)I"⟩, prog_2_method_2_code, 3, (some .int), 0, 0, [])
theorem np_Ad_position : nPar k_Ad_position 2 := fun sig hs => by
  have e : parseMethodDescriptor k_Ad_position.y.desc = some sig := hs
  have e2 : (parseMethodDescriptor k_Ad_position.y.desc).map (fun q => q.parameters.length) = some 2 := by decide +kernel
  rw [e] at e2
  exact (Option.some.inj e2).symm
theorem kw_Ad_position : k_Ad_position.w ∈ tw := tx2 22 rfl rfl
def k_Ad_moved : Kt := (⟨R_Ad, "moved", "(II)I"⟩, prog_2_method_3_code, 3, (some .int), 0, 0, [])
theorem np_Ad_moved : nPar k_Ad_moved 2 := fun sig hs => by
  have e : parseMethodDescriptor k_Ad_moved.y.desc = some sig := hs
  have e2 : (parseMethodDescriptor k_Ad_moved.y.desc).map (fun q => q.parameters.length) = some 2 := by decide +kernel
  rw [e] at e2
  exact (Option.some.inj e2).symm
theorem kw_Ad_moved : k_Ad_moved.w ∈ tw := tx2 26 rfl rfl
def k_La_cell : Kt := (⟨R_La, "cell", "([II)I"⟩, method_2_code, 2, (some .int), 0, 0, [])
theorem np_La_cell : nPar k_La_cell 2 := fun sig hs => by
  have e : parseMethodDescriptor k_La_cell.y.desc = some sig := hs
  have e2 : (parseMethodDescriptor k_La_cell.y.desc).map (fun q => q.parameters.length) = some 2 := by decide +kernel
  rw [e] at e2
  exact (Option.some.inj e2).symm
theorem kw_La_cell : k_La_cell.w ∈ tw := tx2 29 rfl rfl
def k_La_pixel : Kt := (⟨R_La, "pixel", "(LPhotoModels;IIII[J)I"⟩, method_3_code, 7, (some .int), 8, 139, [(0, 14, 17, 13), (0, 14, 21, 15)])
theorem np_La_pixel : nPar k_La_pixel 6 := fun sig hs => by
  have e : parseMethodDescriptor k_La_pixel.y.desc = some sig := hs
  have e2 : (parseMethodDescriptor k_La_pixel.y.desc).map (fun q => q.parameters.length) = some 6 := by decide +kernel
  rw [e] at e2
  exact (Option.some.inj e2).symm
theorem kw_La_pixel : k_La_pixel.w ∈ tw := tx2 32 rfl rfl
def k_Pm_pixel : Kt := (⟨R_Pm, "pixel", "(IIII)I"⟩, prog_1_method_2_code, 5, (some .int), 7, 115, [])
theorem np_Pm_pixel : nPar k_Pm_pixel 4 := fun sig hs => by
  have e : parseMethodDescriptor k_Pm_pixel.y.desc = some sig := hs
  have e2 : (parseMethodDescriptor k_Pm_pixel.y.desc).map (fun q => q.parameters.length) = some 4 := by decide +kernel
  rw [e] at e2
  exact (Option.some.inj e2).symm
theorem kw_Pm_pixel : k_Pm_pixel.w ∈ tw := tx2 38 rfl rfl
def k_Pm_isPhoto : Kt := (⟨R_Pm, "isPhoto", "(I)Z"⟩, prog_1_method_21_code, 1, (some .boolean), 1, 22, [])
theorem np_Pm_isPhoto : nPar k_Pm_isPhoto 1 := fun sig hs => by
  have e : parseMethodDescriptor k_Pm_isPhoto.y.desc = some sig := hs
  have e2 : (parseMethodDescriptor k_Pm_isPhoto.y.desc).map (fun q => q.parameters.length) = some 1 := by decide +kernel
  rw [e] at e2
  exact (Option.some.inj e2).symm
theorem kw_Pm_isPhoto : k_Pm_isPhoto.w ∈ tw := tx2 41 rfl rfl
def k_Pm_isWithin : Kt := (⟨R_Pm, "isWithin", "(III)Z"⟩, prog_1_method_23_code, 3, (some .boolean), 0, 0, [])
theorem np_Pm_isWithin : nPar k_Pm_isWithin 3 := fun sig hs => by
  have e : parseMethodDescriptor k_Pm_isWithin.y.desc = some sig := hs
  have e2 : (parseMethodDescriptor k_Pm_isWithin.y.desc).map (fun q => q.parameters.length) = some 3 := by decide +kernel
  rw [e] at e2
  exact (Option.some.inj e2).symm
theorem kw_Pm_isWithin : k_Pm_isWithin.w ∈ tw := tx2 44 rfl rfl
def k_Ph_hasCell : Kt := (⟨R_Ph, "hasCell", "(II)Z"⟩, prog_5_method_4_code, 3, (some .boolean), 1, 22, [])
theorem np_Ph_hasCell : nPar k_Ph_hasCell 2 := fun sig hs => by
  have e : parseMethodDescriptor k_Ph_hasCell.y.desc = some sig := hs
  have e2 : (parseMethodDescriptor k_Ph_hasCell.y.desc).map (fun q => q.parameters.length) = some 2 := by decide +kernel
  rw [e] at e2
  exact (Option.some.inj e2).symm
theorem kw_Ph_hasCell : k_Ph_hasCell.w ∈ tw := tx2 48 rfl rfl
def k_Pm_needIndex : Kt := (⟨R_Pm, "needIndex", "(Z)V"⟩, prog_1_method_25_code, 1, none, 6, 95, [])
theorem np_Pm_needIndex : nPar k_Pm_needIndex 1 := fun sig hs => by
  have e : parseMethodDescriptor k_Pm_needIndex.y.desc = some sig := hs
  have e2 : (parseMethodDescriptor k_Pm_needIndex.y.desc).map (fun q => q.parameters.length) = some 1 := by decide +kernel
  rw [e] at e2
  exact (Option.some.inj e2).symm
theorem kw_Pm_needIndex : k_Pm_needIndex.w ∈ tw := tx2 52 rfl rfl
def k_Pm_needArgument : Kt := (⟨R_Pm, "needArgument", "(Z)V"⟩, prog_1_method_26_code, 1, none, 6, 95, [])
theorem np_Pm_needArgument : nPar k_Pm_needArgument 1 := fun sig hs => by
  have e : parseMethodDescriptor k_Pm_needArgument.y.desc = some sig := hs
  have e2 : (parseMethodDescriptor k_Pm_needArgument.y.desc).map (fun q => q.parameters.length) = some 1 := by decide +kernel
  rw [e] at e2
  exact (Option.some.inj e2).symm
theorem kw_Pm_needArgument : k_Pm_needArgument.w ∈ tw := tx2 123 rfl rfl
def k_Ph_change : Kt := (⟨R_Ph, "change", "(IIII)I"⟩, prog_5_method_7_code, 7, (some .int), 1, 23, [])
theorem np_Ph_change : nPar k_Ph_change 4 := fun sig hs => by
  have e : parseMethodDescriptor k_Ph_change.y.desc = some sig := hs
  have e2 : (parseMethodDescriptor k_Ph_change.y.desc).map (fun q => q.parameters.length) = some 4 := by decide +kernel
  rw [e] at e2
  exact (Option.some.inj e2).symm
theorem kw_Ph_change : k_Ph_change.w ∈ tw := tx2 143 rfl rfl
def k_Ph_index : Kt := (⟨R_Ph, "index", "(III)I"⟩, prog_5_method_9_code, 4, (some .int), 0, 0, [])
theorem np_Ph_index : nPar k_Ph_index 3 := fun sig hs => by
  have e : parseMethodDescriptor k_Ph_index.y.desc = some sig := hs
  have e2 : (parseMethodDescriptor k_Ph_index.y.desc).map (fun q => q.parameters.length) = some 3 := by decide +kernel
  rw [e] at e2
  exact (Option.some.inj e2).symm
theorem kw_Ph_index : k_Ph_index.w ∈ tw := tx2 147 rfl rfl
def k_La_match : Kt := (⟨R_La, "match", "(LPhotoModels;IIII[J)I"⟩, method_4_code, 7, (some .int), 8, 139, [(0, 14, 17, 13)])
theorem np_La_match : nPar k_La_match 6 := fun sig hs => by
  have e : parseMethodDescriptor k_La_match.y.desc = some sig := hs
  have e2 : (parseMethodDescriptor k_La_match.y.desc).map (fun q => q.parameters.length) = some 6 := by decide +kernel
  rw [e] at e2
  exact (Option.some.inj e2).symm
theorem kw_La_match : k_La_match.w ∈ tw := tx2 150 rfl rfl
def k_Pm_match : Kt := (⟨R_Pm, "match", "(IIII)I"⟩, prog_1_method_3_code, 5, (some .int), 7, 115, [])
theorem np_Pm_match : nPar k_Pm_match 4 := fun sig hs => by
  have e : parseMethodDescriptor k_Pm_match.y.desc = some sig := hs
  have e2 : (parseMethodDescriptor k_Pm_match.y.desc).map (fun q => q.parameters.length) = some 4 := by decide +kernel
  rw [e] at e2
  exact (Option.some.inj e2).symm
theorem kw_Pm_match : k_Pm_match.w ∈ tw := tx2 154 rfl rfl
def k_Ph_hasWindow : Kt := (⟨R_Ph, "hasWindow", "(II)Z"⟩, prog_5_method_5_code, 3, (some .boolean), 1, 22, [])
theorem np_Ph_hasWindow : nPar k_Ph_hasWindow 2 := fun sig hs => by
  have e : parseMethodDescriptor k_Ph_hasWindow.y.desc = some sig := hs
  have e2 : (parseMethodDescriptor k_Ph_hasWindow.y.desc).map (fun q => q.parameters.length) = some 2 := by decide +kernel
  rw [e] at e2
  exact (Option.some.inj e2).symm
theorem kw_Ph_hasWindow : k_Ph_hasWindow.w ∈ tw := tx2 158 rfl rfl
def k_Se_look : Kt := (⟨R_Se, "look", "(LPhotoModels$Photos;IIII)I"⟩, prog_8_method_4_code, 10, (some .int), 3, 67, [])
theorem np_Se_look : nPar k_Se_look 5 := fun sig hs => by
  have e : parseMethodDescriptor k_Se_look.y.desc = some sig := hs
  have e2 : (parseMethodDescriptor k_Se_look.y.desc).map (fun q => q.parameters.length) = some 5 := by decide +kernel
  rw [e] at e2
  exact (Option.some.inj e2).symm
theorem kw_Se_look : k_Se_look.w ∈ tw := tx2 162 rfl rfl
def k_Ph_windowMiss : Kt := (⟨R_Ph, "windowMiss", "(IIIIII)I"⟩, prog_5_method_8_code, 13, (some .int), 1, 23, [])
theorem np_Ph_windowMiss : nPar k_Ph_windowMiss 6 := fun sig hs => by
  have e : parseMethodDescriptor k_Ph_windowMiss.y.desc = some sig := hs
  have e2 : (parseMethodDescriptor k_Ph_windowMiss.y.desc).map (fun q => q.parameters.length) = some 6 := by decide +kernel
  rw [e] at e2
  exact (Option.some.inj e2).symm
theorem kw_Ph_windowMiss : k_Ph_windowMiss.w ∈ tw := tx2 167 rfl rfl
def k_Se_leastFarFromFound : Kt := (⟨R_Se, "leastFarFromFound", "()I"⟩, prog_8_method_5_code, 5, (some .int), 2, 43, [])
theorem np_Se_leastFarFromFound : nPar k_Se_leastFarFromFound 0 := fun sig hs => by
  have e : parseMethodDescriptor k_Se_leastFarFromFound.y.desc = some sig := hs
  have e2 : (parseMethodDescriptor k_Se_leastFarFromFound.y.desc).map (fun q => q.parameters.length) = some 0 := by decide +kernel
  rw [e] at e2
  exact (Option.some.inj e2).symm
theorem kw_Se_leastFarFromFound : k_Se_leastFarFromFound.w ∈ tw := tx2 171 rfl rfl
def k_Se_isFarFromFound : Kt := (⟨R_Se, "isFarFromFound", "(II)Z"⟩, prog_8_method_6_code, 3, (some .boolean), 1, 21, [])
theorem np_Se_isFarFromFound : nPar k_Se_isFarFromFound 2 := fun sig hs => by
  have e : parseMethodDescriptor k_Se_isFarFromFound.y.desc = some sig := hs
  have e2 : (parseMethodDescriptor k_Se_isFarFromFound.y.desc).map (fun q => q.parameters.length) = some 2 := by decide +kernel
  rw [e] at e2
  exact (Option.some.inj e2).symm
theorem kw_Se_isFarFromFound : k_Se_isFarFromFound.w ∈ tw := tx2 175 rfl rfl
def k_La_found : Kt := (⟨R_La, "found", "(LPhotoModels;I[J)I"⟩, method_5_code, 4, (some .int), 8, 136, [(0, 9, 12, 13), (0, 9, 15, 24)])
theorem np_La_found : nPar k_La_found 3 := fun sig hs => by
  have e : parseMethodDescriptor k_La_found.y.desc = some sig := hs
  have e2 : (parseMethodDescriptor k_La_found.y.desc).map (fun q => q.parameters.length) = some 3 := by decide +kernel
  rw [e] at e2
  exact (Option.some.inj e2).symm
theorem kw_La_found : k_La_found.w ∈ tw := tx2 181 rfl rfl
def k_Pm_found : Kt := (⟨R_Pm, "found", "(I)I"⟩, prog_1_method_4_code, 2, (some .int), 7, 115, [])
theorem np_Pm_found : nPar k_Pm_found 1 := fun sig hs => by
  have e : parseMethodDescriptor k_Pm_found.y.desc = some sig := hs
  have e2 : (parseMethodDescriptor k_Pm_found.y.desc).map (fun q => q.parameters.length) = some 1 := by decide +kernel
  rw [e] at e2
  exact (Option.some.inj e2).symm
theorem kw_Pm_found : k_Pm_found.w ∈ tw := tx2 186 rfl rfl
def k_Se_isDone : Kt := (⟨R_Se, "isDone", "()Z"⟩, prog_8_method_2_code, 1, (some .boolean), 0, 0, [])
theorem np_Se_isDone : nPar k_Se_isDone 0 := fun sig hs => by
  have e : parseMethodDescriptor k_Se_isDone.y.desc = some sig := hs
  have e2 : (parseMethodDescriptor k_Se_isDone.y.desc).map (fun q => q.parameters.length) = some 0 := by decide +kernel
  rw [e] at e2
  exact (Option.some.inj e2).symm
theorem kw_Se_isDone : k_Se_isDone.w ∈ tw := tx2 190 rfl rfl
def k_Pm_needState : Kt := (⟨R_Pm, "needState", "(Z)V"⟩, prog_1_method_27_code, 1, none, 6, 95, [])
theorem np_Pm_needState : nPar k_Pm_needState 1 := fun sig hs => by
  have e : parseMethodDescriptor k_Pm_needState.y.desc = some sig := hs
  have e2 : (parseMethodDescriptor k_Pm_needState.y.desc).map (fun q => q.parameters.length) = some 1 := by decide +kernel
  rw [e] at e2
  exact (Option.some.inj e2).symm
theorem kw_Pm_needState : k_Pm_needState.w ∈ tw := tx2 193 rfl rfl
def k_Se_answer : Kt := (⟨R_Se, "answer", "(I)I"⟩, prog_8_method_3_code, 2, (some .int), 0, 0, [])
theorem np_Se_answer : nPar k_Se_answer 1 := fun sig hs => by
  have e : parseMethodDescriptor k_Se_answer.y.desc = some sig := hs
  have e2 : (parseMethodDescriptor k_Se_answer.y.desc).map (fun q => q.parameters.length) = some 1 := by decide +kernel
  rw [e] at e2
  exact (Option.some.inj e2).symm
theorem kw_Se_answer : k_Se_answer.w ∈ tw := tx2 213 rfl rfl
def k_La_place : Kt := (⟨R_La, "place", "(LPhotoModels;[J)I"⟩, method_6_code, 3, (some .int), 8, 135, [(0, 8, 11, 24)])
theorem np_La_place : nPar k_La_place 2 := fun sig hs => by
  have e : parseMethodDescriptor k_La_place.y.desc = some sig := hs
  have e2 : (parseMethodDescriptor k_La_place.y.desc).map (fun q => q.parameters.length) = some 2 := by decide +kernel
  rw [e] at e2
  exact (Option.some.inj e2).symm
theorem kw_La_place : k_La_place.w ∈ tw := tx2 216 rfl rfl
def k_Pm_place : Kt := (⟨R_Pm, "place", "()I"⟩, prog_1_method_5_code, 1, (some .int), 7, 115, [])
theorem np_Pm_place : nPar k_Pm_place 0 := fun sig hs => by
  have e : parseMethodDescriptor k_Pm_place.y.desc = some sig := hs
  have e2 : (parseMethodDescriptor k_Pm_place.y.desc).map (fun q => q.parameters.length) = some 0 := by decide +kernel
  rw [e] at e2
  exact (Option.some.inj e2).symm
theorem kw_Pm_place : k_Pm_place.w ∈ tw := tx2 220 rfl rfl
def k_Pl_add : Kt := (⟨R_Pl, "add", "()I"⟩, prog_6_method_5_code, 2, (some .int), 0, 0, [])
theorem np_Pl_add : nPar k_Pl_add 0 := fun sig hs => by
  have e : parseMethodDescriptor k_Pl_add.y.desc = some sig := hs
  have e2 : (parseMethodDescriptor k_Pl_add.y.desc).map (fun q => q.parameters.length) = some 0 := by decide +kernel
  rw [e] at e2
  exact (Option.some.inj e2).symm
theorem kw_Pl_add : k_Pl_add.w ∈ tw := tx2 225 rfl rfl
def k_La_seen : Kt := (⟨R_La, "seen", "(LPhotoModels;IIII[J)I"⟩, method_7_code, 7, (some .int), 8, 139, [(0, 21, 24, 13), (0, 21, 28, 15)])
theorem np_La_seen : nPar k_La_seen 6 := fun sig hs => by
  have e : parseMethodDescriptor k_La_seen.y.desc = some sig := hs
  have e2 : (parseMethodDescriptor k_La_seen.y.desc).map (fun q => q.parameters.length) = some 6 := by decide +kernel
  rw [e] at e2
  exact (Option.some.inj e2).symm
theorem kw_La_seen : k_La_seen.w ∈ tw := tx2 228 rfl rfl
def k_Pm_seen : Kt := (⟨R_Pm, "seen", "(IIII)Z"⟩, prog_1_method_6_code, 5, (some .boolean), 7, 115, [])
theorem np_Pm_seen : nPar k_Pm_seen 4 := fun sig hs => by
  have e : parseMethodDescriptor k_Pm_seen.y.desc = some sig := hs
  have e2 : (parseMethodDescriptor k_Pm_seen.y.desc).map (fun q => q.parameters.length) = some 4 := by decide +kernel
  rw [e] at e2
  exact (Option.some.inj e2).symm
theorem kw_Pm_seen : k_Pm_seen.w ∈ tw := tx2 232 rfl rfl
def k_Pl_has : Kt := (⟨R_Pl, "has", "(I)Z"⟩, prog_6_method_4_code, 2, (some .boolean), 0, 0, [])
theorem np_Pl_has : nPar k_Pl_has 1 := fun sig hs => by
  have e : parseMethodDescriptor k_Pl_has.y.desc = some sig := hs
  have e2 : (parseMethodDescriptor k_Pl_has.y.desc).map (fun q => q.parameters.length) = some 1 := by decide +kernel
  rw [e] at e2
  exact (Option.some.inj e2).symm
theorem kw_Pl_has : k_Pl_has.w ∈ tw := tx2 236 rfl rfl
def k_Pl_forget : Kt := (⟨R_Pl, "forget", "(II)Z"⟩, prog_6_method_10_code, 4, (some .boolean), 1, 22, [])
theorem np_Pl_forget : nPar k_Pl_forget 2 := fun sig hs => by
  have e : parseMethodDescriptor k_Pl_forget.y.desc = some sig := hs
  have e2 : (parseMethodDescriptor k_Pl_forget.y.desc).map (fun q => q.parameters.length) = some 2 := by decide +kernel
  rw [e] at e2
  exact (Option.some.inj e2).symm
theorem kw_Pl_forget : k_Pl_forget.w ∈ tw := tx3 0 rfl rfl
def k_Pl_note : Kt := (⟨R_Pl, "note", "(IIII)Z"⟩, prog_6_method_11_code, 7, (some .boolean), 0, 0, [])
theorem np_Pl_note : nPar k_Pl_note 4 := fun sig hs => by
  have e : parseMethodDescriptor k_Pl_note.y.desc = some sig := hs
  have e2 : (parseMethodDescriptor k_Pl_note.y.desc).map (fun q => q.parameters.length) = some 4 := by decide +kernel
  rw [e] at e2
  exact (Option.some.inj e2).symm
theorem kw_Pl_note : k_Pl_note.w ∈ tw := tx3 5 rfl rfl
def k_La_relative : Kt := (⟨R_La, "relative", "(LPhotoModels;IIII[J)I"⟩, method_8_code, 7, (some .int), 8, 139, [(0, 14, 17, 13), (0, 14, 21, 15)])
theorem np_La_relative : nPar k_La_relative 6 := fun sig hs => by
  have e : parseMethodDescriptor k_La_relative.y.desc = some sig := hs
  have e2 : (parseMethodDescriptor k_La_relative.y.desc).map (fun q => q.parameters.length) = some 6 := by decide +kernel
  rw [e] at e2
  exact (Option.some.inj e2).symm
theorem kw_La_relative : k_La_relative.w ∈ tw := tx3 8 rfl rfl
def k_Pm_relative : Kt := (⟨R_Pm, "relative", "(IIII)I"⟩, prog_1_method_7_code, 5, (some .int), 7, 115, [])
theorem np_Pm_relative : nPar k_Pm_relative 4 := fun sig hs => by
  have e : parseMethodDescriptor k_Pm_relative.y.desc = some sig := hs
  have e2 : (parseMethodDescriptor k_Pm_relative.y.desc).map (fun q => q.parameters.length) = some 4 := by decide +kernel
  rw [e] at e2
  exact (Option.some.inj e2).symm
theorem kw_Pm_relative : k_Pm_relative.w ∈ tw := tx3 12 rfl rfl
def k_Ag_draw : Kt := (⟨R_Ag, "draw", "(LPhotoModels$Places;IIII)I"⟩, prog_3_method_4_code, 10, (some .int), 2, 47, [])
theorem np_Ag_draw : nPar k_Ag_draw 5 := fun sig hs => by
  have e : parseMethodDescriptor k_Ag_draw.y.desc = some sig := hs
  have e2 : (parseMethodDescriptor k_Ag_draw.y.desc).map (fun q => q.parameters.length) = some 5 := by decide +kernel
  rw [e] at e2
  exact (Option.some.inj e2).symm
theorem kw_Ag_draw : k_Ag_draw.w ∈ tw := tx3 16 rfl rfl
def k_Ag_gatherShifts : Kt := (⟨R_Ag, "gatherShifts", "(LPhotoModels$Places;II)V"⟩, prog_3_method_5_code, 5, none, 1, 23, [])
theorem np_Ag_gatherShifts : nPar k_Ag_gatherShifts 3 := fun sig hs => by
  have e : parseMethodDescriptor k_Ag_gatherShifts.y.desc = some sig := hs
  have e2 : (parseMethodDescriptor k_Ag_gatherShifts.y.desc).map (fun q => q.parameters.length) = some 3 := by decide +kernel
  rw [e] at e2
  exact (Option.some.inj e2).symm
theorem kw_Ag_gatherShifts : k_Ag_gatherShifts.w ∈ tw := tx3 20 rfl rfl
def k_Ag_drawnNumber : Kt := (⟨R_Ag, "drawnNumber", "(I)I"⟩, prog_3_method_7_code, 4, (some .int), 0, 0, [])
theorem np_Ag_drawnNumber : nPar k_Ag_drawnNumber 1 := fun sig hs => by
  have e : parseMethodDescriptor k_Ag_drawnNumber.y.desc = some sig := hs
  have e2 : (parseMethodDescriptor k_Ag_drawnNumber.y.desc).map (fun q => q.parameters.length) = some 1 := by decide +kernel
  rw [e] at e2
  exact (Option.some.inj e2).symm
theorem kw_Ag_drawnNumber : k_Ag_drawnNumber.w ∈ tw := tx3 27 rfl rfl
def k_Ag_agreeingWith : Kt := (⟨R_Ag, "agreeingWith", "(II)I"⟩, prog_3_method_6_code, 5, (some .int), 1, 21, [])
theorem np_Ag_agreeingWith : nPar k_Ag_agreeingWith 2 := fun sig hs => by
  have e : parseMethodDescriptor k_Ag_agreeingWith.y.desc = some sig := hs
  have e2 : (parseMethodDescriptor k_Ag_agreeingWith.y.desc).map (fun q => q.parameters.length) = some 2 := by decide +kernel
  rw [e] at e2
  exact (Option.some.inj e2).symm
theorem kw_Ag_agreeingWith : k_Ag_agreeingWith.w ∈ tw := tx3 32 rfl rfl
def k_La_shift : Kt := (⟨R_La, "shift", "(LPhotoModels;I[J)I"⟩, method_9_code, 4, (some .int), 8, 136, [(0, 9, 12, 13), (0, 9, 15, 24)])
theorem np_La_shift : nPar k_La_shift 3 := fun sig hs => by
  have e : parseMethodDescriptor k_La_shift.y.desc = some sig := hs
  have e2 : (parseMethodDescriptor k_La_shift.y.desc).map (fun q => q.parameters.length) = some 3 := by decide +kernel
  rw [e] at e2
  exact (Option.some.inj e2).symm
theorem kw_La_shift : k_La_shift.w ∈ tw := tx3 36 rfl rfl
def k_Pm_shift : Kt := (⟨R_Pm, "shift", "(I)I"⟩, prog_1_method_8_code, 2, (some .int), 7, 115, [])
theorem np_Pm_shift : nPar k_Pm_shift 1 := fun sig hs => by
  have e : parseMethodDescriptor k_Pm_shift.y.desc = some sig := hs
  have e2 : (parseMethodDescriptor k_Pm_shift.y.desc).map (fun q => q.parameters.length) = some 1 := by decide +kernel
  rw [e] at e2
  exact (Option.some.inj e2).symm
theorem kw_Pm_shift : k_Pm_shift.w ∈ tw := tx3 40 rfl rfl
def k_Pm_isAxis : Kt := (⟨R_Pm, "isAxis", "(I)Z"⟩, prog_1_method_22_code, 1, (some .boolean), 1, 22, [])
theorem np_Pm_isAxis : nPar k_Pm_isAxis 1 := fun sig hs => by
  have e : parseMethodDescriptor k_Pm_isAxis.y.desc = some sig := hs
  have e2 : (parseMethodDescriptor k_Pm_isAxis.y.desc).map (fun q => q.parameters.length) = some 1 := by decide +kernel
  rw [e] at e2
  exact (Option.some.inj e2).symm
theorem kw_Pm_isAxis : k_Pm_isAxis.w ∈ tw := tx3 43 rfl rfl
def k_Ag_isReached : Kt := (⟨R_Ag, "isReached", "()Z"⟩, prog_3_method_2_code, 1, (some .boolean), 0, 0, [])
theorem np_Ag_isReached : nPar k_Ag_isReached 0 := fun sig hs => by
  have e : parseMethodDescriptor k_Ag_isReached.y.desc = some sig := hs
  have e2 : (parseMethodDescriptor k_Ag_isReached.y.desc).map (fun q => q.parameters.length) = some 0 := by decide +kernel
  rw [e] at e2
  exact (Option.some.inj e2).symm
theorem kw_Ag_isReached : k_Ag_isReached.w ∈ tw := tx3 47 rfl rfl
def k_Ag_along : Kt := (⟨R_Ag, "along", "(I)I"⟩, prog_3_method_3_code, 2, (some .int), 0, 0, [])
theorem np_Ag_along : nPar k_Ag_along 1 := fun sig hs => by
  have e : parseMethodDescriptor k_Ag_along.y.desc = some sig := hs
  have e2 : (parseMethodDescriptor k_Ag_along.y.desc).map (fun q => q.parameters.length) = some 1 := by decide +kernel
  rw [e] at e2
  exact (Option.some.inj e2).symm
theorem kw_Ag_along : k_Ag_along.w ∈ tw := tx3 51 rfl rfl
def k_La_spare : Kt := (⟨R_La, "spare", "(LPhotoModels;IZ[J)I"⟩, method_10_code, 5, (some .int), 8, 137, [(0, 17, 20, 13)])
theorem np_La_spare : nPar k_La_spare 4 := fun sig hs => by
  have e : parseMethodDescriptor k_La_spare.y.desc = some sig := hs
  have e2 : (parseMethodDescriptor k_La_spare.y.desc).map (fun q => q.parameters.length) = some 4 := by decide +kernel
  rw [e] at e2
  exact (Option.some.inj e2).symm
theorem kw_La_spare : k_La_spare.w ∈ tw := tx3 54 rfl rfl
def k_Pm_spare : Kt := (⟨R_Pm, "spare", "(IZ)Z"⟩, prog_1_method_9_code, 3, (some .boolean), 7, 115, [])
theorem np_Pm_spare : nPar k_Pm_spare 2 := fun sig hs => by
  have e : parseMethodDescriptor k_Pm_spare.y.desc = some sig := hs
  have e2 : (parseMethodDescriptor k_Pm_spare.y.desc).map (fun q => q.parameters.length) = some 2 := by decide +kernel
  rw [e] at e2
  exact (Option.some.inj e2).symm
theorem kw_Pm_spare : k_Pm_spare.w ∈ tw := tx3 58 rfl rfl
def k_Pl_setAside : Kt := (⟨R_Pl, "setAside", "(IZ)Z"⟩, prog_6_method_7_code, 3, (some .boolean), 0, 0, [])
theorem np_Pl_setAside : nPar k_Pl_setAside 2 := fun sig hs => by
  have e : parseMethodDescriptor k_Pl_setAside.y.desc = some sig := hs
  have e2 : (parseMethodDescriptor k_Pl_setAside.y.desc).map (fun q => q.parameters.length) = some 2 := by decide +kernel
  rw [e] at e2
  exact (Option.some.inj e2).symm
theorem kw_Pl_setAside : k_Pl_setAside.w ∈ tw := tx3 62 rfl rfl
def k_La_run : Kt := (⟨R_La, "run", "(LPhotoModels;I[J)I"⟩, method_11_code, 4, (some .int), 8, 169, [(0, 9, 12, 15)])
theorem np_La_run : nPar k_La_run 3 := fun sig hs => by
  have e : parseMethodDescriptor k_La_run.y.desc = some sig := hs
  have e2 : (parseMethodDescriptor k_La_run.y.desc).map (fun q => q.parameters.length) = some 3 := by decide +kernel
  rw [e] at e2
  exact (Option.some.inj e2).symm
theorem kw_La_run : k_La_run.w ∈ tw := tx3 65 rfl rfl
def k_Pm_run : Kt := (⟨R_Pm, "run", "(I)I"⟩, prog_1_method_10_code, 2, (some .int), 7, 148, [])
theorem np_Pm_run : nPar k_Pm_run 1 := fun sig hs => by
  have e : parseMethodDescriptor k_Pm_run.y.desc = some sig := hs
  have e2 : (parseMethodDescriptor k_Pm_run.y.desc).map (fun q => q.parameters.length) = some 1 := by decide +kernel
  rw [e] at e2
  exact (Option.some.inj e2).symm
theorem kw_Pm_run : k_Pm_run.w ∈ tw := tx3 69 rfl rfl
def k_Ad_adjust : Kt := (⟨R_Ad, "adjust", "(LPhotoModels$Places;I)I"⟩, prog_2_method_4_code, 8, (some .int), 5, 121, [])
theorem np_Ad_adjust : nPar k_Ad_adjust 2 := fun sig hs => by
  have e : parseMethodDescriptor k_Ad_adjust.y.desc = some sig := hs
  have e2 : (parseMethodDescriptor k_Ad_adjust.y.desc).map (fun q => q.parameters.length) = some 2 := by decide +kernel
  rw [e] at e2
  exact (Option.some.inj e2).symm
theorem kw_Ad_adjust : k_Ad_adjust.w ∈ tw := tx3 73 rfl rfl
def k_Ad_begin : Kt := (⟨R_Ad, "begin", "(LPhotoModels$Places;)V"⟩, prog_2_method_7_code, 2, none, 4, 98, [])
theorem np_Ad_begin : nPar k_Ad_begin 1 := fun sig hs => by
  have e : parseMethodDescriptor k_Ad_begin.y.desc = some sig := hs
  have e2 : (parseMethodDescriptor k_Ad_begin.y.desc).map (fun q => q.parameters.length) = some 1 := by decide +kernel
  rw [e] at e2
  exact (Option.some.inj e2).symm
theorem kw_Ad_begin : k_Ad_begin.w ∈ tw := tx3 77 rfl rfl
def k_Arr_fill : Kt := (⟨"java/util/Arrays", "fill", "([II)V"⟩, prog_20_method_103_code, 4, none, 0, 0, [])
theorem np_Arr_fill : nPar k_Arr_fill 2 := fun sig hs => by
  have e : parseMethodDescriptor k_Arr_fill.y.desc = some sig := hs
  have e2 : (parseMethodDescriptor k_Arr_fill.y.desc).map (fun q => q.parameters.length) = some 2 := by decide +kernel
  rw [e] at e2
  exact (Option.some.inj e2).symm
theorem kw_Arr_fill : k_Arr_fill.w ∈ tw := tx3 80 rfl rfl
def k_Ad_movePlaces : Kt := (⟨R_Ad, "movePlaces", "(LPhotoModels$Places;)V"⟩, prog_2_method_10_code, 4, none, 3, 75, [])
theorem np_Ad_movePlaces : nPar k_Ad_movePlaces 1 := fun sig hs => by
  have e : parseMethodDescriptor k_Ad_movePlaces.y.desc = some sig := hs
  have e2 : (parseMethodDescriptor k_Ad_movePlaces.y.desc).map (fun q => q.parameters.length) = some 1 := by decide +kernel
  rw [e] at e2
  exact (Option.some.inj e2).symm
theorem kw_Ad_movePlaces : k_Ad_movePlaces.w ∈ tw := tx3 84 rfl rfl
def k_Ad_movePlace : Kt := (⟨R_Ad, "movePlace", "(LPhotoModels$Places;II)V"⟩, prog_2_method_11_code, 8, none, 2, 48, [])
theorem np_Ad_movePlace : nPar k_Ad_movePlace 3 := fun sig hs => by
  have e : parseMethodDescriptor k_Ad_movePlace.y.desc = some sig := hs
  have e2 : (parseMethodDescriptor k_Ad_movePlace.y.desc).map (fun q => q.parameters.length) = some 3 := by decide +kernel
  rw [e] at e2
  exact (Option.some.inj e2).symm
theorem kw_Ad_movePlace : k_Ad_movePlace.w ∈ tw := tx3 88 rfl rfl
def k_Ad_mean : Kt := (⟨R_Ad, "mean", "(JII)I"⟩, prog_2_method_12_code, 4, (some .int), 1, 25, [])
theorem np_Ad_mean : nPar k_Ad_mean 3 := fun sig hs => by
  have e : parseMethodDescriptor k_Ad_mean.y.desc = some sig := hs
  have e2 : (parseMethodDescriptor k_Ad_mean.y.desc).map (fun q => q.parameters.length) = some 3 := by decide +kernel
  rw [e] at e2
  exact (Option.some.inj e2).symm
theorem kw_Ad_mean : k_Ad_mean.w ∈ tw := tx3 91 rfl rfl
def k_Math_floorDiv : Kt := (⟨"java/lang/Math", "floorDiv", "(JJ)J"⟩, prog_15_method_49_code, 6, (some .long), 0, 0, [])
theorem np_Math_floorDiv : nPar k_Math_floorDiv 2 := fun sig hs => by
  have e : parseMethodDescriptor k_Math_floorDiv.y.desc = some sig := hs
  have e2 : (parseMethodDescriptor k_Math_floorDiv.y.desc).map (fun q => q.parameters.length) = some 2 := by decide +kernel
  rw [e] at e2
  exact (Option.some.inj e2).symm
theorem kw_Math_floorDiv : k_Math_floorDiv.w ∈ tw := tx3 94 rfl rfl
def k_Ad_remember : Kt := (⟨R_Ad, "remember", "()V"⟩, prog_2_method_13_code, 1, none, 1, 60, [])
theorem np_Ad_remember : nPar k_Ad_remember 0 := fun sig hs => by
  have e : parseMethodDescriptor k_Ad_remember.y.desc = some sig := hs
  have e2 : (parseMethodDescriptor k_Ad_remember.y.desc).map (fun q => q.parameters.length) = some 0 := by decide +kernel
  rw [e] at e2
  exact (Option.some.inj e2).symm
theorem kw_Ad_remember : k_Ad_remember.w ∈ tw := tx3 99 rfl rfl
def k_Ad_doRound : Kt := (⟨R_Ad, "doRound", "(LPhotoModels$Places;)V"⟩, prog_2_method_8_code, 4, none, 4, 98, [])
theorem np_Ad_doRound : nPar k_Ad_doRound 1 := fun sig hs => by
  have e : parseMethodDescriptor k_Ad_doRound.y.desc = some sig := hs
  have e2 : (parseMethodDescriptor k_Ad_doRound.y.desc).map (fun q => q.parameters.length) = some 1 := by decide +kernel
  rw [e] at e2
  exact (Option.some.inj e2).symm
theorem kw_Ad_doRound : k_Ad_doRound.w ∈ tw := tx3 106 rfl rfl
def k_Ad_movePhoto : Kt := (⟨R_Ad, "movePhoto", "(LPhotoModels$Places;II)V"⟩, prog_2_method_9_code, 8, none, 2, 48, [])
theorem np_Ad_movePhoto : nPar k_Ad_movePhoto 3 := fun sig hs => by
  have e : parseMethodDescriptor k_Ad_movePhoto.y.desc = some sig := hs
  have e2 : (parseMethodDescriptor k_Ad_movePhoto.y.desc).map (fun q => q.parameters.length) = some 3 := by decide +kernel
  rw [e] at e2
  exact (Option.some.inj e2).symm
theorem kw_Ad_movePhoto : k_Ad_movePhoto.w ∈ tw := tx3 110 rfl rfl
def k_Ad_undo : Kt := (⟨R_Ad, "undo", "()V"⟩, prog_2_method_14_code, 1, none, 1, 60, [])
theorem np_Ad_undo : nPar k_Ad_undo 0 := fun sig hs => by
  have e : parseMethodDescriptor k_Ad_undo.y.desc = some sig := hs
  have e2 : (parseMethodDescriptor k_Ad_undo.y.desc).map (fun q => q.parameters.length) = some 0 := by decide +kernel
  rw [e] at e2
  exact (Option.some.inj e2).symm
theorem kw_Ad_undo : k_Ad_undo.w ∈ tw := tx3 114 rfl rfl
def k_La_at : Kt := (⟨R_La, "at", "(LPhotoModels;II[J)I"⟩, method_12_code, 5, (some .int), 8, 137, [(0, 10, 13, 13)])
theorem np_La_at : nPar k_La_at 4 := fun sig hs => by
  have e : parseMethodDescriptor k_La_at.y.desc = some sig := hs
  have e2 : (parseMethodDescriptor k_La_at.y.desc).map (fun q => q.parameters.length) = some 4 := by decide +kernel
  rw [e] at e2
  exact (Option.some.inj e2).symm
theorem kw_La_at : k_La_at.w ∈ tw := tx3 117 rfl rfl
def k_Pm_at : Kt := (⟨R_Pm, "at", "(II)I"⟩, prog_1_method_12_code, 3, (some .int), 7, 115, [])
theorem np_Pm_at : nPar k_Pm_at 2 := fun sig hs => by
  have e : parseMethodDescriptor k_Pm_at.y.desc = some sig := hs
  have e2 : (parseMethodDescriptor k_Pm_at.y.desc).map (fun q => q.parameters.length) = some 2 := by decide +kernel
  rw [e] at e2
  exact (Option.some.inj e2).symm
theorem kw_Pm_at : k_Pm_at.w ∈ tw := tx3 121 rfl rfl
def k_La_offset : Kt := (⟨R_La, "offset", "(LPhotoModels;II[J)I"⟩, method_13_code, 5, (some .int), 8, 137, [(0, 10, 13, 13)])
theorem np_La_offset : nPar k_La_offset 4 := fun sig hs => by
  have e : parseMethodDescriptor k_La_offset.y.desc = some sig := hs
  have e2 : (parseMethodDescriptor k_La_offset.y.desc).map (fun q => q.parameters.length) = some 4 := by decide +kernel
  rw [e] at e2
  exact (Option.some.inj e2).symm
theorem kw_La_offset : k_La_offset.w ∈ tw := tx3 125 rfl rfl
def k_Pm_offset : Kt := (⟨R_Pm, "offset", "(II)I"⟩, prog_1_method_13_code, 3, (some .int), 7, 115, [])
theorem np_Pm_offset : nPar k_Pm_offset 2 := fun sig hs => by
  have e : parseMethodDescriptor k_Pm_offset.y.desc = some sig := hs
  have e2 : (parseMethodDescriptor k_Pm_offset.y.desc).map (fun q => q.parameters.length) = some 2 := by decide +kernel
  rw [e] at e2
  exact (Option.some.inj e2).symm
theorem kw_Pm_offset : k_Pm_offset.w ∈ tw := tx3 129 rfl rfl
def k_La_miss : Kt := (⟨R_La, "miss", "(LPhotoModels;I[J)I"⟩, method_14_code, 4, (some .int), 8, 136, [(0, 8, 11, 13)])
theorem np_La_miss : nPar k_La_miss 3 := fun sig hs => by
  have e : parseMethodDescriptor k_La_miss.y.desc = some sig := hs
  have e2 : (parseMethodDescriptor k_La_miss.y.desc).map (fun q => q.parameters.length) = some 3 := by decide +kernel
  rw [e] at e2
  exact (Option.some.inj e2).symm
theorem kw_La_miss : k_La_miss.w ∈ tw := tx3 133 rfl rfl
def k_Pm_miss : Kt := (⟨R_Pm, "miss", "(I)J"⟩, prog_1_method_14_code, 2, (some .long), 7, 115, [])
theorem np_Pm_miss : nPar k_Pm_miss 1 := fun sig hs => by
  have e : parseMethodDescriptor k_Pm_miss.y.desc = some sig := hs
  have e2 : (parseMethodDescriptor k_Pm_miss.y.desc).map (fun q => q.parameters.length) = some 1 := by decide +kernel
  rw [e] at e2
  exact (Option.some.inj e2).symm
theorem kw_Pm_miss : k_Pm_miss.w ∈ tw := tx3 137 rfl rfl
def k_La_known : Kt := (⟨R_La, "known", "(LPhotoModels;III[J)I"⟩, method_15_code, 6, (some .int), 8, 138, [(0, 12, 15, 13), (0, 12, 19, 15), (0, 12, 23, 24)])
theorem np_La_known : nPar k_La_known 5 := fun sig hs => by
  have e : parseMethodDescriptor k_La_known.y.desc = some sig := hs
  have e2 : (parseMethodDescriptor k_La_known.y.desc).map (fun q => q.parameters.length) = some 5 := by decide +kernel
  rw [e] at e2
  exact (Option.some.inj e2).symm
theorem kw_La_known : k_La_known.w ∈ tw := tx3 141 rfl rfl
def k_Pm_known : Kt := (⟨R_Pm, "known", "(III)I"⟩, prog_1_method_15_code, 4, (some .int), 7, 115, [])
theorem np_Pm_known : nPar k_Pm_known 3 := fun sig hs => by
  have e : parseMethodDescriptor k_Pm_known.y.desc = some sig := hs
  have e2 : (parseMethodDescriptor k_Pm_known.y.desc).map (fun q => q.parameters.length) = some 3 := by decide +kernel
  rw [e] at e2
  exact (Option.some.inj e2).symm
theorem kw_Pm_known : k_Pm_known.w ∈ tw := tx3 145 rfl rfl
def k_Le_number : Kt := (⟨R_Le, "number", "()I"⟩, prog_4_method_2_code, 1, (some .int), 0, 0, [])
theorem np_Le_number : nPar k_Le_number 0 := fun sig hs => by
  have e : parseMethodDescriptor k_Le_number.y.desc = some sig := hs
  have e2 : (parseMethodDescriptor k_Le_number.y.desc).map (fun q => q.parameters.length) = some 0 := by decide +kernel
  rw [e] at e2
  exact (Option.some.inj e2).symm
theorem kw_Le_number : k_Le_number.w ∈ tw := tx3 149 rfl rfl
def k_Le_add : Kt := (⟨R_Le, "add", "(III)I"⟩, prog_4_method_3_code, 4, (some .int), 0, 0, [])
theorem np_Le_add : nPar k_Le_add 3 := fun sig hs => by
  have e : parseMethodDescriptor k_Le_add.y.desc = some sig := hs
  have e2 : (parseMethodDescriptor k_Le_add.y.desc).map (fun q => q.parameters.length) = some 3 := by decide +kernel
  rw [e] at e2
  exact (Option.some.inj e2).symm
theorem kw_Le_add : k_Le_add.w ∈ tw := tx3 153 rfl rfl
def k_La_scale : Kt := (⟨R_La, "scale", "(LPhotoModels;I[J)I"⟩, method_16_code, 4, (some .int), 8, 136, [(0, 8, 11, 13)])
theorem np_La_scale : nPar k_La_scale 3 := fun sig hs => by
  have e : parseMethodDescriptor k_La_scale.y.desc = some sig := hs
  have e2 : (parseMethodDescriptor k_La_scale.y.desc).map (fun q => q.parameters.length) = some 3 := by decide +kernel
  rw [e] at e2
  exact (Option.some.inj e2).symm
theorem kw_La_scale : k_La_scale.w ∈ tw := tx3 156 rfl rfl
def k_Pm_scale : Kt := (⟨R_Pm, "scale", "(I)J"⟩, prog_1_method_16_code, 2, (some .long), 7, 115, [])
theorem np_Pm_scale : nPar k_Pm_scale 1 := fun sig hs => by
  have e : parseMethodDescriptor k_Pm_scale.y.desc = some sig := hs
  have e2 : (parseMethodDescriptor k_Pm_scale.y.desc).map (fun q => q.parameters.length) = some 1 := by decide +kernel
  rw [e] at e2
  exact (Option.some.inj e2).symm
theorem kw_Pm_scale : k_Pm_scale.w ∈ tw := tx3 160 rfl rfl
def k_Le_fraction : Kt := (⟨R_Le, "fraction", "(LPhotoModels$Adjustment;I)J"⟩, prog_4_method_4_code, 10, (some .long), 2, 52, [])
theorem np_Le_fraction : nPar k_Le_fraction 2 := fun sig hs => by
  have e : parseMethodDescriptor k_Le_fraction.y.desc = some sig := hs
  have e2 : (parseMethodDescriptor k_Le_fraction.y.desc).map (fun q => q.parameters.length) = some 2 := by decide +kernel
  rw [e] at e2
  exact (Option.some.inj e2).symm
theorem kw_Le_fraction : k_Le_fraction.w ∈ tw := tx3 164 rfl rfl
def k_Le_distance : Kt := (⟨R_Le, "distance", "(LPhotoModels$Adjustment;II)J"⟩, prog_4_method_5_code, 7, (some .long), 1, 26, [])
theorem np_Le_distance : nPar k_Le_distance 3 := fun sig hs => by
  have e : parseMethodDescriptor k_Le_distance.y.desc = some sig := hs
  have e2 : (parseMethodDescriptor k_Le_distance.y.desc).map (fun q => q.parameters.length) = some 3 := by decide +kernel
  rw [e] at e2
  exact (Option.some.inj e2).symm
theorem kw_Le_distance : k_Le_distance.w ∈ tw := tx3 167 rfl rfl
def k_Le_rootDown : Kt := (⟨R_Le, "rootDown", "(J)J"⟩, prog_4_method_6_code, 7, (some .long), 0, 0, [])
theorem np_Le_rootDown : nPar k_Le_rootDown 1 := fun sig hs => by
  have e : parseMethodDescriptor k_Le_rootDown.y.desc = some sig := hs
  have e2 : (parseMethodDescriptor k_Le_rootDown.y.desc).map (fun q => q.parameters.length) = some 1 := by decide +kernel
  rw [e] at e2
  exact (Option.some.inj e2).symm
theorem kw_Le_rootDown : k_Le_rootDown.w ∈ tw := tx3 171 rfl rfl
def k_Le_commonDivisor : Kt := (⟨R_Le, "commonDivisor", "(JJ)J"⟩, prog_4_method_7_code, 11, (some .long), 0, 0, [])
theorem np_Le_commonDivisor : nPar k_Le_commonDivisor 2 := fun sig hs => by
  have e : parseMethodDescriptor k_Le_commonDivisor.y.desc = some sig := hs
  have e2 : (parseMethodDescriptor k_Le_commonDivisor.y.desc).map (fun q => q.parameters.length) = some 2 := by decide +kernel
  rw [e] at e2
  exact (Option.some.inj e2).symm
theorem kw_Le_commonDivisor : k_Le_commonDivisor.w ∈ tw := tx3 174 rfl rfl
def k_La_heights : Kt := (⟨R_La, "heights", "(LPhotoModels;III[J)I"⟩, method_17_code, 6, (some .int), 8, 150, [(0, 12, 15, 13), (0, 12, 19, 15)])
theorem np_La_heights : nPar k_La_heights 5 := fun sig hs => by
  have e : parseMethodDescriptor k_La_heights.y.desc = some sig := hs
  have e2 : (parseMethodDescriptor k_La_heights.y.desc).map (fun q => q.parameters.length) = some 5 := by decide +kernel
  rw [e] at e2
  exact (Option.some.inj e2).symm
theorem kw_La_heights : k_La_heights.w ∈ tw := tx3 177 rfl rfl
def k_Pm_heights : Kt := (⟨R_Pm, "heights", "(III)I"⟩, prog_1_method_17_code, 4, (some .int), 7, 127, [])
theorem np_Pm_heights : nPar k_Pm_heights 3 := fun sig hs => by
  have e : parseMethodDescriptor k_Pm_heights.y.desc = some sig := hs
  have e2 : (parseMethodDescriptor k_Pm_heights.y.desc).map (fun q => q.parameters.length) = some 3 := by decide +kernel
  rw [e] at e2
  exact (Option.some.inj e2).symm
theorem kw_Pm_heights : k_Pm_heights.w ∈ tw := tx3 181 rfl rfl
def k_Re_raise : Kt := (⟨R_Re, "raise", "(LPhotoModels$Photos;III)I"⟩, prog_7_method_4_code, 7, (some .int), 4, 101, [])
theorem np_Re_raise : nPar k_Re_raise 4 := fun sig hs => by
  have e : parseMethodDescriptor k_Re_raise.y.desc = some sig := hs
  have e2 : (parseMethodDescriptor k_Re_raise.y.desc).map (fun q => q.parameters.length) = some 4 := by decide +kernel
  rw [e] at e2
  exact (Option.some.inj e2).symm
theorem kw_Re_raise : k_Re_raise.w ∈ tw := tx3 185 rfl rfl
def k_Re_fillCosts : Kt := (⟨R_Re, "fillCosts", "(LPhotoModels$Photos;IIII)V"⟩, prog_7_method_5_code, 10, none, 3, 72, [])
theorem np_Re_fillCosts : nPar k_Re_fillCosts 5 := fun sig hs => by
  have e : parseMethodDescriptor k_Re_fillCosts.y.desc = some sig := hs
  have e2 : (parseMethodDescriptor k_Re_fillCosts.y.desc).map (fun q => q.parameters.length) = some 5 := by decide +kernel
  rw [e] at e2
  exact (Option.some.inj e2).symm
theorem kw_Re_fillCosts : k_Re_fillCosts.w ∈ tw := tx3 189 rfl rfl
def k_Re_depthsAt : Kt := (⟨R_Re, "depthsAt", "(I)I"⟩, prog_7_method_9_code, 1, (some .int), 1, 21, [])
theorem np_Re_depthsAt : nPar k_Re_depthsAt 1 := fun sig hs => by
  have e : parseMethodDescriptor k_Re_depthsAt.y.desc = some sig := hs
  have e2 : (parseMethodDescriptor k_Re_depthsAt.y.desc).map (fun q => q.parameters.length) = some 1 := by decide +kernel
  rw [e] at e2
  exact (Option.some.inj e2).symm
theorem kw_Re_depthsAt : k_Re_depthsAt.w ∈ tw := tx3 192 rfl rfl
def k_Re_difference : Kt := (⟨R_Re, "difference", "(LPhotoModels$Photos;IIIII)I"⟩, prog_7_method_10_code, 6, (some .int), 2, 46, [])
theorem np_Re_difference : nPar k_Re_difference 6 := fun sig hs => by
  have e : parseMethodDescriptor k_Re_difference.y.desc = some sig := hs
  have e2 : (parseMethodDescriptor k_Re_difference.y.desc).map (fun q => q.parameters.length) = some 6 := by decide +kernel
  rw [e] at e2
  exact (Option.some.inj e2).symm
theorem kw_Re_difference : k_Re_difference.w ∈ tw := tx3 196 rfl rfl
def k_Ph_value : Kt := (⟨R_Ph, "value", "(III)I"⟩, prog_5_method_6_code, 4, (some .int), 1, 23, [])
theorem np_Ph_value : nPar k_Ph_value 3 := fun sig hs => by
  have e : parseMethodDescriptor k_Ph_value.y.desc = some sig := hs
  have e2 : (parseMethodDescriptor k_Ph_value.y.desc).map (fun q => q.parameters.length) = some 3 := by decide +kernel
  rw [e] at e2
  exact (Option.some.inj e2).symm
theorem kw_Ph_value : k_Ph_value.w ∈ tw := tx3 200 rfl rfl
def k_Re_bestAhead : Kt := (⟨R_Re, "bestAhead", "(III)I"⟩, prog_7_method_7_code, 8, (some .int), 2, 45, [])
theorem np_Re_bestAhead : nPar k_Re_bestAhead 3 := fun sig hs => by
  have e : parseMethodDescriptor k_Re_bestAhead.y.desc = some sig := hs
  have e2 : (parseMethodDescriptor k_Re_bestAhead.y.desc).map (fun q => q.parameters.length) = some 3 := by decide +kernel
  rw [e] at e2
  exact (Option.some.inj e2).symm
theorem kw_Re_bestAhead : k_Re_bestAhead.w ∈ tw := tx3 205 rfl rfl
def k_Re_costAhead : Kt := (⟨R_Re, "costAhead", "(IIII)I"⟩, prog_7_method_8_code, 5, (some .int), 1, 21, [])
theorem np_Re_costAhead : nPar k_Re_costAhead 4 := fun sig hs => by
  have e : parseMethodDescriptor k_Re_costAhead.y.desc = some sig := hs
  have e2 : (parseMethodDescriptor k_Re_costAhead.y.desc).map (fun q => q.parameters.length) = some 4 := by decide +kernel
  rw [e] at e2
  exact (Option.some.inj e2).symm
theorem kw_Re_costAhead : k_Re_costAhead.w ∈ tw := tx3 209 rfl rfl
def k_Re_traceBack : Kt := (⟨R_Re, "traceBack", "(LPhotoModels$Photos;IIII)I"⟩, prog_7_method_6_code, 9, (some .int), 3, 72, [])
theorem np_Re_traceBack : nPar k_Re_traceBack 5 := fun sig hs => by
  have e : parseMethodDescriptor k_Re_traceBack.y.desc = some sig := hs
  have e2 : (parseMethodDescriptor k_Re_traceBack.y.desc).map (fun q => q.parameters.length) = some 5 := by decide +kernel
  rw [e] at e2
  exact (Option.some.inj e2).symm
theorem kw_Re_traceBack : k_Re_traceBack.w ∈ tw := tx3 213 rfl rfl
def k_La_depth : Kt := (⟨R_La, "depth", "(LPhotoModels;II[J)I"⟩, method_18_code, 5, (some .int), 8, 137, [(0, 10, 13, 13), (0, 10, 17, 24)])
theorem np_La_depth : nPar k_La_depth 4 := fun sig hs => by
  have e : parseMethodDescriptor k_La_depth.y.desc = some sig := hs
  have e2 : (parseMethodDescriptor k_La_depth.y.desc).map (fun q => q.parameters.length) = some 4 := by decide +kernel
  rw [e] at e2
  exact (Option.some.inj e2).symm
theorem kw_La_depth : k_La_depth.w ∈ tw := tx3 216 rfl rfl
def k_Pm_depth : Kt := (⟨R_Pm, "depth", "(II)I"⟩, prog_1_method_18_code, 3, (some .int), 7, 115, [])
theorem np_Pm_depth : nPar k_Pm_depth 2 := fun sig hs => by
  have e : parseMethodDescriptor k_Pm_depth.y.desc = some sig := hs
  have e2 : (parseMethodDescriptor k_Pm_depth.y.desc).map (fun q => q.parameters.length) = some 2 := by decide +kernel
  rw [e] at e2
  exact (Option.some.inj e2).symm
theorem kw_Pm_depth : k_Pm_depth.w ∈ tw := tx3 220 rfl rfl
def k_Re_isRaised : Kt := (⟨R_Re, "isRaised", "()Z"⟩, prog_7_method_2_code, 1, (some .boolean), 0, 0, [])
theorem np_Re_isRaised : nPar k_Re_isRaised 0 := fun sig hs => by
  have e : parseMethodDescriptor k_Re_isRaised.y.desc = some sig := hs
  have e2 : (parseMethodDescriptor k_Re_isRaised.y.desc).map (fun q => q.parameters.length) = some 0 := by decide +kernel
  rw [e] at e2
  exact (Option.some.inj e2).symm
theorem kw_Re_isRaised : k_Re_isRaised.w ∈ tw := tx3 224 rfl rfl
def k_Re_depthOf : Kt := (⟨R_Re, "depthOf", "(II)I"⟩, prog_7_method_3_code, 3, (some .int), 0, 0, [])
theorem np_Re_depthOf : nPar k_Re_depthOf 2 := fun sig hs => by
  have e : parseMethodDescriptor k_Re_depthOf.y.desc = some sig := hs
  have e2 : (parseMethodDescriptor k_Re_depthOf.y.desc).map (fun q => q.parameters.length) = some 2 := by decide +kernel
  rw [e] at e2
  exact (Option.some.inj e2).symm
theorem kw_Re_depthOf : k_Re_depthOf.w ∈ tw := tx3 228 rfl rfl
def k_La_holes : Kt := (⟨R_La, "holes", "(LPhotoModels;I[J)I"⟩, method_19_code, 4, (some .int), 8, 136, [(0, 9, 12, 24)])
theorem np_La_holes : nPar k_La_holes 3 := fun sig hs => by
  have e : parseMethodDescriptor k_La_holes.y.desc = some sig := hs
  have e2 : (parseMethodDescriptor k_La_holes.y.desc).map (fun q => q.parameters.length) = some 3 := by decide +kernel
  rw [e] at e2
  exact (Option.some.inj e2).symm
theorem kw_La_holes : k_La_holes.w ∈ tw := tx3 231 rfl rfl
def k_Pm_holes : Kt := (⟨R_Pm, "holes", "(I)I"⟩, prog_1_method_19_code, 2, (some .int), 7, 115, [])
theorem np_Pm_holes : nPar k_Pm_holes 1 := fun sig hs => by
  have e : parseMethodDescriptor k_Pm_holes.y.desc = some sig := hs
  have e2 : (parseMethodDescriptor k_Pm_holes.y.desc).map (fun q => q.parameters.length) = some 1 := by decide +kernel
  rw [e] at e2
  exact (Option.some.inj e2).symm
theorem kw_Pm_holes : k_Pm_holes.w ∈ tw := tx3 235 rfl rfl
def k_Re_holesAbove : Kt := (⟨R_Re, "holesAbove", "(I)I"⟩, prog_7_method_11_code, 6, (some .int), 2, 45, [])
theorem np_Re_holesAbove : nPar k_Re_holesAbove 1 := fun sig hs => by
  have e : parseMethodDescriptor k_Re_holesAbove.y.desc = some sig := hs
  have e2 : (parseMethodDescriptor k_Re_holesAbove.y.desc).map (fun q => q.parameters.length) = some 1 := by decide +kernel
  rw [e] at e2
  exact (Option.some.inj e2).symm
theorem kw_Re_holesAbove : k_Re_holesAbove.w ∈ tw := tx3 239 rfl rfl
def k_Re_openAbove : Kt := (⟨R_Re, "openAbove", "(I)V"⟩, prog_7_method_12_code, 4, none, 1, 22, [])
theorem np_Re_openAbove : nPar k_Re_openAbove 1 := fun sig hs => by
  have e : parseMethodDescriptor k_Re_openAbove.y.desc = some sig := hs
  have e2 : (parseMethodDescriptor k_Re_openAbove.y.desc).map (fun q => q.parameters.length) = some 1 := by decide +kernel
  rw [e] at e2
  exact (Option.some.inj e2).symm
theorem kw_Re_openAbove : k_Re_openAbove.w ∈ tw := tx4 3 rfl rfl
def k_Re_marginedIndex : Kt := (⟨R_Re, "marginedIndex", "(II)I"⟩, prog_7_method_15_code, 3, (some .int), 0, 0, [])
theorem np_Re_marginedIndex : nPar k_Re_marginedIndex 2 := fun sig hs => by
  have e : parseMethodDescriptor k_Re_marginedIndex.y.desc = some sig := hs
  have e2 : (parseMethodDescriptor k_Re_marginedIndex.y.desc).map (fun q => q.parameters.length) = some 2 := by decide +kernel
  rw [e] at e2
  exact (Option.some.inj e2).symm
theorem kw_Re_marginedIndex : k_Re_marginedIndex.w ∈ tw := tx4 7 rfl rfl
def k_Re_closeAround : Kt := (⟨R_Re, "closeAround", "(I)V"⟩, prog_7_method_13_code, 4, none, 1, 21, [])
theorem np_Re_closeAround : nPar k_Re_closeAround 1 := fun sig hs => by
  have e : parseMethodDescriptor k_Re_closeAround.y.desc = some sig := hs
  have e2 : (parseMethodDescriptor k_Re_closeAround.y.desc).map (fun q => q.parameters.length) = some 1 := by decide +kernel
  rw [e] at e2
  exact (Option.some.inj e2).symm
theorem kw_Re_closeAround : k_Re_closeAround.w ∈ tw := tx4 11 rfl rfl
def k_Re_closeIfOpen : Kt := (⟨R_Re, "closeIfOpen", "(I)V"⟩, prog_7_method_14_code, 2, none, 0, 0, [])
theorem np_Re_closeIfOpen : nPar k_Re_closeIfOpen 1 := fun sig hs => by
  have e : parseMethodDescriptor k_Re_closeIfOpen.y.desc = some sig := hs
  have e2 : (parseMethodDescriptor k_Re_closeIfOpen.y.desc).map (fun q => q.parameters.length) = some 1 := by decide +kernel
  rw [e] at e2
  exact (Option.some.inj e2).symm
theorem kw_Re_closeIfOpen : k_Re_closeIfOpen.w ∈ tw := tx4 15 rfl rfl
def k_La_count : Kt := (⟨R_La, "count", "(LPhotoModels;I[J)I"⟩, method_20_code, 4, (some .int), 7, 116, [(0, 9, 12, 13)])
theorem np_La_count : nPar k_La_count 3 := fun sig hs => by
  have e : parseMethodDescriptor k_La_count.y.desc = some sig := hs
  have e2 : (parseMethodDescriptor k_La_count.y.desc).map (fun q => q.parameters.length) = some 3 := by decide +kernel
  rw [e] at e2
  exact (Option.some.inj e2).symm
theorem kw_La_count : k_La_count.w ∈ tw := tx4 18 rfl rfl
def k_Pm_count : Kt := (⟨R_Pm, "count", "(I)I"⟩, prog_1_method_20_code, 2, (some .int), 6, 95, [])
theorem np_Pm_count : nPar k_Pm_count 1 := fun sig hs => by
  have e : parseMethodDescriptor k_Pm_count.y.desc = some sig := hs
  have e2 : (parseMethodDescriptor k_Pm_count.y.desc).map (fun q => q.parameters.length) = some 1 := by decide +kernel
  rw [e] at e2
  exact (Option.some.inj e2).symm
theorem kw_Pm_count : k_Pm_count.w ∈ tw := tx4 22 rfl rfl
def k_Ph_width : Kt := (⟨R_Ph, "width", "()I"⟩, prog_5_method_2_code, 1, (some .int), 0, 0, [])
theorem np_Ph_width : nPar k_Ph_width 0 := fun sig hs => by
  have e : parseMethodDescriptor k_Ph_width.y.desc = some sig := hs
  have e2 : (parseMethodDescriptor k_Ph_width.y.desc).map (fun q => q.parameters.length) = some 0 := by decide +kernel
  rw [e] at e2
  exact (Option.some.inj e2).symm
theorem kw_Ph_width : k_Ph_width.w ∈ tw := tx4 26 rfl rfl
def k_Ph_height : Kt := (⟨R_Ph, "height", "()I"⟩, prog_5_method_3_code, 1, (some .int), 0, 0, [])
theorem np_Ph_height : nPar k_Ph_height 0 := fun sig hs => by
  have e : parseMethodDescriptor k_Ph_height.y.desc = some sig := hs
  have e2 : (parseMethodDescriptor k_Ph_height.y.desc).map (fun q => q.parameters.length) = some 0 := by decide +kernel
  rw [e] at e2
  exact (Option.some.inj e2).symm
theorem kw_Ph_height : k_Ph_height.w ∈ tw := tx4 30 rfl rfl
def k_Pl_spares : Kt := (⟨R_Pl, "spares", "()I"⟩, prog_6_method_3_code, 1, (some .int), 0, 0, [])
theorem np_Pl_spares : nPar k_Pl_spares 0 := fun sig hs => by
  have e : parseMethodDescriptor k_Pl_spares.y.desc = some sig := hs
  have e2 : (parseMethodDescriptor k_Pl_spares.y.desc).map (fun q => q.parameters.length) = some 0 := by decide +kernel
  rw [e] at e2
  exact (Option.some.inj e2).symm
theorem kw_Pl_spares : k_Pl_spares.w ∈ tw := tx4 34 rfl rfl
def k_Mo_init : Kt := (⟨R_Mo, "<init>", "(III)V"⟩, prog_10_method_1_code, 5, none, 1, 20, [])
theorem np_Mo_init : nPar k_Mo_init 3 := fun sig hs => by
  have e : parseMethodDescriptor k_Mo_init.y.desc = some sig := hs
  have e2 : (parseMethodDescriptor k_Mo_init.y.desc).map (fun q => q.parameters.length) = some 3 := by decide +kernel
  rw [e] at e2
  exact (Option.some.inj e2).symm
theorem kw_Mo_init : k_Mo_init.w ∈ tw := tx4 40 rfl rfl
def k_Mo_thrown : Kt := (⟨R_Mo, "thrown", "()I"⟩, prog_10_method_2_code, 1, (some .int), 0, 0, [])
theorem np_Mo_thrown : nPar k_Mo_thrown 0 := fun sig hs => by
  have e : parseMethodDescriptor k_Mo_thrown.y.desc = some sig := hs
  have e2 : (parseMethodDescriptor k_Mo_thrown.y.desc).map (fun q => q.parameters.length) = some 0 := by decide +kernel
  rw [e] at e2
  exact (Option.some.inj e2).symm
theorem kw_Mo_thrown : k_Mo_thrown.w ∈ tw := tx4 131 rfl rfl
def k_Mo_pixel : Kt := (⟨R_Mo, "pixel", "(IIII)I"⟩, prog_10_method_10_code, 6, (some .int), 2, 44, [])
theorem np_Mo_pixel : nPar k_Mo_pixel 4 := fun sig hs => by
  have e : parseMethodDescriptor k_Mo_pixel.y.desc = some sig := hs
  have e2 : (parseMethodDescriptor k_Mo_pixel.y.desc).map (fun q => q.parameters.length) = some 4 := by decide +kernel
  rw [e] at e2
  exact (Option.some.inj e2).symm
theorem kw_Mo_pixel : k_Mo_pixel.w ∈ tw := tx4 135 rfl rfl
def k_Mo_isPhoto : Kt := (⟨R_Mo, "isPhoto", "(I)Z"⟩, prog_10_method_5_code, 1, (some .boolean), 1, 22, [])
theorem np_Mo_isPhoto : nPar k_Mo_isPhoto 1 := fun sig hs => by
  have e : parseMethodDescriptor k_Mo_isPhoto.y.desc = some sig := hs
  have e2 : (parseMethodDescriptor k_Mo_isPhoto.y.desc).map (fun q => q.parameters.length) = some 1 := by decide +kernel
  rw [e] at e2
  exact (Option.some.inj e2).symm
theorem kw_Mo_isPhoto : k_Mo_isPhoto.w ∈ tw := tx4 138 rfl rfl
def k_Mo_within : Kt := (⟨R_Mo, "within", "(III)Z"⟩, prog_10_method_4_code, 3, (some .boolean), 0, 0, [])
theorem np_Mo_within : nPar k_Mo_within 3 := fun sig hs => by
  have e : parseMethodDescriptor k_Mo_within.y.desc = some sig := hs
  have e2 : (parseMethodDescriptor k_Mo_within.y.desc).map (fun q => q.parameters.length) = some 3 := by decide +kernel
  rw [e] at e2
  exact (Option.some.inj e2).symm
theorem kw_Mo_within : k_Mo_within.w ∈ tw := tx4 141 rfl rfl
def k_Mo_isCell : Kt := (⟨R_Mo, "isCell", "(II)Z"⟩, prog_10_method_6_code, 3, (some .boolean), 1, 22, [])
theorem np_Mo_isCell : nPar k_Mo_isCell 2 := fun sig hs => by
  have e : parseMethodDescriptor k_Mo_isCell.y.desc = some sig := hs
  have e2 : (parseMethodDescriptor k_Mo_isCell.y.desc).map (fun q => q.parameters.length) = some 2 := by decide +kernel
  rw [e] at e2
  exact (Option.some.inj e2).symm
theorem kw_Mo_isCell : k_Mo_isCell.w ∈ tw := tx4 145 rfl rfl
def k_Mo_goes : Kt := (⟨R_Mo, "goes", "(ZZZ)Z"⟩, prog_10_method_3_code, 4, (some .boolean), 0, 0, [])
theorem np_Mo_goes : nPar k_Mo_goes 3 := fun sig hs => by
  have e : parseMethodDescriptor k_Mo_goes.y.desc = some sig := hs
  have e2 : (parseMethodDescriptor k_Mo_goes.y.desc).map (fun q => q.parameters.length) = some 3 := by decide +kernel
  rw [e] at e2
  exact (Option.some.inj e2).symm
theorem kw_Mo_goes : k_Mo_goes.w ∈ tw := tx4 149 rfl rfl
def k_Mo_valueOf : Kt := (⟨R_Mo, "valueOf", "(III)I"⟩, prog_10_method_9_code, 4, (some .int), 0, 0, [])
theorem np_Mo_valueOf : nPar k_Mo_valueOf 3 := fun sig hs => by
  have e : parseMethodDescriptor k_Mo_valueOf.y.desc = some sig := hs
  have e2 : (parseMethodDescriptor k_Mo_valueOf.y.desc).map (fun q => q.parameters.length) = some 3 := by decide +kernel
  rw [e] at e2
  exact (Option.some.inj e2).symm
theorem kw_Mo_valueOf : k_Mo_valueOf.w ∈ tw := tx4 153 rfl rfl
def k_Mo_match : Kt := (⟨R_Mo, "match", "(IIII)I"⟩, prog_10_method_12_code, 10, (some .int), 2, 52, [])
theorem np_Mo_match : nPar k_Mo_match 4 := fun sig hs => by
  have e : parseMethodDescriptor k_Mo_match.y.desc = some sig := hs
  have e2 : (parseMethodDescriptor k_Mo_match.y.desc).map (fun q => q.parameters.length) = some 4 := by decide +kernel
  rw [e] at e2
  exact (Option.some.inj e2).symm
theorem kw_Mo_match : k_Mo_match.w ∈ tw := tx4 157 rfl rfl
def k_Mo_missOf : Kt := (⟨R_Mo, "missOf", "(IIIIII)I"⟩, prog_10_method_11_code, 10, (some .int), 1, 23, [])
theorem np_Mo_missOf : nPar k_Mo_missOf 6 := fun sig hs => by
  have e : parseMethodDescriptor k_Mo_missOf.y.desc = some sig := hs
  have e2 : (parseMethodDescriptor k_Mo_missOf.y.desc).map (fun q => q.parameters.length) = some 6 := by decide +kernel
  rw [e] at e2
  exact (Option.some.inj e2).symm
theorem kw_Mo_missOf : k_Mo_missOf.w ∈ tw := tx4 161 rfl rfl
def k_Mo_apart : Kt := (⟨R_Mo, "apart", "(II)I"⟩, prog_10_method_8_code, 2, (some .int), 0, 0, [])
theorem np_Mo_apart : nPar k_Mo_apart 2 := fun sig hs => by
  have e : parseMethodDescriptor k_Mo_apart.y.desc = some sig := hs
  have e2 : (parseMethodDescriptor k_Mo_apart.y.desc).map (fun q => q.parameters.length) = some 2 := by decide +kernel
  rw [e] at e2
  exact (Option.some.inj e2).symm
theorem kw_Mo_apart : k_Mo_apart.w ∈ tw := tx4 164 rfl rfl
def k_Mo_found : Kt := (⟨R_Mo, "found", "(I)I"⟩, prog_10_method_13_code, 2, (some .int), 1, 23, [])
theorem np_Mo_found : nPar k_Mo_found 1 := fun sig hs => by
  have e : parseMethodDescriptor k_Mo_found.y.desc = some sig := hs
  have e2 : (parseMethodDescriptor k_Mo_found.y.desc).map (fun q => q.parameters.length) = some 1 := by decide +kernel
  rw [e] at e2
  exact (Option.some.inj e2).symm
theorem kw_Mo_found : k_Mo_found.w ∈ tw := tx4 168 rfl rfl
def k_Mo_place : Kt := (⟨R_Mo, "place", "()I"⟩, prog_10_method_14_code, 1, (some .int), 1, 23, [])
theorem np_Mo_place : nPar k_Mo_place 0 := fun sig hs => by
  have e : parseMethodDescriptor k_Mo_place.y.desc = some sig := hs
  have e2 : (parseMethodDescriptor k_Mo_place.y.desc).map (fun q => q.parameters.length) = some 0 := by decide +kernel
  rw [e] at e2
  exact (Option.some.inj e2).symm
theorem kw_Mo_place : k_Mo_place.w ∈ tw := tx4 172 rfl rfl
def k_Mo_seen : Kt := (⟨R_Mo, "seen", "(IIII)Z"⟩, prog_10_method_15_code, 6, (some .boolean), 2, 43, [])
theorem np_Mo_seen : nPar k_Mo_seen 4 := fun sig hs => by
  have e : parseMethodDescriptor k_Mo_seen.y.desc = some sig := hs
  have e2 : (parseMethodDescriptor k_Mo_seen.y.desc).map (fun q => q.parameters.length) = some 4 := by decide +kernel
  rw [e] at e2
  exact (Option.some.inj e2).symm
theorem kw_Mo_seen : k_Mo_seen.w ∈ tw := tx4 176 rfl rfl
def k_Mo_isPlace : Kt := (⟨R_Mo, "isPlace", "(I)Z"⟩, prog_10_method_7_code, 2, (some .boolean), 1, 22, [])
theorem np_Mo_isPlace : nPar k_Mo_isPlace 1 := fun sig hs => by
  have e : parseMethodDescriptor k_Mo_isPlace.y.desc = some sig := hs
  have e2 : (parseMethodDescriptor k_Mo_isPlace.y.desc).map (fun q => q.parameters.length) = some 1 := by decide +kernel
  rw [e] at e2
  exact (Option.some.inj e2).symm
theorem kw_Mo_isPlace : k_Mo_isPlace.w ∈ tw := tx4 180 rfl rfl
def k_Mo_relative : Kt := (⟨R_Mo, "relative", "(IIII)I"⟩, prog_10_method_22_code, 11, (some .int), 3, 74, [])
theorem np_Mo_relative : nPar k_Mo_relative 4 := fun sig hs => by
  have e : parseMethodDescriptor k_Mo_relative.y.desc = some sig := hs
  have e2 : (parseMethodDescriptor k_Mo_relative.y.desc).map (fun q => q.parameters.length) = some 4 := by decide +kernel
  rw [e] at e2
  exact (Option.some.inj e2).symm
theorem kw_Mo_relative : k_Mo_relative.w ∈ tw := tx4 184 rfl rfl
def k_Mo_isBoth : Kt := (⟨R_Mo, "isBoth", "(III)Z"⟩, prog_10_method_19_code, 4, (some .boolean), 1, 22, [])
theorem np_Mo_isBoth : nPar k_Mo_isBoth 3 := fun sig hs => by
  have e : parseMethodDescriptor k_Mo_isBoth.y.desc = some sig := hs
  have e2 : (parseMethodDescriptor k_Mo_isBoth.y.desc).map (fun q => q.parameters.length) = some 3 := by decide +kernel
  rw [e] at e2
  exact (Option.some.inj e2).symm
theorem kw_Mo_isBoth : k_Mo_isBoth.w ∈ tw := tx4 188 rfl rfl
def k_Mo_isSeen : Kt := (⟨R_Mo, "isSeen", "(II)Z"⟩, prog_10_method_16_code, 3, (some .boolean), 0, 0, [])
theorem np_Mo_isSeen : nPar k_Mo_isSeen 2 := fun sig hs => by
  have e : parseMethodDescriptor k_Mo_isSeen.y.desc = some sig := hs
  have e2 : (parseMethodDescriptor k_Mo_isSeen.y.desc).map (fun q => q.parameters.length) = some 2 := by decide +kernel
  rw [e] at e2
  exact (Option.some.inj e2).symm
theorem kw_Mo_isSeen : k_Mo_isSeen.w ∈ tw := tx4 192 rfl rfl
def k_Mo_drawn : Kt := (⟨R_Mo, "drawn", "(I)I"⟩, prog_10_method_18_code, 4, (some .int), 0, 0, [])
theorem np_Mo_drawn : nPar k_Mo_drawn 1 := fun sig hs => by
  have e : parseMethodDescriptor k_Mo_drawn.y.desc = some sig := hs
  have e2 : (parseMethodDescriptor k_Mo_drawn.y.desc).map (fun q => q.parameters.length) = some 1 := by decide +kernel
  rw [e] at e2
  exact (Option.some.inj e2).symm
theorem kw_Mo_drawn : k_Mo_drawn.w ∈ tw := tx4 196 rfl rfl
def k_Mo_agreeing : Kt := (⟨R_Mo, "agreeing", "(IIII)I"⟩, prog_10_method_21_code, 8, (some .int), 2, 47, [])
theorem np_Mo_agreeing : nPar k_Mo_agreeing 4 := fun sig hs => by
  have e : parseMethodDescriptor k_Mo_agreeing.y.desc = some sig := hs
  have e2 : (parseMethodDescriptor k_Mo_agreeing.y.desc).map (fun q => q.parameters.length) = some 4 := by decide +kernel
  rw [e] at e2
  exact (Option.some.inj e2).symm
theorem kw_Mo_agreeing : k_Mo_agreeing.w ∈ tw := tx4 201 rfl rfl
def k_Mo_between : Kt := (⟨R_Mo, "between", "(IIII)I"⟩, prog_10_method_20_code, 5, (some .int), 1, 23, [])
theorem np_Mo_between : nPar k_Mo_between 4 := fun sig hs => by
  have e : parseMethodDescriptor k_Mo_between.y.desc = some sig := hs
  have e2 : (parseMethodDescriptor k_Mo_between.y.desc).map (fun q => q.parameters.length) = some 4 := by decide +kernel
  rw [e] at e2
  exact (Option.some.inj e2).symm
theorem kw_Mo_between : k_Mo_between.w ∈ tw := tx4 205 rfl rfl
def k_Mo_where : Kt := (⟨R_Mo, "where", "(III)I"⟩, prog_10_method_17_code, 4, (some .int), 0, 0, [])
theorem np_Mo_where : nPar k_Mo_where 3 := fun sig hs => by
  have e : parseMethodDescriptor k_Mo_where.y.desc = some sig := hs
  have e2 : (parseMethodDescriptor k_Mo_where.y.desc).map (fun q => q.parameters.length) = some 3 := by decide +kernel
  rw [e] at e2
  exact (Option.some.inj e2).symm
theorem kw_Mo_where : k_Mo_where.w ∈ tw := tx4 209 rfl rfl
def k_Mo_shift : Kt := (⟨R_Mo, "shift", "(I)I"⟩, prog_10_method_23_code, 2, (some .int), 1, 23, [])
theorem np_Mo_shift : nPar k_Mo_shift 1 := fun sig hs => by
  have e : parseMethodDescriptor k_Mo_shift.y.desc = some sig := hs
  have e2 : (parseMethodDescriptor k_Mo_shift.y.desc).map (fun q => q.parameters.length) = some 1 := by decide +kernel
  rw [e] at e2
  exact (Option.some.inj e2).symm
theorem kw_Mo_shift : k_Mo_shift.w ∈ tw := tx4 213 rfl rfl
def k_Mo_spare : Kt := (⟨R_Mo, "spare", "(IZ)Z"⟩, prog_10_method_24_code, 4, (some .boolean), 2, 43, [])
theorem np_Mo_spare : nPar k_Mo_spare 2 := fun sig hs => by
  have e : parseMethodDescriptor k_Mo_spare.y.desc = some sig := hs
  have e2 : (parseMethodDescriptor k_Mo_spare.y.desc).map (fun q => q.parameters.length) = some 2 := by decide +kernel
  rw [e] at e2
  exact (Option.some.inj e2).symm
theorem kw_Mo_spare : k_Mo_spare.w ∈ tw := tx4 217 rfl rfl
def k_Mo_run : Kt := (⟨R_Mo, "run", "(I)I"⟩, prog_10_method_32_code, 7, (some .int), 3, 74, [])
theorem np_Mo_run : nPar k_Mo_run 1 := fun sig hs => by
  have e : parseMethodDescriptor k_Mo_run.y.desc = some sig := hs
  have e2 : (parseMethodDescriptor k_Mo_run.y.desc).map (fun q => q.parameters.length) = some 1 := by decide +kernel
  rw [e] at e2
  exact (Option.some.inj e2).symm
theorem kw_Mo_run : k_Mo_run.w ∈ tw := tx4 221 rfl rfl
def k_Mo_begin : Kt := (⟨R_Mo, "begin", "()V"⟩, prog_10_method_31_code, 2, none, 2, 48, [])
theorem np_Mo_begin : nPar k_Mo_begin 0 := fun sig hs => by
  have e : parseMethodDescriptor k_Mo_begin.y.desc = some sig := hs
  have e2 : (parseMethodDescriptor k_Mo_begin.y.desc).map (fun q => q.parameters.length) = some 0 := by decide +kernel
  rw [e] at e2
  exact (Option.some.inj e2).symm
theorem kw_Mo_begin : k_Mo_begin.w ∈ tw := tx4 225 rfl rfl
def k_Mo_put : Kt := (⟨R_Mo, "put", "(II)V"⟩, prog_10_method_29_code, 6, none, 1, 23, [])
theorem np_Mo_put : nPar k_Mo_put 2 := fun sig hs => by
  have e : parseMethodDescriptor k_Mo_put.y.desc = some sig := hs
  have e2 : (parseMethodDescriptor k_Mo_put.y.desc).map (fun q => q.parameters.length) = some 2 := by decide +kernel
  rw [e] at e2
  exact (Option.some.inj e2).symm
theorem kw_Mo_put : k_Mo_put.w ∈ tw := tx4 229 rfl rfl
def k_Mo_down : Kt := (⟨R_Mo, "down", "(II)I"⟩, prog_10_method_25_code, 3, (some .int), 0, 0, [])
theorem np_Mo_down : nPar k_Mo_down 2 := fun sig hs => by
  have e : parseMethodDescriptor k_Mo_down.y.desc = some sig := hs
  have e2 : (parseMethodDescriptor k_Mo_down.y.desc).map (fun q => q.parameters.length) = some 2 := by decide +kernel
  rw [e] at e2
  exact (Option.some.inj e2).symm
theorem kw_Mo_down : k_Mo_down.w ∈ tw := tx4 232 rfl rfl
def k_Mo_all : Kt := (⟨R_Mo, "all", "()J"⟩, prog_10_method_27_code, 4, (some .long), 2, 51, [])
theorem np_Mo_all : nPar k_Mo_all 0 := fun sig hs => by
  have e : parseMethodDescriptor k_Mo_all.y.desc = some sig := hs
  have e2 : (parseMethodDescriptor k_Mo_all.y.desc).map (fun q => q.parameters.length) = some 0 := by decide +kernel
  rw [e] at e2
  exact (Option.some.inj e2).symm
theorem kw_Mo_all : k_Mo_all.w ∈ tw := tx4 236 rfl rfl
def k_Mo_missed : Kt := (⟨R_Mo, "missed", "(I)J"⟩, prog_10_method_26_code, 9, (some .long), 1, 23, [])
theorem np_Mo_missed : nPar k_Mo_missed 1 := fun sig hs => by
  have e : parseMethodDescriptor k_Mo_missed.y.desc = some sig := hs
  have e2 : (parseMethodDescriptor k_Mo_missed.y.desc).map (fun q => q.parameters.length) = some 1 := by decide +kernel
  rw [e] at e2
  exact (Option.some.inj e2).symm
theorem kw_Mo_missed : k_Mo_missed.w ∈ tw := tx5 0 rfl rfl
def k_Mo_round : Kt := (⟨R_Mo, "round", "()V"⟩, prog_10_method_30_code, 2, none, 2, 48, [])
theorem np_Mo_round : nPar k_Mo_round 0 := fun sig hs => by
  have e : parseMethodDescriptor k_Mo_round.y.desc = some sig := hs
  have e2 : (parseMethodDescriptor k_Mo_round.y.desc).map (fun q => q.parameters.length) = some 0 := by decide +kernel
  rw [e] at e2
  exact (Option.some.inj e2).symm
theorem kw_Mo_round : k_Mo_round.w ∈ tw := tx5 4 rfl rfl
def k_Mo_move : Kt := (⟨R_Mo, "move", "(II)V"⟩, prog_10_method_28_code, 6, none, 1, 23, [])
theorem np_Mo_move : nPar k_Mo_move 2 := fun sig hs => by
  have e : parseMethodDescriptor k_Mo_move.y.desc = some sig := hs
  have e2 : (parseMethodDescriptor k_Mo_move.y.desc).map (fun q => q.parameters.length) = some 2 := by decide +kernel
  rw [e] at e2
  exact (Option.some.inj e2).symm
theorem kw_Mo_move : k_Mo_move.w ∈ tw := tx5 8 rfl rfl
def k_Mo_sum : Kt := (⟨R_Mo, "sum", "()J"⟩, prog_10_method_33_code, 1, (some .long), 3, 74, [])
theorem np_Mo_sum : nPar k_Mo_sum 0 := fun sig hs => by
  have e : parseMethodDescriptor k_Mo_sum.y.desc = some sig := hs
  have e2 : (parseMethodDescriptor k_Mo_sum.y.desc).map (fun q => q.parameters.length) = some 0 := by decide +kernel
  rw [e] at e2
  exact (Option.some.inj e2).symm
theorem kw_Mo_sum : k_Mo_sum.w ∈ tw := tx5 12 rfl rfl
def k_Mo_at : Kt := (⟨R_Mo, "at", "(II)I"⟩, prog_10_method_34_code, 3, (some .int), 2, 43, [])
theorem np_Mo_at : nPar k_Mo_at 2 := fun sig hs => by
  have e : parseMethodDescriptor k_Mo_at.y.desc = some sig := hs
  have e2 : (parseMethodDescriptor k_Mo_at.y.desc).map (fun q => q.parameters.length) = some 2 := by decide +kernel
  rw [e] at e2
  exact (Option.some.inj e2).symm
theorem kw_Mo_at : k_Mo_at.w ∈ tw := tx5 16 rfl rfl
def k_Mo_offset : Kt := (⟨R_Mo, "offset", "(II)I"⟩, prog_10_method_35_code, 3, (some .int), 2, 42, [])
theorem np_Mo_offset : nPar k_Mo_offset 2 := fun sig hs => by
  have e : parseMethodDescriptor k_Mo_offset.y.desc = some sig := hs
  have e2 : (parseMethodDescriptor k_Mo_offset.y.desc).map (fun q => q.parameters.length) = some 2 := by decide +kernel
  rw [e] at e2
  exact (Option.some.inj e2).symm
theorem kw_Mo_offset : k_Mo_offset.w ∈ tw := tx5 20 rfl rfl
def k_Mo_miss : Kt := (⟨R_Mo, "miss", "(I)J"⟩, prog_10_method_36_code, 2, (some .long), 2, 51, [])
theorem np_Mo_miss : nPar k_Mo_miss 1 := fun sig hs => by
  have e : parseMethodDescriptor k_Mo_miss.y.desc = some sig := hs
  have e2 : (parseMethodDescriptor k_Mo_miss.y.desc).map (fun q => q.parameters.length) = some 1 := by decide +kernel
  rw [e] at e2
  exact (Option.some.inj e2).symm
theorem kw_Mo_miss : k_Mo_miss.w ∈ tw := tx5 24 rfl rfl
def k_Mo_known : Kt := (⟨R_Mo, "known", "(III)I"⟩, prog_10_method_37_code, 4, (some .int), 2, 43, [])
theorem np_Mo_known : nPar k_Mo_known 3 := fun sig hs => by
  have e : parseMethodDescriptor k_Mo_known.y.desc = some sig := hs
  have e2 : (parseMethodDescriptor k_Mo_known.y.desc).map (fun q => q.parameters.length) = some 3 := by decide +kernel
  rw [e] at e2
  exact (Option.some.inj e2).symm
theorem kw_Mo_known : k_Mo_known.w ∈ tw := tx5 28 rfl rfl
def k_Mo_scale : Kt := (⟨R_Mo, "scale", "(I)J"⟩, prog_10_method_40_code, 13, (some .long), 1, 29, [])
theorem np_Mo_scale : nPar k_Mo_scale 1 := fun sig hs => by
  have e : parseMethodDescriptor k_Mo_scale.y.desc = some sig := hs
  have e2 : (parseMethodDescriptor k_Mo_scale.y.desc).map (fun q => q.parameters.length) = some 1 := by decide +kernel
  rw [e] at e2
  exact (Option.some.inj e2).symm
theorem kw_Mo_scale : k_Mo_scale.w ∈ tw := tx5 32 rfl rfl
def k_Mo_root : Kt := (⟨R_Mo, "root", "(J)J"⟩, prog_10_method_38_code, 9, (some .long), 0, 0, [])
theorem np_Mo_root : nPar k_Mo_root 1 := fun sig hs => by
  have e : parseMethodDescriptor k_Mo_root.y.desc = some sig := hs
  have e2 : (parseMethodDescriptor k_Mo_root.y.desc).map (fun q => q.parameters.length) = some 1 := by decide +kernel
  rw [e] at e2
  exact (Option.some.inj e2).symm
theorem kw_Mo_root : k_Mo_root.w ∈ tw := tx5 35 rfl rfl
def k_Mo_divisor : Kt := (⟨R_Mo, "divisor", "(JJ)J"⟩, prog_10_method_39_code, 10, (some .long), 0, 0, [])
theorem np_Mo_divisor : nPar k_Mo_divisor 2 := fun sig hs => by
  have e : parseMethodDescriptor k_Mo_divisor.y.desc = some sig := hs
  have e2 : (parseMethodDescriptor k_Mo_divisor.y.desc).map (fun q => q.parameters.length) = some 2 := by decide +kernel
  rw [e] at e2
  exact (Option.some.inj e2).symm
theorem kw_Mo_divisor : k_Mo_divisor.w ∈ tw := tx5 40 rfl rfl
def k_Mo_heights : Kt := (⟨R_Mo, "heights", "(III)I"⟩, prog_10_method_44_code, 6, (some .int), 3, 79, [])
theorem np_Mo_heights : nPar k_Mo_heights 3 := fun sig hs => by
  have e : parseMethodDescriptor k_Mo_heights.y.desc = some sig := hs
  have e2 : (parseMethodDescriptor k_Mo_heights.y.desc).map (fun q => q.parameters.length) = some 3 := by decide +kernel
  rw [e] at e2
  exact (Option.some.inj e2).symm
theorem kw_Mo_heights : k_Mo_heights.w ∈ tw := tx5 44 rfl rfl
def k_Mo_costRow : Kt := (⟨R_Mo, "costRow", "(IIII)V"⟩, prog_10_method_42_code, 12, none, 2, 48, [])
theorem np_Mo_costRow : nPar k_Mo_costRow 4 := fun sig hs => by
  have e : parseMethodDescriptor k_Mo_costRow.y.desc = some sig := hs
  have e2 : (parseMethodDescriptor k_Mo_costRow.y.desc).map (fun q => q.parameters.length) = some 4 := by decide +kernel
  rw [e] at e2
  exact (Option.some.inj e2).symm
theorem kw_Mo_costRow : k_Mo_costRow.w ∈ tw := tx5 48 rfl rfl
def k_Mo_gap : Kt := (⟨R_Mo, "gap", "(IIIII)I"⟩, prog_10_method_41_code, 6, (some .int), 1, 23, [])
theorem np_Mo_gap : nPar k_Mo_gap 5 := fun sig hs => by
  have e : parseMethodDescriptor k_Mo_gap.y.desc = some sig := hs
  have e2 : (parseMethodDescriptor k_Mo_gap.y.desc).map (fun q => q.parameters.length) = some 5 := by decide +kernel
  rw [e] at e2
  exact (Option.some.inj e2).symm
theorem kw_Mo_gap : k_Mo_gap.w ∈ tw := tx5 52 rfl rfl
def k_Mo_trace : Kt := (⟨R_Mo, "trace", "(IIII)I"⟩, prog_10_method_43_code, 10, (some .int), 2, 48, [])
theorem np_Mo_trace : nPar k_Mo_trace 4 := fun sig hs => by
  have e : parseMethodDescriptor k_Mo_trace.y.desc = some sig := hs
  have e2 : (parseMethodDescriptor k_Mo_trace.y.desc).map (fun q => q.parameters.length) = some 4 := by decide +kernel
  rw [e] at e2
  exact (Option.some.inj e2).symm
theorem kw_Mo_trace : k_Mo_trace.w ∈ tw := tx5 56 rfl rfl
def k_Mo_depth : Kt := (⟨R_Mo, "depth", "(II)I"⟩, prog_10_method_45_code, 3, (some .int), 2, 44, [])
theorem np_Mo_depth : nPar k_Mo_depth 2 := fun sig hs => by
  have e : parseMethodDescriptor k_Mo_depth.y.desc = some sig := hs
  have e2 : (parseMethodDescriptor k_Mo_depth.y.desc).map (fun q => q.parameters.length) = some 2 := by decide +kernel
  rw [e] at e2
  exact (Option.some.inj e2).symm
theorem kw_Mo_depth : k_Mo_depth.w ∈ tw := tx5 60 rfl rfl
def k_Mo_holes : Kt := (⟨R_Mo, "holes", "(I)I"⟩, prog_10_method_49_code, 4, (some .int), 5, 113, [])
theorem np_Mo_holes : nPar k_Mo_holes 1 := fun sig hs => by
  have e : parseMethodDescriptor k_Mo_holes.y.desc = some sig := hs
  have e2 : (parseMethodDescriptor k_Mo_holes.y.desc).map (fun q => q.parameters.length) = some 1 := by decide +kernel
  rw [e] at e2
  exact (Option.some.inj e2).symm
theorem kw_Mo_holes : k_Mo_holes.w ∈ tw := tx5 64 rfl rfl
def k_Mo_close : Kt := (⟨R_Mo, "close", "(I)V"⟩, prog_10_method_47_code, 6, none, 4, 88, [])
theorem np_Mo_close : nPar k_Mo_close 1 := fun sig hs => by
  have e : parseMethodDescriptor k_Mo_close.y.desc = some sig := hs
  have e2 : (parseMethodDescriptor k_Mo_close.y.desc).map (fun q => q.parameters.length) = some 1 := by decide +kernel
  rw [e] at e2
  exact (Option.some.inj e2).symm
theorem kw_Mo_close : k_Mo_close.w ∈ tw := tx5 68 rfl rfl
def k_Mo_isOpen : Kt := (⟨R_Mo, "isOpen", "(II)Z"⟩, prog_10_method_46_code, 3, (some .boolean), 2, 44, [])
theorem np_Mo_isOpen : nPar k_Mo_isOpen 2 := fun sig hs => by
  have e : parseMethodDescriptor k_Mo_isOpen.y.desc = some sig := hs
  have e2 : (parseMethodDescriptor k_Mo_isOpen.y.desc).map (fun q => q.parameters.length) = some 2 := by decide +kernel
  rw [e] at e2
  exact (Option.some.inj e2).symm
theorem kw_Mo_isOpen : k_Mo_isOpen.w ∈ tw := tx5 72 rfl rfl
def k_Mo_mark : Kt := (⟨R_Mo, "mark", "(II)V"⟩, prog_10_method_48_code, 3, none, 3, 66, [])
theorem np_Mo_mark : nPar k_Mo_mark 2 := fun sig hs => by
  have e : parseMethodDescriptor k_Mo_mark.y.desc = some sig := hs
  have e2 : (parseMethodDescriptor k_Mo_mark.y.desc).map (fun q => q.parameters.length) = some 2 := by decide +kernel
  rw [e] at e2
  exact (Option.some.inj e2).symm
theorem kw_Mo_mark : k_Mo_mark.w ∈ tw := tx5 76 rfl rfl
def k_Mo_count : Kt := (⟨R_Mo, "count", "(I)I"⟩, prog_10_method_50_code, 4, (some .int), 1, 23, [])
theorem np_Mo_count : nPar k_Mo_count 1 := fun sig hs => by
  have e : parseMethodDescriptor k_Mo_count.y.desc = some sig := hs
  have e2 : (parseMethodDescriptor k_Mo_count.y.desc).map (fun q => q.parameters.length) = some 1 := by decide +kernel
  rw [e] at e2
  exact (Option.some.inj e2).symm
theorem kw_Mo_count : k_Mo_count.w ∈ tw := tx5 80 rfl rfl
def k_La_law : Kt := (⟨R_La, "law", "([I)Z"⟩, code, 8, (some .boolean), 9, 192, [])
theorem np_La_law : nPar k_La_law 1 := fun sig hs => by
  have e : parseMethodDescriptor k_La_law.y.desc = some sig := hs
  have e2 : (parseMethodDescriptor k_La_law.y.desc).map (fun q => q.parameters.length) = some 1 := by decide +kernel
  rw [e] at e2
  exact (Option.some.inj e2).symm
theorem tw_ai : Cond.arrayClass .int ∈ tw := tx1 52 rfl rfl
theorem tw_az : Cond.arrayClass .boolean ∈ tw := tx1 103 rfl rfl
theorem tw_al : Cond.arrayClass .long ∈ tw := tx5 81 rfl rfl
end
section
/-- a launch without stack traces -/
def NoTr (l : Launch) : Prop := ∀ e : Env, l.admits e → e.platform.stackTraces = false
section P23
variable {l : Launch} {G : Gb} {K : Kt} {pc : Nat} {ls : List (Nat × Value)} {st : List Value} {h : List Ce} {r : Rs} {h' : List Ce}
/-- as V, at a point where the method has written and made nothing yet -/
def V0 (l : Launch) (G : Gb) (K : Kt) (pc : Nat) (ls : List (Nat × Value)) (st : List Value) (h : List Ce) (r : Rs) (h' : List Ce) : Prop :=
  h.length ≤ h'.length ∧ sl h ≤ sl h' ∧ ∀ {p : Program} {e : Env} {s : State} {m : MethodId} {args : Array Value} {below : List Frame} {meth : Method} {c : Code} {lsA : Array Slot},
    Cx G K p s m args meth c → va_P G.D cls (wl G h) s.heap → s.heap.size = G.b + h.length → lv_has lsA K.maxL (mv G ls) →
    W p l e (rmK K h h') s m args below meth c s.heap [] 0 0 (Fin' G below s h r h') (F0 m pc lsA (st.map (sv G)))
theorem Do.of0 {vs : List Value} (hy : plainName K.y.cls = true) (hn : (lg_sl vs).length ≤ K.maxL) (hw : K.w ∈ tw) (kk : V0 l G K 0 (lv_args 0 vs) [] h r h') : Do l G K vs h r h' := by
  refine ⟨kk.1, kk.2.1, MetFree.of_bodyS (code := K.code) (maxLocals := K.maxL) (ret := K.ret) hy ?_ ?_⟩
  · intro args s m hp hnm
    have hk := atoms_spec (ws := K.w :: tw) hp _ List.mem_cons_self
    obtain ⟨y, code, maxL, ret, fr, lo, hd⟩ := K
    cases hd with
    | nil =>
      obtain ⟨meth, c, h1, h2, h3, h4, h5, h6, -, -⟩ := Cond.code_spec hnm hk
      exact ⟨meth, c, h1, h2, h3, h4, h5, h6⟩
    | cons q t =>
      obtain ⟨m', meth, c, hn', h1, h2, h3, h4, -, h5, h6, -⟩ := Cond.codeWith_spec hk
      cases hnm.symm.trans hn'
      exact ⟨meth, c, h1, h2, h3, h4, h5, h6⟩
  · intro p e s m args below meth c s₁ B hml hP _
    obtain ⟨rfl, hP, hz, hX, hb, hK, hE⟩ := hP
    have hh0 : s₁.heap = s.heap := by rw [B.state]; rfl
    have hall := atoms_spec (ws := K.w :: tw) B.pre
    have hcode : meth.code = some c := (Stand.of_body B).code
    have hdl' : hdl c = K.hd := by
      have hk := hall _ List.mem_cons_self
      obtain ⟨y, code, maxL, ret, fr, lo, hd⟩ := K
      cases hd with
      | nil =>
        obtain ⟨meth', c', h1, h2, h3, h4, h5, h6, h7, -⟩ := Cond.code_spec B.named hk
        cases B.method.symm.trans h1
        cases hcode.symm.trans h2
        have : c.exceptionTable.toList = [] := by simpa using h7
        simp [hdl, this]
      | cons q t =>
        obtain ⟨m', meth', c', hn', h1, h2, h3, h4, h5, -, -, -⟩ := Cond.codeWith_spec hk
        cases B.named.symm.trans hn'
        cases B.method.symm.trans h1
        cases hcode.symm.trans h2
        exact h5
    have C : Cx G K p s m (vs.map (sv G)).toArray meth c := ⟨B.exec, B.bytes, hml, B.returns, B.notSynchronized, findClass_of_methodNamed B.named, (name_of_methodNamed B.named B.method).1, hdl', fun w hw => hall w (List.mem_cons_of_mem _ hw), hK, hE, hX, hb, by omega⟩
    have hl := lv_entry (vs.map (sv G)) (n := K.maxL) (by rw [lg_sl_mv]; exact hn)
    rw [lv_args_mv] at hl
    have w := kk.2.2 (e := e) (below := below) C hP hz hl
    obtain ⟨t, a1, b1, b2, b3, b4, b5⟩ := w s₁ hh0 (Stand.of_body B)
    refine ⟨t, oc G r, ?_, b1, b2, rfl, b3, b4, b5⟩
    rw [lg_entry_eq]
    exact a1
theorem V0_go {pc' : Nat} {st' : List Value} (kk : V0 l G K pc' ls st' h r h') (f : ∀ {p : Program} {e : Env} {R : Room} {s : State} {m : MethodId} {args : Array Value} {below : List Frame} {meth : Method} {c : Code} {H : Heap} {locs : List Loc} {cells slots : Nat} {Q : State → Prop} {lsA : Array Slot}, Cx G K p s m args meth c → lv_has lsA K.maxL (mv G ls) → W p l e R s m args below meth c H locs cells slots Q (F0 m pc' lsA (st'.map (sv G))) → W p l e R s m args below meth c H locs cells slots Q (F0 m pc lsA (st.map (sv G)))) : V0 l G K pc ls st h r h' :=
  ⟨kk.1, kk.2.1, fun C hP hz hl => f C hl (kk.2.2 C hP hz hl)⟩
theorem V0_iload_n {k : Fin 4} {x : Int32} (hd : decode K.code pc = .ok (.iload_n k, 1)) (e : lg ls k = some (.int x)) (kk : V0 l G K (pc + 1) ls (.int x :: st) h r h') : V0 l G K pc ls st h r h' := V0_go kk (fun C hl w => lv_iload_n C.1 C.2.1 hd rfl (lg_at hl e) w)
theorem V0_ifne_f {x : Int32} {off : Int} {tgt : Nat} (hd : decode K.code pc = .ok (.ifCond .ne off, 3)) (ht : (pc : Int) + off = (tgt : Int)) (hx : x = 0) (kk : V0 l G K (pc + 3) ls st h r h') : V0 l G K pc ls (.int x :: st) h r h' := V0_go kk (fun C hl w => lv_if_ne C.1 C.2.1 hd ht (fun q => absurd hx q) (fun _ => w))
theorem V0_swOut {dflt lo hi : Int} {offs : Array Int} {len : Nat} {x : Int32} {tgt : Nat} (hd : decode K.code pc = .ok (.tableswitch dflt lo hi offs, len)) (h1 : x.toInt < lo ∨ hi < x.toInt) (ht : (pc : Int) + dflt = (tgt : Int)) (kk : V0 l G K tgt ls st h r h') : V0 l G K pc ls (.int x :: st) h r h' := V0_go kk (fun C hl w => lv_tableOut C.1 C.2.1 hd h1 ht w)
theorem W.ldcS {p : Program} {e : Env} {R : Room} {s : State} {m : MethodId} {args : Array Value} {below : List Frame} {meth : Method} {c : Code} {H : Heap} {locs : List Loc} {cells slots : Nat} {Q : State → Prop} {cc : ByteArray} (hexec : p.tables.exec = Jvm.exec) (hb : c.code = cc) {own tx : String} {index pc : Nat} {ls : Array Slot} {rest : List Value} (hown : s.vm.findClass own = some m.cls) (hw : (Cond.stringRef own index tx).before args s = true) (hdg : decode cc pc = .ok (.ldc index, 2)) (kk : ∀ a : Nat, W p l e R s m args below meth c H locs cells slots Q (F0 m (pc + 2) ls (.ref a :: rest))) : W p l e R s m args below meth c H locs cells slots Q (F0 m pc ls rest) := by
  intro T hT X
  have hT' : (Cond.stringRef own index tx).before args T = true := okW_at (w := .stringRef own index tx) rfl X.warmed hw
  obtain ⟨k, cf, i, a, hk, hcf, hcp, -, hr, hev⟩ := Cond.stringRef_spec (show T.vm.findClass own = some m.cls by rw [X.warmed.alike.findClass]; exact hown) hT'
  obtain ⟨t, a1, b1⟩ := kk a T hT X
  refine ⟨t, ?_, b1⟩
  jvm_step X.here [X.here.top, hexec, hb, hdg, ldc.at_string (e := e) (s := T) (fm := m) (fpc := pc) (fls := ls) (flk := none) (fen := []) (fst := rest) X.here.top hk hcf hcp hr]
  exact a1
theorem V0_thr (hNT : NoTr l) {ixN ixS ic ci : Nat} {tx X9 : String} {names : List String} {T9 : u_T} (d0 : decode K.code pc = .ok (.new ixN, 3)) (d1 : decode K.code (pc + 3) = .ok (.dup, 1)) (d2 : decode K.code (pc + 3 + 1) = .ok (.ldc ixS, 2)) (d3 : decode K.code (pc + 3 + 1 + 2) = .ok (.invokespecial ic, 3)) (d4 : decode K.code (pc + 3 + 1 + 2 + 3) = .ok (.athrow, 1)) (hhd : K.hd = []) (hlink : Cond.classLink K.y.cls ixN X9 ∈ tw) (hins : Cond.instantiable X9 6 ∈ tw) (hini : Cond.initialized X9 ∈ tw) (hstr : Cond.stringRef K.y.cls ixS tx ∈ tw) (hfit : Bundle.fit X9 = true) (hnm : ∀ n ∈ names, Bundle.fit n = true) (hown : ∀ a ∈ Bundle.ownAtoms K.y.cls ic X9 names, a ∈ tw ∨ a ∈ evw) (hc : cls[ci]? = some (X9, T9, 0)) (hcs : csz ci = 6) (hf : names.length + 3 < K.fr) (hlo : 9 + (13 * (names.length + 1) + 42) ≤ K.lo) (hst : (st.map fun v => v.category).sum ≤ 8) : V0 l G K pc ls st h (.inr h.length) (h ++ [.inr (ci, [])]) := by
  have e1 : (h ++ [(.inr (ci, []) : Ce)]).length = h.length + 1 := by simp
  have e2 : sl (h ++ [(.inr (ci, []) : Ce)]) = sl h + 6 := by rw [sl_app]; simp [sl, sl1, hcs]
  refine ⟨by omega, by omega, ?_⟩
  intro p e s m args below meth c lsA X0 hP hz hl
  have hKn := X0.kn.1 ci _ hc
  have hc1 : 0 + 1 ≤ (rmK K h (h ++ [(.inr (ci, []) : Ce)])).cells := by show _ ≤ (h ++ [_]).length - h.length; omega
  have hc2 : 0 + 6 ≤ (rmK K h (h ++ [(.inr (ci, []) : Ce)])).slots := by show _ ≤ sl (h ++ [_]) - sl h; omega
  refine W.newcK (h := G.b + h.length) X0.1 X0.2.1 X0.own (X0.tw _ hlink) (X0.tw _ hins) (X0.tw _ hini) rfl d0 hc1 hc2 hKn.2.1 hz (fun H1 kC hkC e3 z1 o1 => ?_)
  refine lv_dup (va := .ref (G.b + h.length)) X0.1 X0.2.1 d1 rfl ?_
  refine W.ldcS X0.1 X0.2.1 X0.own (X0.tw _ hstr) d2 (fun a9 => ?_)
  intro T hT X
  have htab : c.exceptionTable.toList = [] := by
    have := X0.2.2.2.2.2.2.2.1
    rw [hhd] at this
    simpa [hdl] using this
  obtain ⟨U, u1, u2, u3, u4, u5, ce, u6, u7⟩ := X.ctorThrowS X0.1 (hNT e X.admits) (own := K.y.cls) (cls := X9) (names := names) (ic := ic) X0.own hfit hnm (fun a ha => (hown a ha).elim (fun q => X0.tw a q) (fun q => X0.ev.use q)) (fun x hx => by cases hx) (a := G.b + h.length) hKn.2.1 hkC (by rw [hT]; exact e3) (by rw [hz]; exact Nat.le_refl _) (msg := .ref a9) rfl (g := F0 m (pc + 3 + 1 + 2) lsA (.ref a9 :: .ref (G.b + h.length) :: .ref (G.b + h.length) :: st.map (sv G))) rfl (hl.1.trans X0.2.2.1.symm) rfl rfl (rest := st.map (sv G)) rfl (by rw [X0.2.1]; exact d3) (by rw [X0.2.1]; exact d4) (by rw [htab]; intro x hx; cases hx) hf (by show 2 * 0 + _ + _ ≤ K.lo; rw [List.map_cons, List.sum_cons, cat_map]; show 2 * 0 + (1 + _) + _ ≤ K.lo; omega) X0.2.2.2.2.1
  refine ⟨U, u1, u2, u3, ?_, u4, [], ?_, fun q hq => by cases hq⟩
  · intro k q hq
    obtain ⟨c9, hc9, rfl⟩ := wl_of hq
    by_cases hk : k < h.length
    · rw [List.getElem?_append_left hk] at hc9
      have ha := hP k _ (wl_at hc9)
      obtain ⟨ce9, hce9⟩ : ∃ ce9, s.heap[G.b + k]? = some ce9 := ⟨_, Array.getElem?_eq_getElem ha.lt⟩
      refine ha.kept ?_
      show U.heap[G.b + k]? = s.heap[G.b + k]?
      rw [hce9]
      exact u5.kept_off (fun i hi => by cases hi) hce9
    · have hk2 : k = h.length := by
        have := (List.getElem?_eq_some_iff.mp hc9).1
        omega
      subst hk2
      rw [List.getElem?_append_right (Nat.le_refl _), Nat.sub_self] at hc9
      cases hc9
      exact ⟨_, hc, ce, u6, Option.some.inj (u7.cls.symm.trans hKn.2.1), u7.vm, fun j hj => absurd hj (Nat.not_lt_zero j)⟩
  · rw [e1, e2, show h.length + 1 - h.length = 0 + 1 by omega, show sl h + 6 - sl h = 0 + 6 by omega]
    exact u5
end P23
end
section
section P24
section A24
variable {e : Env} {s : State} {f : JFrame} {a : Addr}
/-- an entry of the table whose class is linked now, or was before: the search goes on from the tables in which it is noted -/
theorem goCold {Q : Handler → Jvm.Pre} {E : Jvm.CtlPost} {d : Bool} {acts : List Action} {x : ExceptionTableEntry} {t : List ExceptionTableEntry} {c : ClassId} {vm' : Vm} {cell : Cell} (hx : covers x f.pc = true) (h0 : x.catchType ≠ 0) (hg : (Jvm.resolveClass f.method.cls x.catchType).Gives e.toSetting s.vm (.ok c) vm') (hsz : vm'.classes.size ≤ s.vm.classes.size) (hcell : s.heap[a]? = some cell) (hobj : ∀ k, cell.vm ≠ .statics k)
    (hk : ∃ k, vm'.classes[cell.cls]? = some k) (hc : ∃ k, vm'.classes[c]? = some k) :
    wp (findHandler.go f a (x :: t)) Q E e d acts s ↔ if vm'.assignable cell.cls c = true then Q (.found x.handlerPc) d acts (s.setVm vm') else wp (findHandler.go f a t) Q E e d acts (s.setVm vm') := by
  simp only [covers] at hx
  obtain ⟨ha, ht⟩ := hg.op (op := VmOp.resolveClass f.method.cls x.catchType) rfl
  cases hfit : vm'.assignable cell.cls c <;>
    simp [findHandler.go, hx, h0, ha, ht, hsz, hcell, hobj, hk, hc, hfit, VmOp.dirties, VmOp.acts]
def FindsTo (e : Env) (s : State) (f : JFrame) (a : Addr) (h : Handler) (s' : State) : Prop :=
  ∀ (Q : Handler → Jvm.Pre) (E : Jvm.CtlPost) (d : Bool) (acts : List Action), wp (findHandler f a) Q E e d acts s ↔ Q h d acts s'
theorem catchTo {r : List Frame} {pc : Nat} {s' : State} (hfind : FindsTo e s f a (.found pc) s') : (stepThrowing e s a (.java f :: r)).Is (s'.setFrames (.java { f with pc := pc, stack := [.ref a] } :: r)) [] := by
  simp only [stepThrowing, searchFrame, vmDo]
  generalize hr : Sem.go _ e false [] s = res
  obtain ⟨as, rfl, ha⟩ := Sem.eq_ok_of hr (a := Handler.found pc) (s' := s') (acts' := []) (by simp [hfind _ _ _ _])
  exact ⟨rfl, ha⟩
theorem caughtTo {tb : Tables} {target : State} {g : JFrame} {c : Code} {below : List Frame} {vm' : Vm} (h : At s g.method c below) {pc : Nat} (hfind : FindsTo e ((s.setTop g).pushFrame (.throwing a)) g a (.found pc) ((((s.setTop g).pushFrame (.throwing a))).setVm vm'))
    (hrest : Steps tb e below ((s.setVm vm').setTop { g with pc := pc, stack := [.ref a] }) target) : Steps tb e below ((s.setTop g).pushFrame (.throwing a)) target := by
  obtain ⟨hgo, hw⟩ := h.throwing a
  refine Steps.head hgo hw ?_
  rw [stepThread_throwing (frames_entered h.top _), (catchTo (s := (s.setTop g).pushFrame (.throwing a)) hfind).1]
  obtain ⟨g₀, hg⟩ := Option.isSome_iff_exists.mp h.top
  obtain ⟨r, hr⟩ := State.topJava?_eq_some.mp hg
  have e9 : ((((s.setTop g).pushFrame (.throwing a))).setVm vm') = (((s.setVm vm').setTop g).pushFrame (.throwing a)) := rfl
  have hr' : (s.setVm vm').frames = .java g₀ :: r := hr
  rw [e9, State.pushFrame, State.setFrames_setFrames, State.setTop_of_frames _ hr', State.setFrames_setFrames]
  rw [State.setTop_of_frames _ hr'] at hrest
  rw [hr]
  exact hrest
end A24
variable {l : Launch} {G : Gb} {K : Kt} {h0 : List Ce} {pc : Nat} {ls : List (Nat × Value)} {st : List Value} {h : List Ce} {r : Rs} {h' : List Ce}
/-- the search through the table: entries of other classes, then the one -/
theorem goAll {p : Program} {s : State} {m : MethodId} {args : Array Value} {meth : Method} {c : Code} {e : Env} {own X9 : String} {f : JFrame} {ad : Nat} {cell : Cell} {x : ExceptionTableEntry} {post : List ExceptionTableEntry} (hpl : e.platform.magicAccessors = ({} : Platform).magicAccessors) (hown : s.vm.findClass own = some f.method.cls) (hX : s.vm.findClass X9 = some cell.cls) (hobj : ∀ k, cell.vm ≠ .statics k) (hx : covers x f.pc = true) (hx0 : x.catchType ≠ 0) (hxl : (Cond.classLink own x.catchType X9).before args s = true) (hxc : s.vm.assignable cell.cls cell.cls = true) :
    ∀ (pre : List ExceptionTableEntry) (U : State), (∀ y ∈ pre, covers y f.pc = true ∧ y.catchType ≠ 0 ∧ ∃ Y, (Cond.classLink own y.catchType Y).before args s = true ∧ va_Nc X9 Y s) → s.WarmedH U.vm → U.heap[ad]? = some cell →
      ∃ vm', s.WarmedH vm' ∧ ∀ (Q : Handler → Jvm.Pre) (E : Jvm.CtlPost) (d : Bool) (acts : List Action), wp (findHandler.go f ad (pre ++ x :: post)) Q E e d acts U ↔ Q (.found x.handlerPc) d acts (U.setVm vm') := by
  have link : ∀ (U : State) (y : ExceptionTableEntry) (Y : String), (Cond.classLink own y.catchType Y).before args s = true → s.WarmedH U.vm → ∃ cY vm', s.vm.findClass Y = some cY ∧ (Jvm.resolveClass f.method.cls y.catchType).Gives e.toSetting U.vm (.ok cY) vm' ∧ vm'.classes.size ≤ U.vm.classes.size ∧ s.WarmedH vm' := by
    intro U y Y hl hW
    obtain ⟨cY, hcY, hlk⟩ := Cond.classLink_spec hown hl e.platform hpl
    obtain ⟨dk, _, _, _, hd, _, _, _, _, _, _, hres⟩ := hlk.here
    refine ⟨cY, U.vm.noted f.method.cls y.catchType (.cls cY), hcY, resolveClass_links e.toSetting (hW.classLinks hlk), by no_record, hW.noted hd hres (State.rightAt_cls hlk)⟩
  have known : ∀ (vm' : Vm) (n : String) (cn : ClassId), s.WarmedH vm' → s.vm.findClass n = some cn → ∃ k, vm'.classes[cn]? = some k := by
    intro vm' n cn hW hn
    exact Vm.classAt_of_findClass (name := n) (by rw [hW.alike.findClass]; exact hn)
  intro pre
  induction pre with
  | nil =>
    intro U _ hW hcell
    obtain ⟨cY, vm', h1, h2, h3, h4⟩ := link U x X9 hxl hW
    cases hX.symm.trans h1
    refine ⟨vm', h4, fun Q E d acts => ?_⟩
    rw [List.nil_append, goCold hx hx0 h2 h3 hcell hobj (known vm' X9 _ h4 hX) (known vm' X9 _ h4 hX), if_pos (by rw [h4.alike.assignable]; exact hxc)]
  | cons y t ih =>
    intro U hpre hW hcell
    obtain ⟨hy1, hy2, Y, hy3, hy4⟩ := hpre y List.mem_cons_self
    obtain ⟨cY, vm1, h1, h2, h3, h4⟩ := link U y Y hy3 hW
    obtain ⟨cX, cY', k1, k2, k3⟩ := hy4
    cases hX.symm.trans k1
    cases h1.symm.trans k2
    obtain ⟨vm', g1, g2⟩ := ih (U.setVm vm1) (fun z hz => hpre z (List.mem_cons_of_mem _ hz)) h4 hcell
    refine ⟨vm', g1, fun Q E d acts => ?_⟩
    rw [List.cons_append, goCold hy1 hy2 h2 h3 hcell hobj (known vm1 X9 _ h4 hX) (known vm1 Y _ h4 h1), if_neg (by rw [h4.alike.assignable, k3]; decide), g2]
    rfl
/-- the callee throws, and this method catches: the entries ahead are of other classes -/
theorem V_catch {j : Kt} {As rest : List Value} {h1 : List Ce} {a ci hpc ct p1 p2 : Nat} {X9 : String} {T9 : u_T} {pre post : List (Nat × Nat × Nat × Nat)} {ig : Instr} (hd : decode K.code pc = .ok (ig, 3)) (ft : Fit K j) (lk9 : Link l G K j pc h As rest st) (hrest : (rest.map fun v => v.category).sum ≤ 8) (hD : Do l G j As h (.inr a) h1) (hcell : h1[a]? = some (.inr (ci, []))) (hc : cls[ci]? = some (X9, T9, 0)) (hhd : K.hd = pre ++ (p1, p2, hpc, ct) :: post) (hcov : p1 ≤ pc ∧ pc < p2 ∧ ct ≠ 0) (hlink : Cond.classLink K.y.cls ct X9 ∈ tw) (hself : Cond.castable X9 X9 ∈ tw) (hpre : ∀ y ∈ pre, y.1 ≤ pc ∧ pc < y.2.1 ∧ y.2.2.2 ≠ 0 ∧ ∃ Y, Cond.classLink K.y.cls y.2.2.2 Y ∈ tw ∧ ∀ (U : State) (H : Heap), Ev G U H → va_Nc X9 Y U) (kk : V l G K h0 hpc ls [.ref (a + 1)] h1 r h') : V l G K h0 pc ls st h r h' := by
  have d1 := hD.1
  have d2 := hD.2.1
  have k1 := kk.1
  have k2 := kk.2.1
  refine ⟨Nat.le_trans d1 k1, Nat.le_trans d2 k2, ?_⟩
  intro p e s m args below meth c H locs lsA X0 hP a1 a2 a3 a4 hl T hT X
  subst hT
  have hz := sz_of (G := G) X a1 a2 hP
  obtain ⟨mk, vm', hn, X1, hstep⟩ := lk9 X0 X hP hl.1
  have hdg : decode c.code pc = .ok (ig, 3) := by rw [X0.2.1]; exact hd
  obtain ⟨s₂, Ls, hst, hend, hP2, hW2, hsame, hL⟩ := callDo hD ft.1 ft.2.1 X0 X1 hP hz a4 (g := F0 m pc lsA (rest.map (sv G))) rfl (hl.1.trans X0.2.2.1.symm) hdg hn ft.2.2.1
    (by show 2 * 0 + _ + _ + _ ≤ K.lo; have := ft.2.2.2; rw [cat_map]; omega) (by show _ ≤ h'.length - h0.length; omega) (by show _ ≤ sl h' - sl h0; omega)
  obtain ⟨T', X', hW', hsm, ht⟩ := X1.outOfThrown (g := F0 m pc lsA (rest.map (sv G))) rfl hend hW2 hsame
  have e1 : s₂.heap = T'.heap := by rw [ht]; exact Stand.throwing_heap _ _ _
  have hS' : va_S (Ar G) s.heap T'.heap (locs ++ Ls) := va_S.call (T := T.setVm vm') (U := T'.setVm (T.setVm vm').vm) a4 hsm hL
  rw [show h.length - h0.length + (h1.length - h.length) = h1.length - h0.length by omega, show sl h - sl h0 + (sl h1 - sl h) = sl h1 - sl h0 by omega] at X'
  have hP3 : va_P G.D cls (wl G h1) T'.heap := by rw [← e1]; exact hP2
  obtain ⟨cell, q1, q2, q3⟩ := recvOf X0 hP3 hcell hc
  have htab : ∃ (pr : List ExceptionTableEntry) (x : ExceptionTableEntry) (po : List ExceptionTableEntry), c.exceptionTable.toList = pr ++ x :: po ∧ pr.map (fun h => (h.startPc, h.endPc, h.handlerPc, h.catchType)) = pre ∧ (x.startPc, x.endPc, x.handlerPc, x.catchType) = (p1, p2, hpc, ct) := by
    have h9 : hdl c = pre ++ (p1, p2, hpc, ct) :: post := X0.2.2.2.2.2.2.2.1.trans hhd
    obtain ⟨pr, z1, w1, w2, w3⟩ := List.map_eq_append_iff.mp h9
    obtain ⟨x, po, w4, w5, w6⟩ := List.map_eq_cons_iff.mp w3
    exact ⟨pr, x, po, by rw [w1, w4], w2, w5⟩
  obtain ⟨pr, x, po, t1, t2, t3⟩ := htab
  simp only [Prod.mk.injEq] at t3
  obtain ⟨t3, t4, t5, t6⟩ := t3
  obtain ⟨_, _, f1, f2, f3⟩ := Cond.castable_spec (X0.tw _ hself)
  cases q3.symm.trans f1
  cases q3.symm.trans f2
  obtain ⟨vm2, g1, g2⟩ := goAll (p := p) (m := m) (meth := meth) (c := c) (e := e) (own := K.y.cls) (X9 := X9) (f := F0 m pc lsA (rest.map (sv G))) (ad := G.b + a) (cell := cell) (x := x) (post := po) (args := args) (by rw [X.admits.platform]) X0.own q3 q2 (by simp [covers, t3, t4, hcov.1, hcov.2.1]) (by rw [t6]; exact hcov.2.2) (by rw [t6]; exact X0.tw _ hlink) f3 pr (((T'.setTop (F0 m pc lsA (rest.map (sv G)))).pushFrame (.throwing (G.b + a)))) (fun y hy => by
      have hm : (y.startPc, y.endPc, y.handlerPc, y.catchType) ∈ pre := by rw [← t2]; exact List.mem_map.mpr ⟨y, hy, rfl⟩
      obtain ⟨b1, b2, b3, Y, b4, b5⟩ := hpre _ hm
      exact ⟨by simp [covers]; exact ⟨b1, b2⟩, b3, Y, X0.tw _ b4, b5 s _ X0.ev⟩) (by rw [Stand.throwing_vm]; exact X'.warmed) (by rw [Stand.throwing_heap]; exact q1)
  have hfind : FindsTo e ((T'.setTop (F0 m pc lsA (rest.map (sv G)))).pushFrame (.throwing (G.b + a))) (F0 m pc lsA (rest.map (sv G))) (G.b + a) (.found hpc) (((T'.setTop (F0 m pc lsA (rest.map (sv G)))).pushFrame (.throwing (G.b + a))).setVm vm2) := by
    intro Q E d acts
    rw [W.findHandler_eq (meth := meth) (code := c) (by rw [Stand.throwing_vm]; exact X'.method') X'.code, t1, g2, t5]
  have X2 := X'.noted g1
  have w := kk.2.2 (e := e) (below := below) (H := T'.heap) (locs := locs ++ Ls) X0 hP3 a1 (by omega) (by omega) hS' hl
  obtain ⟨t, b1, b2⟩ := w (T'.setVm vm2) rfl X2
  refine ⟨t, hstep _ (fun acts => ?_), b2⟩
  rw [doInvoke_state]
  refine hst.trans ?_
  rw [ht]
  exact caughtTo X'.here hfind b1
end P24
end
