section
-- ===== PART A: goes FIRST, ahead of the names: the tables' words, and 'selects' of the private methods out of them =====
/-- a private method of a class that the tables say can be made, by its rows of tables_1 -/
def lw_okq (q : MethodName × Nat) : Prop := (q.1.cls ≠ "java/lang/invoke/MethodHandle" ∧ q.1.cls ≠ "java/lang/invoke/VarHandle") ∧ Cond.instantiable q.1.cls q.2 ∈ tables_1 ∧ Cond.privateMethod q.1 ∈ tables_1 ∧ Cond.instanceMethod q.1 ∈ tables_1
theorem lw_p0 : lw_okq (⟨"java/lang/Throwable", "fillInStackTrace", "(I)Ljava/lang/Throwable;"⟩, 6) := ⟨⟨by decide +kernel, by decide +kernel⟩, List.mem_of_getElem? (i := 332) (by decide +kernel), List.mem_of_getElem? (i := 330) (by decide +kernel), List.mem_of_getElem? (i := 331) (by decide +kernel)⟩
theorem lw_p1 : lw_okq (⟨"PhotoModels$Photos", "index", "(III)I"⟩, 3) := ⟨⟨by decide +kernel, by decide +kernel⟩, List.mem_of_getElem? (i := 37) (by decide +kernel), List.mem_of_getElem? (i := 385) (by decide +kernel), List.mem_of_getElem? (i := 386) (by decide +kernel)⟩
theorem lw_p2 : lw_okq (⟨"PhotoModels$Search", "leastFarFromFound", "()I"⟩, 7) := ⟨⟨by decide +kernel, by decide +kernel⟩, List.mem_of_getElem? (i := 54) (by decide +kernel), List.mem_of_getElem? (i := 409) (by decide +kernel), List.mem_of_getElem? (i := 410) (by decide +kernel)⟩
theorem lw_p3 : lw_okq (⟨"PhotoModels$Search", "isFarFromFound", "(II)Z"⟩, 7) := ⟨⟨by decide +kernel, by decide +kernel⟩, List.mem_of_getElem? (i := 54) (by decide +kernel), List.mem_of_getElem? (i := 413) (by decide +kernel), List.mem_of_getElem? (i := 414) (by decide +kernel)⟩
theorem lw_p4 : lw_okq (⟨"PhotoModels$Agreement", "gatherShifts", "(LPhotoModels$Places;II)V"⟩, 7) := ⟨⟨by decide +kernel, by decide +kernel⟩, List.mem_of_getElem? (i := 105) (by decide +kernel), List.mem_of_getElem? (i := 498) (by decide +kernel), List.mem_of_getElem? (i := 499) (by decide +kernel)⟩
theorem lw_p5 : lw_okq (⟨"PhotoModels$Agreement", "drawnNumber", "(I)I"⟩, 7) := ⟨⟨by decide +kernel, by decide +kernel⟩, List.mem_of_getElem? (i := 105) (by decide +kernel), List.mem_of_getElem? (i := 505) (by decide +kernel), List.mem_of_getElem? (i := 506) (by decide +kernel)⟩
theorem lw_p6 : lw_okq (⟨"PhotoModels$Agreement", "agreeingWith", "(II)I"⟩, 7) := ⟨⟨by decide +kernel, by decide +kernel⟩, List.mem_of_getElem? (i := 105) (by decide +kernel), List.mem_of_getElem? (i := 510) (by decide +kernel), List.mem_of_getElem? (i := 511) (by decide +kernel)⟩
theorem lw_p7 : lw_okq (⟨"PhotoModels$Adjustment", "begin", "(LPhotoModels$Places;)V"⟩, 4) := ⟨⟨by decide +kernel, by decide +kernel⟩, List.mem_of_getElem? (i := 134) (by decide +kernel), List.mem_of_getElem? (i := 555) (by decide +kernel), List.mem_of_getElem? (i := 556) (by decide +kernel)⟩
theorem lw_p8 : lw_okq (⟨"PhotoModels$Adjustment", "movePlaces", "(LPhotoModels$Places;)V"⟩, 4) := ⟨⟨by decide +kernel, by decide +kernel⟩, List.mem_of_getElem? (i := 134) (by decide +kernel), List.mem_of_getElem? (i := 562) (by decide +kernel), List.mem_of_getElem? (i := 563) (by decide +kernel)⟩
theorem lw_p9 : lw_okq (⟨"PhotoModels$Adjustment", "movePlace", "(LPhotoModels$Places;II)V"⟩, 4) := ⟨⟨by decide +kernel, by decide +kernel⟩, List.mem_of_getElem? (i := 134) (by decide +kernel), List.mem_of_getElem? (i := 566) (by decide +kernel), List.mem_of_getElem? (i := 567) (by decide +kernel)⟩
theorem lw_p10 : lw_okq (⟨"PhotoModels$Adjustment", "remember", "()V"⟩, 4) := ⟨⟨by decide +kernel, by decide +kernel⟩, List.mem_of_getElem? (i := 134) (by decide +kernel), List.mem_of_getElem? (i := 577) (by decide +kernel), List.mem_of_getElem? (i := 578) (by decide +kernel)⟩
theorem lw_p11 : lw_okq (⟨"PhotoModels$Adjustment", "doRound", "(LPhotoModels$Places;)V"⟩, 4) := ⟨⟨by decide +kernel, by decide +kernel⟩, List.mem_of_getElem? (i := 134) (by decide +kernel), List.mem_of_getElem? (i := 584) (by decide +kernel), List.mem_of_getElem? (i := 585) (by decide +kernel)⟩
theorem lw_p12 : lw_okq (⟨"PhotoModels$Adjustment", "movePhoto", "(LPhotoModels$Places;II)V"⟩, 4) := ⟨⟨by decide +kernel, by decide +kernel⟩, List.mem_of_getElem? (i := 134) (by decide +kernel), List.mem_of_getElem? (i := 588) (by decide +kernel), List.mem_of_getElem? (i := 589) (by decide +kernel)⟩
theorem lw_p13 : lw_okq (⟨"PhotoModels$Adjustment", "undo", "()V"⟩, 4) := ⟨⟨by decide +kernel, by decide +kernel⟩, List.mem_of_getElem? (i := 134) (by decide +kernel), List.mem_of_getElem? (i := 592) (by decide +kernel), List.mem_of_getElem? (i := 593) (by decide +kernel)⟩
theorem lw_p14 : lw_okq (⟨"PhotoModels$Relief", "fillCosts", "(LPhotoModels$Photos;IIII)V"⟩, 10) := ⟨⟨by decide +kernel, by decide +kernel⟩, List.mem_of_getElem? (i := 172) (by decide +kernel), List.mem_of_getElem? (i := 667) (by decide +kernel), List.mem_of_getElem? (i := 668) (by decide +kernel)⟩
theorem lw_p15 : lw_okq (⟨"PhotoModels$Relief", "bestAhead", "(III)I"⟩, 10) := ⟨⟨by decide +kernel, by decide +kernel⟩, List.mem_of_getElem? (i := 172) (by decide +kernel), List.mem_of_getElem? (i := 683) (by decide +kernel), List.mem_of_getElem? (i := 684) (by decide +kernel)⟩
def lw_privs_1 : List (MethodName × Nat) := [(⟨"java/lang/Throwable", "fillInStackTrace", "(I)Ljava/lang/Throwable;"⟩, 6), (⟨"PhotoModels$Photos", "index", "(III)I"⟩, 3), (⟨"PhotoModels$Search", "leastFarFromFound", "()I"⟩, 7), (⟨"PhotoModels$Search", "isFarFromFound", "(II)Z"⟩, 7), (⟨"PhotoModels$Agreement", "gatherShifts", "(LPhotoModels$Places;II)V"⟩, 7), (⟨"PhotoModels$Agreement", "drawnNumber", "(I)I"⟩, 7), (⟨"PhotoModels$Agreement", "agreeingWith", "(II)I"⟩, 7), (⟨"PhotoModels$Adjustment", "begin", "(LPhotoModels$Places;)V"⟩, 4), (⟨"PhotoModels$Adjustment", "movePlaces", "(LPhotoModels$Places;)V"⟩, 4), (⟨"PhotoModels$Adjustment", "movePlace", "(LPhotoModels$Places;II)V"⟩, 4), (⟨"PhotoModels$Adjustment", "remember", "()V"⟩, 4), (⟨"PhotoModels$Adjustment", "doRound", "(LPhotoModels$Places;)V"⟩, 4), (⟨"PhotoModels$Adjustment", "movePhoto", "(LPhotoModels$Places;II)V"⟩, 4), (⟨"PhotoModels$Adjustment", "undo", "()V"⟩, 4), (⟨"PhotoModels$Relief", "fillCosts", "(LPhotoModels$Photos;IIII)V"⟩, 10), (⟨"PhotoModels$Relief", "bestAhead", "(III)I"⟩, 10)]
theorem lw_r1 : ∀ q ∈ lw_privs_1, lw_okq q := List.forall_mem_cons.mpr ⟨lw_p0, List.forall_mem_cons.mpr ⟨lw_p1, List.forall_mem_cons.mpr ⟨lw_p2, List.forall_mem_cons.mpr ⟨lw_p3, List.forall_mem_cons.mpr ⟨lw_p4, List.forall_mem_cons.mpr ⟨lw_p5, List.forall_mem_cons.mpr ⟨lw_p6, List.forall_mem_cons.mpr ⟨lw_p7, List.forall_mem_cons.mpr ⟨lw_p8, List.forall_mem_cons.mpr ⟨lw_p9, List.forall_mem_cons.mpr ⟨lw_p10, List.forall_mem_cons.mpr ⟨lw_p11, List.forall_mem_cons.mpr ⟨lw_p12, List.forall_mem_cons.mpr ⟨lw_p13, List.forall_mem_cons.mpr ⟨lw_p14, List.forall_mem_cons.mpr ⟨lw_p15, fun _ h => absurd h List.not_mem_nil⟩⟩⟩⟩⟩⟩⟩⟩⟩⟩⟩⟩⟩⟩⟩⟩
theorem lw_p16 : lw_okq (⟨"PhotoModels$Relief", "costAhead", "(IIII)I"⟩, 10) := ⟨⟨by decide +kernel, by decide +kernel⟩, List.mem_of_getElem? (i := 172) (by decide +kernel), List.mem_of_getElem? (i := 687) (by decide +kernel), List.mem_of_getElem? (i := 688) (by decide +kernel)⟩
theorem lw_p17 : lw_okq (⟨"PhotoModels$Relief", "traceBack", "(LPhotoModels$Photos;IIII)I"⟩, 10) := ⟨⟨by decide +kernel, by decide +kernel⟩, List.mem_of_getElem? (i := 172) (by decide +kernel), List.mem_of_getElem? (i := 691) (by decide +kernel), List.mem_of_getElem? (i := 692) (by decide +kernel)⟩
theorem lw_p18 : lw_okq (⟨"PhotoModels$Relief", "openAbove", "(I)V"⟩, 10) := ⟨⟨by decide +kernel, by decide +kernel⟩, List.mem_of_getElem? (i := 172) (by decide +kernel), List.mem_of_getElem? (i := 721) (by decide +kernel), List.mem_of_getElem? (i := 722) (by decide +kernel)⟩
theorem lw_p19 : lw_okq (⟨"PhotoModels$Relief", "marginedIndex", "(II)I"⟩, 10) := ⟨⟨by decide +kernel, by decide +kernel⟩, List.mem_of_getElem? (i := 172) (by decide +kernel), List.mem_of_getElem? (i := 725) (by decide +kernel), List.mem_of_getElem? (i := 726) (by decide +kernel)⟩
theorem lw_p20 : lw_okq (⟨"PhotoModels$Relief", "closeAround", "(I)V"⟩, 10) := ⟨⟨by decide +kernel, by decide +kernel⟩, List.mem_of_getElem? (i := 172) (by decide +kernel), List.mem_of_getElem? (i := 729) (by decide +kernel), List.mem_of_getElem? (i := 730) (by decide +kernel)⟩
theorem lw_p21 : lw_okq (⟨"PhotoModels$Relief", "closeIfOpen", "(I)V"⟩, 10) := ⟨⟨by decide +kernel, by decide +kernel⟩, List.mem_of_getElem? (i := 172) (by decide +kernel), List.mem_of_getElem? (i := 733) (by decide +kernel), List.mem_of_getElem? (i := 734) (by decide +kernel)⟩
theorem lw_p22 : lw_okq (⟨"PhotoModelsModel", "isCell", "(II)Z"⟩, 28) := ⟨⟨by decide +kernel, by decide +kernel⟩, List.mem_of_getElem? (i := 757) (by decide +kernel), List.mem_of_getElem? (i := 863) (by decide +kernel), List.mem_of_getElem? (i := 864) (by decide +kernel)⟩
theorem lw_p23 : lw_okq (⟨"PhotoModelsModel", "goes", "(ZZZ)Z"⟩, 28) := ⟨⟨by decide +kernel, by decide +kernel⟩, List.mem_of_getElem? (i := 757) (by decide +kernel), List.mem_of_getElem? (i := 867) (by decide +kernel), List.mem_of_getElem? (i := 868) (by decide +kernel)⟩
theorem lw_p24 : lw_okq (⟨"PhotoModelsModel", "valueOf", "(III)I"⟩, 28) := ⟨⟨by decide +kernel, by decide +kernel⟩, List.mem_of_getElem? (i := 757) (by decide +kernel), List.mem_of_getElem? (i := 871) (by decide +kernel), List.mem_of_getElem? (i := 872) (by decide +kernel)⟩
theorem lw_p25 : lw_okq (⟨"PhotoModelsModel", "missOf", "(IIIIII)I"⟩, 28) := ⟨⟨by decide +kernel, by decide +kernel⟩, List.mem_of_getElem? (i := 757) (by decide +kernel), List.mem_of_getElem? (i := 879) (by decide +kernel), List.mem_of_getElem? (i := 880) (by decide +kernel)⟩
theorem lw_p26 : lw_okq (⟨"PhotoModelsModel", "isPlace", "(I)Z"⟩, 28) := ⟨⟨by decide +kernel, by decide +kernel⟩, List.mem_of_getElem? (i := 757) (by decide +kernel), List.mem_of_getElem? (i := 898) (by decide +kernel), List.mem_of_getElem? (i := 899) (by decide +kernel)⟩
theorem lw_p27 : lw_okq (⟨"PhotoModelsModel", "isBoth", "(III)Z"⟩, 28) := ⟨⟨by decide +kernel, by decide +kernel⟩, List.mem_of_getElem? (i := 757) (by decide +kernel), List.mem_of_getElem? (i := 906) (by decide +kernel), List.mem_of_getElem? (i := 907) (by decide +kernel)⟩
theorem lw_p28 : lw_okq (⟨"PhotoModelsModel", "isSeen", "(II)Z"⟩, 28) := ⟨⟨by decide +kernel, by decide +kernel⟩, List.mem_of_getElem? (i := 757) (by decide +kernel), List.mem_of_getElem? (i := 910) (by decide +kernel), List.mem_of_getElem? (i := 911) (by decide +kernel)⟩
theorem lw_p29 : lw_okq (⟨"PhotoModelsModel", "drawn", "(I)I"⟩, 28) := ⟨⟨by decide +kernel, by decide +kernel⟩, List.mem_of_getElem? (i := 757) (by decide +kernel), List.mem_of_getElem? (i := 914) (by decide +kernel), List.mem_of_getElem? (i := 915) (by decide +kernel)⟩
theorem lw_p30 : lw_okq (⟨"PhotoModelsModel", "agreeing", "(IIII)I"⟩, 28) := ⟨⟨by decide +kernel, by decide +kernel⟩, List.mem_of_getElem? (i := 757) (by decide +kernel), List.mem_of_getElem? (i := 919) (by decide +kernel), List.mem_of_getElem? (i := 920) (by decide +kernel)⟩
theorem lw_p31 : lw_okq (⟨"PhotoModelsModel", "between", "(IIII)I"⟩, 28) := ⟨⟨by decide +kernel, by decide +kernel⟩, List.mem_of_getElem? (i := 757) (by decide +kernel), List.mem_of_getElem? (i := 923) (by decide +kernel), List.mem_of_getElem? (i := 924) (by decide +kernel)⟩
def lw_privs_2 : List (MethodName × Nat) := [(⟨"PhotoModels$Relief", "costAhead", "(IIII)I"⟩, 10), (⟨"PhotoModels$Relief", "traceBack", "(LPhotoModels$Photos;IIII)I"⟩, 10), (⟨"PhotoModels$Relief", "openAbove", "(I)V"⟩, 10), (⟨"PhotoModels$Relief", "marginedIndex", "(II)I"⟩, 10), (⟨"PhotoModels$Relief", "closeAround", "(I)V"⟩, 10), (⟨"PhotoModels$Relief", "closeIfOpen", "(I)V"⟩, 10), (⟨"PhotoModelsModel", "isCell", "(II)Z"⟩, 28), (⟨"PhotoModelsModel", "goes", "(ZZZ)Z"⟩, 28), (⟨"PhotoModelsModel", "valueOf", "(III)I"⟩, 28), (⟨"PhotoModelsModel", "missOf", "(IIIIII)I"⟩, 28), (⟨"PhotoModelsModel", "isPlace", "(I)Z"⟩, 28), (⟨"PhotoModelsModel", "isBoth", "(III)Z"⟩, 28), (⟨"PhotoModelsModel", "isSeen", "(II)Z"⟩, 28), (⟨"PhotoModelsModel", "drawn", "(I)I"⟩, 28), (⟨"PhotoModelsModel", "agreeing", "(IIII)I"⟩, 28), (⟨"PhotoModelsModel", "between", "(IIII)I"⟩, 28)]
theorem lw_r2 : ∀ q ∈ lw_privs_2, lw_okq q := List.forall_mem_cons.mpr ⟨lw_p16, List.forall_mem_cons.mpr ⟨lw_p17, List.forall_mem_cons.mpr ⟨lw_p18, List.forall_mem_cons.mpr ⟨lw_p19, List.forall_mem_cons.mpr ⟨lw_p20, List.forall_mem_cons.mpr ⟨lw_p21, List.forall_mem_cons.mpr ⟨lw_p22, List.forall_mem_cons.mpr ⟨lw_p23, List.forall_mem_cons.mpr ⟨lw_p24, List.forall_mem_cons.mpr ⟨lw_p25, List.forall_mem_cons.mpr ⟨lw_p26, List.forall_mem_cons.mpr ⟨lw_p27, List.forall_mem_cons.mpr ⟨lw_p28, List.forall_mem_cons.mpr ⟨lw_p29, List.forall_mem_cons.mpr ⟨lw_p30, List.forall_mem_cons.mpr ⟨lw_p31, fun _ h => absurd h List.not_mem_nil⟩⟩⟩⟩⟩⟩⟩⟩⟩⟩⟩⟩⟩⟩⟩⟩
theorem lw_p32 : lw_okq (⟨"PhotoModelsModel", "where", "(III)I"⟩, 28) := ⟨⟨by decide +kernel, by decide +kernel⟩, List.mem_of_getElem? (i := 757) (by decide +kernel), List.mem_of_getElem? (i := 927) (by decide +kernel), List.mem_of_getElem? (i := 928) (by decide +kernel)⟩
theorem lw_p33 : lw_okq (⟨"PhotoModelsModel", "begin", "()V"⟩, 28) := ⟨⟨by decide +kernel, by decide +kernel⟩, List.mem_of_getElem? (i := 757) (by decide +kernel), List.mem_of_getElem? (i := 943) (by decide +kernel), List.mem_of_getElem? (i := 944) (by decide +kernel)⟩
theorem lw_p34 : lw_okq (⟨"PhotoModelsModel", "put", "(II)V"⟩, 28) := ⟨⟨by decide +kernel, by decide +kernel⟩, List.mem_of_getElem? (i := 757) (by decide +kernel), List.mem_of_getElem? (i := 947) (by decide +kernel), List.mem_of_getElem? (i := 948) (by decide +kernel)⟩
theorem lw_p35 : lw_okq (⟨"PhotoModelsModel", "all", "()J"⟩, 28) := ⟨⟨by decide +kernel, by decide +kernel⟩, List.mem_of_getElem? (i := 757) (by decide +kernel), List.mem_of_getElem? (i := 954) (by decide +kernel), List.mem_of_getElem? (i := 955) (by decide +kernel)⟩
theorem lw_p36 : lw_okq (⟨"PhotoModelsModel", "missed", "(I)J"⟩, 28) := ⟨⟨by decide +kernel, by decide +kernel⟩, List.mem_of_getElem? (i := 757) (by decide +kernel), List.mem_of_getElem? (i := 958) (by decide +kernel), List.mem_of_getElem? (i := 959) (by decide +kernel)⟩
theorem lw_p37 : lw_okq (⟨"PhotoModelsModel", "round", "()V"⟩, 28) := ⟨⟨by decide +kernel, by decide +kernel⟩, List.mem_of_getElem? (i := 757) (by decide +kernel), List.mem_of_getElem? (i := 962) (by decide +kernel), List.mem_of_getElem? (i := 963) (by decide +kernel)⟩
theorem lw_p38 : lw_okq (⟨"PhotoModelsModel", "move", "(II)V"⟩, 28) := ⟨⟨by decide +kernel, by decide +kernel⟩, List.mem_of_getElem? (i := 757) (by decide +kernel), List.mem_of_getElem? (i := 966) (by decide +kernel), List.mem_of_getElem? (i := 967) (by decide +kernel)⟩
theorem lw_p39 : lw_okq (⟨"PhotoModelsModel", "costRow", "(IIII)V"⟩, 28) := ⟨⟨by decide +kernel, by decide +kernel⟩, List.mem_of_getElem? (i := 757) (by decide +kernel), List.mem_of_getElem? (i := 1006) (by decide +kernel), List.mem_of_getElem? (i := 1007) (by decide +kernel)⟩
theorem lw_p40 : lw_okq (⟨"PhotoModelsModel", "gap", "(IIIII)I"⟩, 28) := ⟨⟨by decide +kernel, by decide +kernel⟩, List.mem_of_getElem? (i := 757) (by decide +kernel), List.mem_of_getElem? (i := 1010) (by decide +kernel), List.mem_of_getElem? (i := 1011) (by decide +kernel)⟩
theorem lw_p41 : lw_okq (⟨"PhotoModelsModel", "trace", "(IIII)I"⟩, 28) := ⟨⟨by decide +kernel, by decide +kernel⟩, List.mem_of_getElem? (i := 757) (by decide +kernel), List.mem_of_getElem? (i := 1014) (by decide +kernel), List.mem_of_getElem? (i := 1015) (by decide +kernel)⟩
theorem lw_p42 : lw_okq (⟨"PhotoModelsModel", "close", "(I)V"⟩, 28) := ⟨⟨by decide +kernel, by decide +kernel⟩, List.mem_of_getElem? (i := 757) (by decide +kernel), List.mem_of_getElem? (i := 1026) (by decide +kernel), List.mem_of_getElem? (i := 1027) (by decide +kernel)⟩
theorem lw_p43 : lw_okq (⟨"PhotoModelsModel", "isOpen", "(II)Z"⟩, 28) := ⟨⟨by decide +kernel, by decide +kernel⟩, List.mem_of_getElem? (i := 757) (by decide +kernel), List.mem_of_getElem? (i := 1030) (by decide +kernel), List.mem_of_getElem? (i := 1031) (by decide +kernel)⟩
theorem lw_p44 : lw_okq (⟨"PhotoModelsModel", "mark", "(II)V"⟩, 28) := ⟨⟨by decide +kernel, by decide +kernel⟩, List.mem_of_getElem? (i := 757) (by decide +kernel), List.mem_of_getElem? (i := 1034) (by decide +kernel), List.mem_of_getElem? (i := 1035) (by decide +kernel)⟩
def lw_privs_3 : List (MethodName × Nat) := [(⟨"PhotoModelsModel", "where", "(III)I"⟩, 28), (⟨"PhotoModelsModel", "begin", "()V"⟩, 28), (⟨"PhotoModelsModel", "put", "(II)V"⟩, 28), (⟨"PhotoModelsModel", "all", "()J"⟩, 28), (⟨"PhotoModelsModel", "missed", "(I)J"⟩, 28), (⟨"PhotoModelsModel", "round", "()V"⟩, 28), (⟨"PhotoModelsModel", "move", "(II)V"⟩, 28), (⟨"PhotoModelsModel", "costRow", "(IIII)V"⟩, 28), (⟨"PhotoModelsModel", "gap", "(IIIII)I"⟩, 28), (⟨"PhotoModelsModel", "trace", "(IIII)I"⟩, 28), (⟨"PhotoModelsModel", "close", "(I)V"⟩, 28), (⟨"PhotoModelsModel", "isOpen", "(II)Z"⟩, 28), (⟨"PhotoModelsModel", "mark", "(II)V"⟩, 28)]
theorem lw_r3 : ∀ q ∈ lw_privs_3, lw_okq q := List.forall_mem_cons.mpr ⟨lw_p32, List.forall_mem_cons.mpr ⟨lw_p33, List.forall_mem_cons.mpr ⟨lw_p34, List.forall_mem_cons.mpr ⟨lw_p35, List.forall_mem_cons.mpr ⟨lw_p36, List.forall_mem_cons.mpr ⟨lw_p37, List.forall_mem_cons.mpr ⟨lw_p38, List.forall_mem_cons.mpr ⟨lw_p39, List.forall_mem_cons.mpr ⟨lw_p40, List.forall_mem_cons.mpr ⟨lw_p41, List.forall_mem_cons.mpr ⟨lw_p42, List.forall_mem_cons.mpr ⟨lw_p43, List.forall_mem_cons.mpr ⟨lw_p44, fun _ h => absurd h List.not_mem_nil⟩⟩⟩⟩⟩⟩⟩⟩⟩⟩⟩⟩⟩
def lw_privs : List (MethodName × Nat) := lw_privs_1 ++ (lw_privs_2 ++ (lw_privs_3))
def lw_tbl : List Cond := k2_sels lw_privs ++ tables_1
theorem lw_privs_ok : ∀ q ∈ lw_privs, lw_okq q := by
  show ∀ q ∈ lw_privs_1 ++ (lw_privs_2 ++ (lw_privs_3)), lw_okq q
  exact List.forall_mem_append.mpr ⟨lw_r1, List.forall_mem_append.mpr ⟨lw_r2, lw_r3⟩⟩
/-! names: out of the Statement, by program (gen01.py) -/
def okW (w : Cond) : Bool := match w with
  | .methodLinkNest .. => true
  | .stringRef .. => true
  | .declares _ => true
  | .castable .. => true
  | w => goodWord w
theorem okW_at {w : Cond} (ho : okW w = true) {s U : State} (hW : s.WarmedH U.vm) {A A9 : Array Value} (h : w.before A s = true) : w.before A9 U = true := by
  unfold okW at ho
  split at ho
  · exact va_Nw.use rfl (va_Nw.warmM hW (va_Nw.of rfl h))
  · have h1 := Cond.stringRef_warmed hW h
    first
      | exact va_tabs rfl rfl h1
      | (simp only [Cond.before, Cond.holds, Cond.value, State.names, State.poolOf?, State.resolvedAt?] at h1 ⊢; exact h1)
  · have h1 := Cond.before_shiftedFace (State.Shifted.of_warmed hW) _ rfl h
    first
      | exact h1
      | exact va_tabs rfl rfl h1
  · have h1 := Cond.before_shiftedFace (State.Shifted.of_warmed hW) _ rfl h
    first
      | exact h1
      | exact va_tabs rfl rfl h1
  · exact word_at hW (good_of_word ho) h
def tw : List Cond := lw_tbl.filter okW
theorem tw_good (w : Cond) (h : w ∈ tw) : okW w = true := (List.mem_filter.mp h).2
theorem tw_sub (w : Cond) (h : w ∈ tw) : w ∈ lw_tbl := (List.mem_filter.mp h).1
theorem twi {w : Cond} (h : (decide (w ∈ lw_tbl) && okW w) = true) : w ∈ tw := by
  simp only [Bool.and_eq_true, decide_eq_true_eq] at h
  exact List.mem_filter.mpr h
theorem tx1 {w : Cond} (i : Nat) (h : tables_1_1[i]? = some w) (hg : okW w = true) : w ∈ tw := List.mem_filter.mpr ⟨List.mem_append_right _ (List.mem_append_left _ (List.mem_of_getElem? h)), hg⟩
theorem tx2 {w : Cond} (i : Nat) (h : tables_1_2[i]? = some w) (hg : okW w = true) : w ∈ tw := List.mem_filter.mpr ⟨List.mem_append_right _ (List.mem_append_right _ (List.mem_append_left _ (List.mem_of_getElem? h))), hg⟩
theorem tx3 {w : Cond} (i : Nat) (h : tables_1_3[i]? = some w) (hg : okW w = true) : w ∈ tw := List.mem_filter.mpr ⟨List.mem_append_right _ (List.mem_append_right _ (List.mem_append_right _ (List.mem_append_left _ (List.mem_of_getElem? h)))), hg⟩
theorem tx4 {w : Cond} (i : Nat) (h : tables_1_4[i]? = some w) (hg : okW w = true) : w ∈ tw := List.mem_filter.mpr ⟨List.mem_append_right _ (List.mem_append_right _ (List.mem_append_right _ (List.mem_append_right _ (List.mem_append_left _ (List.mem_of_getElem? h))))), hg⟩
theorem tx5 {w : Cond} (i : Nat) (h : tables_1_5[i]? = some w) (hg : okW w = true) : w ∈ tw := List.mem_filter.mpr ⟨List.mem_append_right _ (List.mem_append_right _ (List.mem_append_right _ (List.mem_append_right _ (List.mem_append_right _ (List.mem_of_getElem? h))))), hg⟩
theorem twp {w : Cond} (i : Nat) (h : (k2_sels lw_privs)[i]? = some w) (hg : okW w = true) : w ∈ tw := List.mem_filter.mpr ⟨List.mem_append_left _ (List.mem_of_getElem? h), hg⟩
theorem twis {ws : List Cond} (h : ws.all (fun w => decide (w ∈ lw_tbl) && okW w) = true) : ∀ w ∈ ws, w ∈ tw := fun w hw => twi (List.all_eq_true.mp h w hw)
def R_Ad : String := "PhotoModels$Adjustment"
def F_Ad : u_T := fun k => match k with
  | 0 => ("PhotoModels$Adjustment", "positions", "[I", true)
  | 1 => ("PhotoModels$Adjustment", "offsets", "[I", true)
  | 2 => ("PhotoModels$Adjustment", "positionsBefore", "[I", true)
  | _ => ("PhotoModels$Adjustment", "offsetsBefore", "[I", true)
def t_Ad : Nat → FieldType := fun k => match k with
  | 0 => .array .int
  | 1 => .array .int
  | 2 => .array .int
  | _ => .array .int
theorem n_Ad : ∀ a, a < 4 → ∀ b, b < 4 → a ≠ b → (F_Ad a).2.1 ≠ (F_Ad b).2.1 := by decide +kernel
theorem t_Ad_ok : ∀ k, k < 4 → parseFieldDescriptor (F_Ad k).2.2.1 = some (t_Ad k) := by decide +kernel
theorem i_Ad : ∀ w ∈ u_ws R_Ad F_Ad 4, w ∈ tw := twis (by decide +kernel)
def R_Ag : String := "PhotoModels$Agreement"
def F_Ag : u_T := fun k => match k with
  | 0 => ("PhotoModels$Agreement", "seed", "I", true)
  | 1 => ("PhotoModels$Agreement", "shiftX", "[I", true)
  | 2 => ("PhotoModels$Agreement", "shiftY", "[I", true)
  | 3 => ("PhotoModels$Agreement", "number", "I", false)
  | 4 => ("PhotoModels$Agreement", "reached", "Z", false)
  | 5 => ("PhotoModels$Agreement", "bestX", "I", false)
  | _ => ("PhotoModels$Agreement", "bestY", "I", false)
def t_Ag : Nat → FieldType := fun k => match k with
  | 0 => .int
  | 1 => .array .int
  | 2 => .array .int
  | 3 => .int
  | 4 => .boolean
  | 5 => .int
  | _ => .int
theorem n_Ag : ∀ a, a < 7 → ∀ b, b < 7 → a ≠ b → (F_Ag a).2.1 ≠ (F_Ag b).2.1 := by decide +kernel
theorem t_Ag_ok : ∀ k, k < 7 → parseFieldDescriptor (F_Ag k).2.2.1 = some (t_Ag k) := by decide +kernel
theorem i_Ag : ∀ w ∈ u_ws R_Ag F_Ag 7, w ∈ tw := twis (by decide +kernel)
def R_Le : String := "PhotoModels$Lengths"
def F_Le : u_T := fun k => match k with
  | 0 => ("PhotoModels$Lengths", "from", "[I", true)
  | 1 => ("PhotoModels$Lengths", "to", "[I", true)
  | 2 => ("PhotoModels$Lengths", "length", "[I", true)
  | _ => ("PhotoModels$Lengths", "number", "I", false)
def t_Le : Nat → FieldType := fun k => match k with
  | 0 => .array .int
  | 1 => .array .int
  | 2 => .array .int
  | _ => .int
theorem n_Le : ∀ a, a < 4 → ∀ b, b < 4 → a ≠ b → (F_Le a).2.1 ≠ (F_Le b).2.1 := by decide +kernel
theorem t_Le_ok : ∀ k, k < 4 → parseFieldDescriptor (F_Le k).2.2.1 = some (t_Le k) := by decide +kernel
theorem i_Le : ∀ w ∈ u_ws R_Le F_Le 4, w ∈ tw := twis (by decide +kernel)
def R_Ph : String := "PhotoModels$Photos"
def F_Ph : u_T := fun k => match k with
  | 0 => ("PhotoModels$Photos", "width", "I", true)
  | 1 => ("PhotoModels$Photos", "height", "I", true)
  | _ => ("PhotoModels$Photos", "values", "[I", true)
def t_Ph : Nat → FieldType := fun k => match k with
  | 0 => .int
  | 1 => .int
  | _ => .array .int
theorem n_Ph : ∀ a, a < 3 → ∀ b, b < 3 → a ≠ b → (F_Ph a).2.1 ≠ (F_Ph b).2.1 := by decide +kernel
theorem t_Ph_ok : ∀ k, k < 3 → parseFieldDescriptor (F_Ph k).2.2.1 = some (t_Ph k) := by decide +kernel
theorem i_Ph : ∀ w ∈ u_ws R_Ph F_Ph 3, w ∈ tw := twis (by decide +kernel)
def R_Pl : String := "PhotoModels$Places"
def F_Pl : u_T := fun k => match k with
  | 0 => ("PhotoModels$Places", "aside", "[Z", true)
  | 1 => ("PhotoModels$Places", "noted", "[Z", true)
  | 2 => ("PhotoModels$Places", "where", "[I", true)
  | 3 => ("PhotoModels$Places", "number", "I", false)
  | _ => ("PhotoModels$Places", "spares", "I", false)
def t_Pl : Nat → FieldType := fun k => match k with
  | 0 => .array .boolean
  | 1 => .array .boolean
  | 2 => .array .int
  | 3 => .int
  | _ => .int
theorem n_Pl : ∀ a, a < 5 → ∀ b, b < 5 → a ≠ b → (F_Pl a).2.1 ≠ (F_Pl b).2.1 := by decide +kernel
theorem t_Pl_ok : ∀ k, k < 5 → parseFieldDescriptor (F_Pl k).2.2.1 = some (t_Pl k) := by decide +kernel
theorem i_Pl : ∀ w ∈ u_ws R_Pl F_Pl 5, w ∈ tw := twis (by decide +kernel)
def R_Re : String := "PhotoModels$Relief"
def F_Re : u_T := fun k => match k with
  | 0 => ("PhotoModels$Relief", "width", "I", true)
  | 1 => ("PhotoModels$Relief", "height", "I", true)
  | 2 => ("PhotoModels$Relief", "depths", "[I", true)
  | 3 => ("PhotoModels$Relief", "differences", "[I", true)
  | 4 => ("PhotoModels$Relief", "costs", "[I", true)
  | 5 => ("PhotoModels$Relief", "margined", "I", true)
  | 6 => ("PhotoModels$Relief", "open", "[Z", true)
  | 7 => ("PhotoModels$Relief", "queue", "[I", true)
  | 8 => ("PhotoModels$Relief", "queued", "I", false)
  | _ => ("PhotoModels$Relief", "raised", "Z", false)
def t_Re : Nat → FieldType := fun k => match k with
  | 0 => .int
  | 1 => .int
  | 2 => .array .int
  | 3 => .array .int
  | 4 => .array .int
  | 5 => .int
  | 6 => .array .boolean
  | 7 => .array .int
  | 8 => .int
  | _ => .boolean
theorem n_Re : ∀ a, a < 10 → ∀ b, b < 10 → a ≠ b → (F_Re a).2.1 ≠ (F_Re b).2.1 := by decide +kernel
theorem t_Re_ok : ∀ k, k < 10 → parseFieldDescriptor (F_Re k).2.2.1 = some (t_Re k) := by decide +kernel
theorem i_Re : ∀ w ∈ u_ws R_Re F_Re 10, w ∈ tw := twis (by decide +kernel)
def R_Se : String := "PhotoModels$Search"
def F_Se : u_T := fun k => match k with
  | 0 => ("PhotoModels$Search", "width", "I", true)
  | 1 => ("PhotoModels$Search", "height", "I", true)
  | 2 => ("PhotoModels$Search", "misses", "[I", true)
  | 3 => ("PhotoModels$Search", "done", "Z", false)
  | 4 => ("PhotoModels$Search", "foundX", "I", false)
  | 5 => ("PhotoModels$Search", "foundY", "I", false)
  | _ => ("PhotoModels$Search", "leastElsewhere", "I", false)
def t_Se : Nat → FieldType := fun k => match k with
  | 0 => .int
  | 1 => .int
  | 2 => .array .int
  | 3 => .boolean
  | 4 => .int
  | 5 => .int
  | _ => .int
theorem n_Se : ∀ a, a < 7 → ∀ b, b < 7 → a ≠ b → (F_Se a).2.1 ≠ (F_Se b).2.1 := by decide +kernel
theorem t_Se_ok : ∀ k, k < 7 → parseFieldDescriptor (F_Se k).2.2.1 = some (t_Se k) := by decide +kernel
theorem i_Se : ∀ w ∈ u_ws R_Se F_Se 7, w ∈ tw := twis (by decide +kernel)
def R_Pm : String := "PhotoModels"
def F_Pm : u_T := fun k => match k with
  | 0 => ("PhotoModels", "photos", "LPhotoModels$Photos;", true)
  | 1 => ("PhotoModels", "search", "LPhotoModels$Search;", true)
  | 2 => ("PhotoModels", "places", "LPhotoModels$Places;", true)
  | 3 => ("PhotoModels", "agreement", "LPhotoModels$Agreement;", true)
  | 4 => ("PhotoModels", "adjustment", "LPhotoModels$Adjustment;", true)
  | 5 => ("PhotoModels", "lengths", "LPhotoModels$Lengths;", true)
  | _ => ("PhotoModels", "relief", "LPhotoModels$Relief;", true)
def t_Pm : Nat → FieldType := fun k => match k with
  | 0 => .object "PhotoModels$Photos"
  | 1 => .object "PhotoModels$Search"
  | 2 => .object "PhotoModels$Places"
  | 3 => .object "PhotoModels$Agreement"
  | 4 => .object "PhotoModels$Adjustment"
  | 5 => .object "PhotoModels$Lengths"
  | _ => .object "PhotoModels$Relief"
theorem n_Pm : ∀ a, a < 7 → ∀ b, b < 7 → a ≠ b → (F_Pm a).2.1 ≠ (F_Pm b).2.1 := by decide +kernel
theorem t_Pm_ok : ∀ k, k < 7 → parseFieldDescriptor (F_Pm k).2.2.1 = some (t_Pm k) := by decide +kernel
theorem i_Pm : ∀ w ∈ u_ws R_Pm F_Pm 7, w ∈ tw := twis (by decide +kernel)
def R_Mo : String := "PhotoModelsModel"
def F_Mo : u_T := fun k => match k with
  | 0 => ("PhotoModelsModel", "thrown", "I", false)
  | 1 => ("PhotoModelsModel", "width", "I", true)
  | 2 => ("PhotoModelsModel", "height", "I", true)
  | 3 => ("PhotoModelsModel", "seed", "I", true)
  | 4 => ("PhotoModelsModel", "values", "[I", true)
  | 5 => ("PhotoModelsModel", "matched", "Z", false)
  | 6 => ("PhotoModelsModel", "match", "[I", true)
  | 7 => ("PhotoModelsModel", "places", "I", false)
  | 8 => ("PhotoModelsModel", "seenX", "[I", true)
  | 9 => ("PhotoModelsModel", "seenY", "[I", true)
  | 10 => ("PhotoModelsModel", "spares", "[Z", true)
  | 11 => ("PhotoModelsModel", "positions", "[I", true)
  | 12 => ("PhotoModelsModel", "offsets", "[I", true)
  | 13 => ("PhotoModelsModel", "keptPositions", "[I", true)
  | 14 => ("PhotoModelsModel", "keptOffsets", "[I", true)
  | 15 => ("PhotoModelsModel", "shifted", "Z", false)
  | 16 => ("PhotoModelsModel", "shiftX", "I", false)
  | 17 => ("PhotoModelsModel", "shiftY", "I", false)
  | 18 => ("PhotoModelsModel", "lengths", "I", false)
  | 19 => ("PhotoModelsModel", "ones", "[I", true)
  | 20 => ("PhotoModelsModel", "others", "[I", true)
  | 21 => ("PhotoModelsModel", "known", "[I", true)
  | 22 => ("PhotoModelsModel", "high", "Z", false)
  | 23 => ("PhotoModelsModel", "depths", "[I", true)
  | 24 => ("PhotoModelsModel", "differs", "[I", true)
  | 25 => ("PhotoModelsModel", "costs", "[I", true)
  | 26 => ("PhotoModelsModel", "open", "[Z", true)
  | _ => ("PhotoModelsModel", "marks", "[Z", true)
def t_Mo : Nat → FieldType := fun k => match k with
  | 0 => .int
  | 1 => .int
  | 2 => .int
  | 3 => .int
  | 4 => .array .int
  | 5 => .boolean
  | 6 => .array .int
  | 7 => .int
  | 8 => .array .int
  | 9 => .array .int
  | 10 => .array .boolean
  | 11 => .array .int
  | 12 => .array .int
  | 13 => .array .int
  | 14 => .array .int
  | 15 => .boolean
  | 16 => .int
  | 17 => .int
  | 18 => .int
  | 19 => .array .int
  | 20 => .array .int
  | 21 => .array .int
  | 22 => .boolean
  | 23 => .array .int
  | 24 => .array .int
  | 25 => .array .int
  | 26 => .array .boolean
  | _ => .array .boolean
theorem n_Mo : ∀ a, a < 28 → ∀ b, b < 28 → a ≠ b → (F_Mo a).2.1 ≠ (F_Mo b).2.1 := by decide +kernel
theorem t_Mo_ok : ∀ k, k < 28 → parseFieldDescriptor (F_Mo k).2.2.1 = some (t_Mo k) := by decide +kernel
theorem i_Mo : ∀ w ∈ u_ws R_Mo F_Mo 28, w ∈ tw := twis (by decide +kernel)
def R_La : String := "PhotoModelsLaw"
def F_exc : u_T := fun _ => ("", "", "", false)
abbrev cls : List vw_C := [(R_Ad, F_Ad, 4), (R_Ag, F_Ag, 7), (R_Le, F_Le, 4), (R_Ph, F_Ph, 3), (R_Pl, F_Pl, 5), (R_Re, F_Re, 10), (R_Se, F_Se, 7), (R_Pm, F_Pm, 7), (R_Mo, F_Mo, 28), ("java/lang/IndexOutOfBoundsException", F_exc, 0), ("java/lang/IllegalArgumentException", F_exc, 0), ("java/lang/IllegalStateException", F_exc, 0)]
def csz : Nat → Nat
  | 0 => 4
  | 1 => 7
  | 2 => 4
  | 3 => 3
  | 4 => 5
  | 5 => 10
  | 6 => 7
  | 7 => 7
  | 8 => 28
  | 9 => 6
  | 10 => 6
  | 11 => 6
  | _ => 0
end
section
/-! A RUN'S PICTURE. The cells that the run has made are a list h (its k-th cell lies at the address b + k); a virtual reference .ref (k + 1) means the k-th of them, .ref 0 the law's script. -/
abbrev Gb : Type := Nat × Nat × Nat × (Nat → Int32) × va_G × (FieldType → ClassId)
abbrev Gb.b (G : Gb) : Nat := G.1
abbrev Gb.scr (G : Gb) : Nat := G.2.1
abbrev Gb.L (G : Gb) : Nat := G.2.2.1
abbrev Gb.xs (G : Gb) : Nat → Int32 := G.2.2.2.1
abbrev Gb.D (G : Gb) : va_G := G.2.2.2.2.1
abbrev Gb.dA (G : Gb) : FieldType → ClassId := G.2.2.2.2.2
/-- a virtual value as a real one -/
def sv (G : Gb) : Value → Value
  | .ref 0 => .ref G.scr
  | .ref (k + 1) => .ref (G.b + k)
  | v => v
theorem sv_cat (G : Gb) (v : Value) : (sv G v).category = v.category := by
  cases v with
  | ref a => cases a <;> rfl
  | _ => rfl
/-- a cell: an array (component type, length, contents), or an object (its class's number, its fields) -/
abbrev Ce : Type := (FieldType × vp_A) ⊕ (Nat × List Value)
def cv (G : Gb) : Ce → va_E
  | .inl q => .inl (G.dA q.1, q.2)
  | .inr q => .inr (q.1, q.2.map (sv G))
def sl1 : Ce → Nat
  | .inl q => q.2.1
  | .inr q => csz q.1
def sl : List Ce → Nat
  | [] => 0
  | c :: t => sl1 c + sl t
theorem sl_app : ∀ (a b : List Ce), sl (a ++ b) = sl a + sl b
  | [], b => by simp [sl]
  | c :: t, b => by simp [sl, sl_app t b]; omega
theorem sl_set : ∀ (h : List Ce) (k : Nat) (c c' : Ce), h[k]? = some c → sl1 c' = sl1 c → sl (h.set k c') = sl h
  | [], k, c, c', hk, _ => by simp at hk
  | a :: t, 0, c, c', hk, e => by simp at hk; subst hk; simp [sl, e]
  | a :: t, k + 1, c, c', hk, e => by simp at hk; simp [sl, sl_set t k c c' hk e]
/-- the list as a world of the kit -/
def wl (G : Gb) (h : List Ce) : va_W := h.mapIdx (fun k c => (G.b + k, cv G c))
theorem wl_at {G : Gb} {h : List Ce} {k : Nat} {c : Ce} (hk : h[k]? = some c) : (wl G h)[k]? = some (G.b + k, cv G c) := by
  simp [wl, hk]
theorem wl_of {G : Gb} {h : List Ce} {k : Nat} {q : Nat × va_E} (hq : (wl G h)[k]? = some q) : ∃ c, h[k]? = some c ∧ q = (G.b + k, cv G c) := by
  simp only [wl, List.getElem?_mapIdx, Option.map_eq_some_iff] at hq
  obtain ⟨c, h1, h2⟩ := hq
  exact ⟨c, h1, h2.symm⟩
theorem wl_set (G : Gb) (h : List Ce) (k : Nat) (c : Ce) : (wl G h).set k (G.b + k, cv G c) = wl G (h.set k c) := by
  apply List.ext_getElem?
  intro i
  simp only [wl, List.getElem?_mapIdx, List.getElem?_set, List.length_mapIdx]
  by_cases e : k = i
  · subst e
    by_cases hl : k < h.length
    · simp [hl]
    · simp [hl]
  · simp [e]
theorem wl_push (G : Gb) (h : List Ce) (c : Ce) : wl G h ++ [(G.b + h.length, cv G c)] = wl G (h ++ [c]) := by
  simp [wl, List.mapIdx_append]
/-- what the run may write -/
abbrev Ar (G : Gb) : Nat → Prop := fun q => G.b ≤ q
theorem wl_D (G : Gb) (h : List Ce) : va_D (Ar G) (wl G h) := by
  refine ⟨fun i j p q hp hq e => ?_, fun k q hq => ?_⟩
  · obtain ⟨c, -, rfl⟩ := wl_of hp
    obtain ⟨d, -, rfl⟩ := wl_of hq
    have : G.b + i = G.b + j := e
    omega
  · obtain ⟨c, -, rfl⟩ := wl_of hq
    exact Nat.le_add_right _ _
/-- a method: its name, code, how many locals, its answer's type, the frames and words that its calls need, its handlers -/
abbrev Kt : Type := MethodName × ByteArray × Nat × Option FieldType × Nat × Nat × List (Nat × Nat × Nat × Nat)
abbrev Kt.y (K : Kt) : MethodName := K.1
abbrev Kt.code (K : Kt) : ByteArray := K.2.1
abbrev Kt.maxL (K : Kt) : Nat := K.2.2.1
abbrev Kt.ret (K : Kt) : Option FieldType := K.2.2.2.1
abbrev Kt.fr (K : Kt) : Nat := K.2.2.2.2.1
abbrev Kt.lo (K : Kt) : Nat := K.2.2.2.2.2.1
abbrev Kt.hd (K : Kt) : List (Nat × Nat × Nat × Nat) := K.2.2.2.2.2.2
def Kt.w (K : Kt) : Cond := match K.hd with
  | [] => .code K.y K.code K.maxL K.ret
  | hs => .codeWith K.y K.code K.maxL K.ret hs
abbrev tyl (G : Gb) : List (ClassId × FieldType) := [(G.dA .int, .int), (G.dA .boolean, .boolean), (G.dA .long, .long)]
def hdl (c : Code) : List (Nat × Nat × Nat × Nat) := c.exceptionTable.toList.map (fun h => (h.startPc, h.endPc, h.handlerPc, h.catchType))
/-- the words on the JDK's two statics that a new Throwable reads: they look at one cell, which the run doesn't write -/
def evw : List Cond := [.laysStatic "java/lang/Throwable" "UNASSIGNED_STACK" "[Ljava/lang/StackTraceElement;", .laysStatic "java/lang/Throwable" "SUPPRESSED_SENTINEL" "Ljava/util/List;", .isRef (.static "java/lang/Throwable" "UNASSIGNED_STACK" "[Ljava/lang/StackTraceElement;"), .isRef (.static "java/lang/Throwable" "SUPPRESSED_SENTINEL" "Ljava/util/List;")]
def EvS (G : Gb) (U : State) (H : Heap) : Prop := ∃ (aS : Nat) (cell : Cell), aS < G.b ∧ H[aS]? = some cell ∧ ∀ (S : State) (A : Array Value), U.WarmedH S.vm → S.heap[aS]? = some cell → ∀ w ∈ evw, w.before A S = true
/-- .. and that the exceptions' classes are apart -/
def Ev (G : Gb) (U : State) (H : Heap) : Prop := EvS G U H ∧ va_Nc "java/lang/IllegalArgumentException" "java/lang/IndexOutOfBoundsException" U ∧ va_Nc "java/lang/IllegalStateException" "java/lang/IndexOutOfBoundsException" U ∧ va_Nc "java/lang/IllegalStateException" "java/lang/IllegalArgumentException" U
theorem Ev.moved {G : Gb} {u U : State} {H : Heap} (hvm : u.WarmedH U.vm) (h : Ev G u H) : Ev G U H := by
  obtain ⟨⟨aS, cell, h1, h2, h3⟩, n1, n2, n3⟩ := h
  exact ⟨⟨aS, cell, h1, h2, fun S A hW => h3 S A (State.WarmedH.trans hvm hW)⟩, n1.moved hvm.alike, n2.moved hvm.alike, n3.moved hvm.alike⟩
theorem Ev.kept {G : Gb} {U : State} {H H1 : Heap} (h : Ev G U H) (hq : ∀ a : Nat, a < H.size → ¬ Ar G a → H1[a]? = H[a]?) : Ev G U H1 := by
  obtain ⟨⟨aS, cell, h1, h2, h3⟩, n⟩ := h
  exact ⟨⟨aS, cell, h1, by rw [hq aS (Array.getElem?_eq_some_iff.mp h2).1 (Nat.not_le.mpr h1)]; exact h2, h3⟩, n⟩
theorem Ev.use {G : Gb} {U : State} (h : Ev G U U.heap) {A : Array Value} {w : Cond} (hw : w ∈ evw) : w.before A U = true := by
  obtain ⟨⟨aS, cell, h1, h2, h3⟩, n⟩ := h
  exact h3 U A (State.WarmedH.refl U) h2 w hw
/-- what holds in a method all the while -/
def Cx (G : Gb) (K : Kt) (p : Program) (s : State) (m : MethodId) (args : Array Value) (meth : Method) (c : Code) : Prop :=
  p.tables.exec = Jvm.exec ∧ c.code = K.code ∧ c.maxLocals = K.maxL ∧ meth.sig.returnType = K.ret ∧ meth.locks = false ∧ s.vm.findClass K.y.cls = some m.cls ∧ meth.name = K.y.name ∧ hdl c = K.hd ∧ (∀ w ∈ tw, w.before args s = true) ∧ va_K G.D cls (tyl G) s ∧ Ev G s s.heap ∧ va_X G.scr G.L G.xs s s.heap ∧ G.scr < G.b ∧ G.b ≤ s.heap.size
/-- how a call ends: with an answer, or with the cell that it threw -/
abbrev Rs : Type := Option Value ⊕ Nat
def oc (G : Gb) : Rs → Outcome
  | .inl v => .returned (v.map (sv G))
  | .inr a => .threw (G.b + a)
def Fin' (G : Gb) (below : List Frame) (s : State) (h0 : List Ce) (r : Rs) (h' : List Ce) : State → Prop := fun t =>
  t.status = .running ∧ Ended t below (oc G r) ∧ va_P G.D cls (wl G h') t.heap ∧ s.WarmedH t.vm ∧ ∃ Ls, s.sameButNew ({ t with vm := s.vm } : State) Ls (h'.length - h0.length) (sl h' - sl h0) ∧ ∀ q ∈ Ls, G.b ≤ q.base
def rmK (K : Kt) (h0 h' : List Ce) : Room := { frames := K.fr, cells := h'.length - h0.length, slots := sl h' - sl h0, locals := K.lo }
abbrev mv (G : Gb) (ls : List (Nat × Value)) : List (Nat × Value) := ls.map (fun q => (q.1, sv G q.2))
/-- FROM HERE the method K, begun with the cells h0, ends with r and the cells h' -/
def V (l : Launch) (G : Gb) (K : Kt) (h0 : List Ce) (pc : Nat) (ls : List (Nat × Value)) (st : List Value) (h : List Ce) (r : Rs) (h' : List Ce) : Prop :=
  h.length ≤ h'.length ∧ sl h ≤ sl h' ∧ ∀ {p : Program} {e : Env} {s : State} {m : MethodId} {args : Array Value} {below : List Frame} {meth : Method} {c : Code} {H : Heap} {locs : List Loc} {lsA : Array Slot},
    Cx G K p s m args meth c → va_P G.D cls (wl G h) H → s.heap.size = G.b + h0.length → h0.length ≤ h.length → sl h0 ≤ sl h → va_S (Ar G) s.heap H locs → lv_has lsA K.maxL (mv G ls) →
    W p l e (rmK K h0 h') s m args below meth c H locs (h.length - h0.length) (sl h - sl h0) (Fin' G below s h0 r h') (F0 m pc lsA (st.map (sv G)))
/-- THE METHOD K, called with vs where the cells are h, ends with r and the cells h' -/
def Do (l : Launch) (G : Gb) (K : Kt) (vs : List Value) (h : List Ce) (r : Rs) (h' : List Ce) : Prop :=
  h.length ≤ h'.length ∧ sl h ≤ sl h' ∧ MetFree l K.y (headSpec (K.w :: tw) (rmK K h h'))
    (fun a U => a = (vs.map (sv G)).toArray ∧ va_P G.D cls (wl G h) U.heap ∧ U.heap.size = G.b + h.length ∧ va_X G.scr G.L G.xs U U.heap ∧ G.scr < G.b ∧ va_K G.D cls (tyl G) U ∧ Ev G U U.heap) (fun _ _ _ _ _ => True)
    (fun _ st o t => o = oc G r ∧ va_P G.D cls (wl G h') t.heap ∧ st.WarmedH t.vm ∧ ∃ Ls, st.sameButNew ({ t with vm := st.vm } : State) Ls (h'.length - h.length) (sl h' - sl h) ∧ ∀ q ∈ Ls, G.b ≤ q.base)
theorem W.mono {p : Program} {l : Launch} {e : Env} {R : Room} {s : State} {m : MethodId} {args : Array Value} {below : List Frame} {meth : Method} {c : Code} {H : Heap} {locs : List Loc} {cells slots : Nat} {Q Q' : State → Prop} {g : JFrame} (h : ∀ t, Q t → Q' t) (w : W p l e R s m args below meth c H locs cells slots Q g) : W p l e R s m args below meth c H locs cells slots Q' g := fun T hT X => by
  obtain ⟨t, a, b⟩ := w T hT X
  exact ⟨t, a, h t b⟩
theorem lv_args_mv (G : Gb) : ∀ (vs : List Value) (i : Nat), lv_args i (vs.map (sv G)) = mv G (lv_args i vs)
  | [], _ => rfl
  | v :: vs, i => by
    show (i, sv G v) :: lv_args (if (sv G v).category = 2 then i + 2 else i + 1) (vs.map (sv G)) = (i, sv G v) :: mv G (lv_args (if v.category = 2 then i + 2 else i + 1) vs)
    rw [sv_cat, lv_args_mv G vs]
theorem lg_sl_mv (G : Gb) : ∀ vs : List Value, (lg_sl (vs.map (sv G))).length = (lg_sl vs).length
  | [] => rfl
  | v :: vs => by
    have e := lg_sl_mv G vs
    simp only [lg_sl, List.map_cons, List.flatMap_cons, List.length_append, sv_cat] at e ⊢
    rw [e]
    by_cases h : v.category = 2 <;> simp [h]
/-- a method's contract out of its walk -/
theorem Do.of {l : Launch} {G : Gb} {K : Kt} {vs : List Value} {h : List Ce} {r : Rs} {h' : List Ce} (hy : plainName K.y.cls = true) (hn : (lg_sl vs).length ≤ K.maxL) (hw : K.w ∈ tw) (kk : V l G K h 0 (lv_args 0 vs) [] h r h') : Do l G K vs h r h' := by
  refine ⟨kk.1, kk.2.1, MetFree.of_bodyS (code := K.code) (maxLocals := K.maxL) (ret := K.ret) hy ?_ ?_⟩
  · intro args s m hp hnm
    have hk := atoms_spec (ws := K.w :: tw) hp _ List.mem_cons_self
    obtain ⟨y, code, maxL, ret, fr, lo, hd⟩ := K
    cases hd with
    | nil =>
      obtain ⟨meth, c, h1, h2, h3, h4, h5, h6, -, -⟩ := Cond.code_spec hnm hk
      exact ⟨meth, c, h1, h2, h3, h4, h5, h6⟩
    | cons q t =>
      obtain ⟨m', meth, c, hn', h1, h2, h3, h4, -, h5, h6, -⟩ := Cond.codeWith_spec hk
      cases hnm.symm.trans hn'
      exact ⟨meth, c, h1, h2, h3, h4, h5, h6⟩
  · intro p e s m args below meth c s₁ B hml hP _
    obtain ⟨rfl, hP, hz, hX, hb, hK, hE⟩ := hP
    have hh0 : s₁.heap = s.heap := by rw [B.state]; rfl
    have hall := atoms_spec (ws := K.w :: tw) B.pre
    have hcode : meth.code = some c := (Stand.of_body B).code
    have hdl' : hdl c = K.hd := by
      have hk := hall _ List.mem_cons_self
      obtain ⟨y, code, maxL, ret, fr, lo, hd⟩ := K
      cases hd with
      | nil =>
        obtain ⟨meth', c', h1, h2, h3, h4, h5, h6, h7, -⟩ := Cond.code_spec B.named hk
        cases B.method.symm.trans h1
        cases hcode.symm.trans h2
        have : c.exceptionTable.toList = [] := by simpa using h7
        simp [hdl, this]
      | cons q t =>
        obtain ⟨m', meth', c', hn', h1, h2, h3, h4, h5, -, -, -⟩ := Cond.codeWith_spec hk
        cases B.named.symm.trans hn'
        cases B.method.symm.trans h1
        cases hcode.symm.trans h2
        exact h5
    have C : Cx G K p s m (vs.map (sv G)).toArray meth c := ⟨B.exec, B.bytes, hml, B.returns, B.notSynchronized, findClass_of_methodNamed B.named, (name_of_methodNamed B.named B.method).1, hdl', fun w hw => hall w (List.mem_cons_of_mem _ hw), hK, hE, hX, hb, by omega⟩
    have hl := lv_entry (vs.map (sv G)) (n := K.maxL) (by rw [lg_sl_mv]; exact hn)
    rw [lv_args_mv] at hl
    have w := kk.2.2 (e := e) (below := below) (locs := []) C hP hz (Nat.le_refl _) (Nat.le_refl _) va_S.rf hl
    rw [Nat.sub_self, Nat.sub_self] at w
    obtain ⟨t, a1, b1, b2, b3, b4, b5⟩ := w s₁ hh0 (Stand.of_body B)
    refine ⟨t, oc G r, ?_, b1, b2, rfl, b3, b4, b5⟩
    rw [lg_entry_eq]
    exact a1
end
section
section R3
variable {l : Launch} {G : Gb} {K : Kt} {h0 : List Ce} {pc : Nat} {ls : List (Nat × Value)} {st : List Value} {h : List Ce} {r : Rs} {h' : List Ce}
/-- the value that a local holds -/
def lg (ls : List (Nat × Value)) (i : Nat) : Option Value := (ls.find? (fun q => q.1 == i)).map (·.2)
theorem lg_mem {i : Nat} {v : Value} (e : lg ls i = some v) : (i, v) ∈ ls := by
  simp only [lg, Option.map_eq_some_iff] at e
  obtain ⟨⟨j, w⟩, h1, h2⟩ := e
  have a := List.mem_of_find?_eq_some h1
  have b := List.find?_some h1
  simp at b h2
  subst b; subst h2
  exact a
theorem lg_at {lsA : Array Slot} {n i : Nat} {v : Value} (hl : lv_has lsA n (mv G ls)) (e : lg ls i = some v) : lsA[i]? = some (.val (sv G v)) := hl.2.2 (i, sv G v) (List.mem_map.mpr ⟨(i, v), lg_mem e, rfl⟩)
/-- a local is stored: the list stays in order -/
def lset (i : Nat) (v : Value) (ls : List (Nat × Value)) : List (Nat × Value) := ls.filter (fun q => decide (q.1 < i) && !(q.1 + 1 == i && q.2.category == 2)) ++ (i, v) :: ls.filter (fun q => decide (i + (v.category - 1) < q.1))
theorem lset_mem {i : Nat} {v : Value} {q : Nat × Value} (hq : q ∈ lset i v ls) : q = (i, v) ∨ (q ∈ ls ∧ q.1 ≠ i ∧ (v.category = 2 → q.1 ≠ i + 1) ∧ ¬ (q.1 + 1 = i ∧ q.2.category = 2)) := by
  rcases List.mem_append.mp hq with a | a
  · obtain ⟨b, c⟩ := List.mem_filter.mp a
    simp at c
    exact Or.inr ⟨b, by omega, fun _ => by omega, fun z => c.2.elim (fun k => k z.1) (fun k => k z.2)⟩
  · rcases List.mem_cons.mp a with a | a
    · exact Or.inl a
    · obtain ⟨b, c⟩ := List.mem_filter.mp a
      simp at c
      exact Or.inr ⟨b, by omega, fun z => by omega, fun z => by omega⟩
/-- fewer locals -/
theorem V_keep (ks : List Nat) (kk : V l G K h0 pc (ls.filter (fun q => ks.contains q.1)) st h r h') : V l G K h0 pc ls st h r h' :=
  ⟨kk.1, kk.2.1, fun C hP a1 a2 a3 a4 hl => kk.2.2 C hP a1 a2 a3 a4 ⟨hl.1, hl.2.1, fun q hq => by
    obtain ⟨q0, hm, rfl⟩ := List.mem_map.mp hq
    exact hl.2.2 _ (List.mem_map.mpr ⟨q0, (List.mem_filter.mp hm).1, rfl⟩)⟩⟩
/-- a step that leaves the cells and the locals -/
theorem V_go {pc' : Nat} {st' : List Value} (kk : V l G K h0 pc' ls st' h r h') (f : ∀ {p : Program} {e : Env} {R : Room} {s : State} {m : MethodId} {args : Array Value} {below : List Frame} {meth : Method} {c : Code} {H : Heap} {locs : List Loc} {cells slots : Nat} {Q : State → Prop} {lsA : Array Slot}, Cx G K p s m args meth c → lv_has lsA K.maxL (mv G ls) → va_P G.D cls (wl G h) H → va_S (Ar G) s.heap H locs → W p l e R s m args below meth c H locs cells slots Q (F0 m pc' lsA (st'.map (sv G))) → W p l e R s m args below meth c H locs cells slots Q (F0 m pc lsA (st.map (sv G)))) : V l G K h0 pc ls st h r h' :=
  ⟨kk.1, kk.2.1, fun C hP a1 a2 a3 a4 hl => f C hl hP a4 (kk.2.2 C hP a1 a2 a3 a4 hl)⟩
/-- a step that leaves the cells, and stores a local -/
theorem V_go1 {pc' i : Nat} {v : Value} {st' : List Value} (kk : V l G K h0 pc' (lset i v ls) st' h r h') (f : ∀ {p : Program} {e : Env} {R : Room} {s : State} {m : MethodId} {args : Array Value} {below : List Frame} {meth : Method} {c : Code} {H : Heap} {locs : List Loc} {cells slots : Nat} {Q : State → Prop} {lsA : Array Slot}, Cx G K p s m args meth c → lv_has lsA K.maxL (mv G ls) → (∀ lsB : Array Slot, lv_has lsB K.maxL (mv G (lset i v ls)) → W p l e R s m args below meth c H locs cells slots Q (F0 m pc' lsB (st'.map (sv G)))) → W p l e R s m args below meth c H locs cells slots Q (F0 m pc lsA (st.map (sv G)))) : V l G K h0 pc ls st h r h' :=
  ⟨kk.1, kk.2.1, fun C hP a1 a2 a3 a4 hl => f C hl (fun lsB hB => kk.2.2 C hP a1 a2 a3 a4 hB)⟩
theorem lset_has1 {lsB : Array Slot} {n i : Nat} {v : Value} (hc : v.category = 1) (hB : lv_has lsB n ((i, sv G v) :: (mv G ls).filter (fun q => !(q.1 == i) && !(q.1 + 1 == i && q.2.category == 2)))) : lv_has lsB n (mv G (lset i v ls)) := by
  refine ⟨hB.1, hB.2.1, fun q hq => ?_⟩
  obtain ⟨q0, hm, rfl⟩ := List.mem_map.mp hq
  refine hB.2.2 _ ?_
  rcases lset_mem hm with e | ⟨e1, e2, e3, e4⟩
  · subst e; exact List.mem_cons_self
  · refine List.mem_cons_of_mem _ (List.mem_filter.mpr ⟨List.mem_map.mpr ⟨q0, e1, rfl⟩, ?_⟩)
    simp [sv_cat, e2]
    rcases Nat.decEq (q0.fst + 1) i with z | z
    · exact Or.inl z
    · exact Or.inr (fun z2 => e4 ⟨z, z2⟩)
theorem lset_has2 {lsB : Array Slot} {n i : Nat} {v : Value} (hc : v.category = 2) (hB : lv_has lsB n ((i, sv G v) :: (mv G ls).filter (fun q => !(q.1 == i) && (!(q.1 == i + 1) && !(q.1 + 1 == i && q.2.category == 2))))) : lv_has lsB n (mv G (lset i v ls)) := by
  refine ⟨hB.1, hB.2.1, fun q hq => ?_⟩
  obtain ⟨q0, hm, rfl⟩ := List.mem_map.mp hq
  refine hB.2.2 _ ?_
  rcases lset_mem hm with e | ⟨e1, e2, e3, e4⟩
  · subst e; exact List.mem_cons_self
  · refine List.mem_cons_of_mem _ (List.mem_filter.mpr ⟨List.mem_map.mpr ⟨q0, e1, rfl⟩, ?_⟩)
    simp [sv_cat, e2, e3 hc]
    rcases Nat.decEq (q0.fst + 1) i with z | z
    · exact Or.inl z
    · exact Or.inr (fun z2 => e4 ⟨z, z2⟩)

theorem V_iconst {n : Int} {v : Int32} (hd : decode K.code pc = .ok (.iconst n, 1)) (hv : Int32.ofInt n = v) (kk : V l G K h0 (pc + 1) ls (.int v :: st) h r h') : V l G K h0 pc ls (st) h r h' := V_go kk (fun C hl _ _ w => lv_iconst C.1 C.2.1 hd hv w)
theorem V_bipush {n : Int} {v : Int32} (hd : decode K.code pc = .ok (.bipush n, 2)) (hv : (Int8.ofInt n).toInt32 = v) (kk : V l G K h0 (pc + 2) ls (.int v :: st) h r h') : V l G K h0 pc ls (st) h r h' := V_go kk (fun C hl _ _ w => lv_bipush C.1 C.2.1 hd hv w)
theorem V_sipush {n : Int} {v : Int32} (hd : decode K.code pc = .ok (.sipush n, 3)) (hv : (Int16.ofInt n).toInt32 = v) (kk : V l G K h0 (pc + 3) ls (.int v :: st) h r h') : V l G K h0 pc ls (st) h r h' := V_go kk (fun C hl _ _ w => lv_sipush C.1 C.2.1 hd hv w)
theorem V_lconst {n : Fin 2} {v : Int64} (hd : decode K.code pc = .ok (.lconst n, 1)) (hv : Int64.ofNat n = v) (kk : V l G K h0 (pc + 1) ls (.long v :: st) h r h') : V l G K h0 pc ls (st) h r h' := V_go kk (fun C hl _ _ w => lv_lconst C.1 C.2.1 hd hv w)
theorem V_ldc {ix : Nat} {v : Int32} (hd : decode K.code pc = .ok (.ldc ix, 2)) (hw : Cond.constant K.y.cls ix v ∈ tw) (kk : V l G K h0 (pc + 2) ls (.int v :: st) h r h') : V l G K h0 pc ls (st) h r h' := V_go kk (fun C hl _ _ w => lv_ldc C.1 C.2.1 C.2.2.2.2.2.1 (C.2.2.2.2.2.2.2.2.1 _ hw) hd w)
theorem V_ldc2 {ix : Nat} {v : Int64} (hd : decode K.code pc = .ok (.ldc2_w ix, 3)) (hw : Cond.constantLong K.y.cls ix v ∈ tw) (kk : V l G K h0 (pc + 3) ls (.long v :: st) h r h') : V l G K h0 pc ls (st) h r h' := V_go kk (fun C hl _ _ w => lv_ldc2 C.1 C.2.1 C.2.2.2.2.2.1 (C.2.2.2.2.2.2.2.2.1 _ hw) hd w)
theorem V_iload_n {k : Fin 4} {x : Int32} (hd : decode K.code pc = .ok (.iload_n k, 1)) (e : lg ls k = some (.int x)) (kk : V l G K h0 (pc + 1) ls (.int x :: st) h r h') : V l G K h0 pc ls (st) h r h' := V_go kk (fun C hl _ _ w => lv_iload_n C.1 C.2.1 hd rfl (lg_at hl e) w)
theorem V_iload {i : Nat} {x : Int32} (hd : decode K.code pc = .ok (.iload i, 2)) (e : lg ls i = some (.int x)) (kk : V l G K h0 (pc + 2) ls (.int x :: st) h r h') : V l G K h0 pc ls (st) h r h' := V_go kk (fun C hl _ _ w => lv_iload C.1 C.2.1 hd (lg_at hl e) w)
theorem V_lload_n {k : Fin 4} {x : Int64} (hd : decode K.code pc = .ok (.lload_n k, 1)) (e : lg ls k = some (.long x)) (kk : V l G K h0 (pc + 1) ls (.long x :: st) h r h') : V l G K h0 pc ls (st) h r h' := V_go kk (fun C hl _ _ w => lv_lload_n C.1 C.2.1 hd rfl (lg_at hl e) w)
theorem V_lload {i : Nat} {x : Int64} (hd : decode K.code pc = .ok (.lload i, 2)) (e : lg ls i = some (.long x)) (kk : V l G K h0 (pc + 2) ls (.long x :: st) h r h') : V l G K h0 pc ls (st) h r h' := V_go kk (fun C hl _ _ w => lv_lload C.1 C.2.1 hd (lg_at hl e) w)
theorem V_aload_n {k : Fin 4} {x : Nat} (hd : decode K.code pc = .ok (.aload_n k, 1)) (e : lg ls k = some (.ref x)) (kk : V l G K h0 (pc + 1) ls (.ref x :: st) h r h') : V l G K h0 pc ls st h r h' := by
  cases x with
  | zero => exact V_go kk (fun C hl _ _ w => lv_aload_n C.1 C.2.1 hd rfl (lg_at hl e) w)
  | succ x => exact V_go kk (fun C hl _ _ w => lv_aload_n C.1 C.2.1 hd rfl (lg_at hl e) w)
theorem V_aload {i : Nat} {x : Nat} (hd : decode K.code pc = .ok (.aload i, 2)) (e : lg ls i = some (.ref x)) (kk : V l G K h0 (pc + 2) ls (.ref x :: st) h r h') : V l G K h0 pc ls st h r h' := by
  cases x with
  | zero => exact V_go kk (fun C hl _ _ w => lv_aload C.1 C.2.1 hd (lg_at hl e) w)
  | succ x => exact V_go kk (fun C hl _ _ w => lv_aload C.1 C.2.1 hd (lg_at hl e) w)
theorem V_istore_n {k : Fin 4} {x : Int32} {ls' : List (Nat × Value)} (hd : decode K.code pc = .ok (.istore_n k, 1)) (hi : (k : Nat) < K.maxL) (e : lset k (.int x) ls = ls') (kk : V l G K h0 (pc + 1) ls' st h r h') : V l G K h0 pc ls (.int x :: st) h r h' := by
  subst e
  exact V_go1 kk (fun C hl w => lv_istore_n C.1 C.2.1 hd rfl hl hi rfl (fun lsB hB => w lsB (lset_has1 (v := .int x) rfl hB)))
theorem V_istore {i : Nat} {x : Int32} {ls' : List (Nat × Value)} (hd : decode K.code pc = .ok (.istore i, 2)) (hi : i < K.maxL) (e : lset i (.int x) ls = ls') (kk : V l G K h0 (pc + 2) ls' st h r h') : V l G K h0 pc ls (.int x :: st) h r h' := by
  subst e
  exact V_go1 kk (fun C hl w => lv_istore C.1 C.2.1 hd hl hi rfl (fun lsB hB => w lsB (lset_has1 (v := .int x) rfl hB)))
theorem V_lstore_n {k : Fin 4} {x : Int64} {ls' : List (Nat × Value)} (hd : decode K.code pc = .ok (.lstore_n k, 1)) (hi : (k : Nat) + 1 < K.maxL) (e : lset k (.long x) ls = ls') (kk : V l G K h0 (pc + 1) ls' st h r h') : V l G K h0 pc ls (.long x :: st) h r h' := by
  subst e
  exact V_go1 kk (fun C hl w => lv_lstore_n C.1 C.2.1 hd rfl hl hi rfl (fun lsB hB => w lsB (lset_has2 (v := .long x) rfl hB)))
theorem V_lstore {i : Nat} {x : Int64} {ls' : List (Nat × Value)} (hd : decode K.code pc = .ok (.lstore i, 2)) (hi : i + 1 < K.maxL) (e : lset i (.long x) ls = ls') (kk : V l G K h0 (pc + 2) ls' st h r h') : V l G K h0 pc ls (.long x :: st) h r h' := by
  subst e
  exact V_go1 kk (fun C hl w => lv_lstore C.1 C.2.1 hd hl hi rfl (fun lsB hB => w lsB (lset_has2 (v := .long x) rfl hB)))
theorem V_astore_n {k : Fin 4} {x : Nat} {ls' : List (Nat × Value)} (hd : decode K.code pc = .ok (.astore_n k, 1)) (hi : (k : Nat) < K.maxL) (e : lset k (.ref x) ls = ls') (kk : V l G K h0 (pc + 1) ls' st h r h') : V l G K h0 pc ls (.ref x :: st) h r h' := by
  subst e
  cases x with
  | zero => exact V_go1 kk (fun C hl w => lv_astore_n C.1 C.2.1 hd rfl hl hi rfl (fun lsB hB => w lsB (lset_has1 (v := .ref 0) rfl hB)))
  | succ x => exact V_go1 kk (fun C hl w => lv_astore_n C.1 C.2.1 hd rfl hl hi rfl (fun lsB hB => w lsB (lset_has1 (v := .ref (x + 1)) rfl hB)))
theorem V_astore {i : Nat} {x : Nat} {ls' : List (Nat × Value)} (hd : decode K.code pc = .ok (.astore i, 2)) (hi : i < K.maxL) (e : lset i (.ref x) ls = ls') (kk : V l G K h0 (pc + 2) ls' st h r h') : V l G K h0 pc ls (.ref x :: st) h r h' := by
  subst e
  cases x with
  | zero => exact V_go1 kk (fun C hl w => lv_astore C.1 C.2.1 hd hl hi rfl (fun lsB hB => w lsB (lset_has1 (v := .ref 0) rfl hB)))
  | succ x => exact V_go1 kk (fun C hl w => lv_astore C.1 C.2.1 hd hl hi rfl (fun lsB hB => w lsB (lset_has1 (v := .ref (x + 1)) rfl hB)))
theorem V_iinc {i : Nat} {n : Int} {x v : Int32} {ls' : List (Nat × Value)} (hd : decode K.code pc = .ok (.iinc i n, 3)) (e : lg ls i = some (.int x)) (hv : x + Int32.ofInt n = v) (hi : i < K.maxL) (e' : lset i (.int v) ls = ls') (kk : V l G K h0 (pc + 3) ls' st h r h') : V l G K h0 pc ls st h r h' := by
  subst e'
  obtain ⟨k, hk⟩ := List.getElem?_of_mem (lg_mem e)
  exact V_go1 kk (fun C hl w => lv_iinc C.1 C.2.1 hd hl (k := k) (by rw [List.getElem?_map, hk]; rfl) hv hi rfl (fun lsB hB => w lsB (lset_has1 (v := .int v) rfl hB)))
theorem ofInt1 : Int32.ofInt 1 = 1 := by decide
theorem V_iinc1 {i : Nat} {x : Int32} {ls' : List (Nat × Value)} (hd : decode K.code pc = .ok (.iinc i 1, 3)) (e : lg ls i = some (.int x)) (hi : i < K.maxL) (e' : lset i (.int (x + 1)) ls = ls') (kk : V l G K h0 (pc + 3) ls' st h r h') : V l G K h0 pc ls st h r h' := V_iinc hd e (by rw [ofInt1]) hi e' kk
theorem V_iadd {x y : Int32} (hd : decode K.code pc = .ok (.iadd, 1))  (kk : V l G K h0 (pc + 1) ls (.int (x + y) :: st) h r h') : V l G K h0 pc ls (.int y :: .int x :: st) h r h' := V_go kk (fun C hl _ _ w => lv_iadd C.1 C.2.1 hd w)
theorem V_isub {x y : Int32} (hd : decode K.code pc = .ok (.isub, 1))  (kk : V l G K h0 (pc + 1) ls (.int (x - y) :: st) h r h') : V l G K h0 pc ls (.int y :: .int x :: st) h r h' := V_go kk (fun C hl _ _ w => lv_isub C.1 C.2.1 hd w)
theorem V_imul {x y : Int32} (hd : decode K.code pc = .ok (.imul, 1))  (kk : V l G K h0 (pc + 1) ls (.int (x * y) :: st) h r h') : V l G K h0 pc ls (.int y :: .int x :: st) h r h' := V_go kk (fun C hl _ _ w => lv_imul C.1 C.2.1 hd w)
theorem V_iand {x y : Int32} (hd : decode K.code pc = .ok (.iand, 1))  (kk : V l G K h0 (pc + 1) ls (.int (x &&& y) :: st) h r h') : V l G K h0 pc ls (.int y :: .int x :: st) h r h' := V_go kk (fun C hl _ _ w => lv_iand C.1 C.2.1 hd w)
theorem V_ior {x y : Int32} (hd : decode K.code pc = .ok (.ior, 1))  (kk : V l G K h0 (pc + 1) ls (.int (x ||| y) :: st) h r h') : V l G K h0 pc ls (.int y :: .int x :: st) h r h' := V_go kk (fun C hl _ _ w => lv_ior C.1 C.2.1 hd w)
theorem V_ixor {x y : Int32} (hd : decode K.code pc = .ok (.ixor, 1))  (kk : V l G K h0 (pc + 1) ls (.int (x ^^^ y) :: st) h r h') : V l G K h0 pc ls (.int y :: .int x :: st) h r h' := V_go kk (fun C hl _ _ w => lv_ixor C.1 C.2.1 hd w)
theorem V_ladd {x y : Int64} (hd : decode K.code pc = .ok (.ladd, 1))  (kk : V l G K h0 (pc + 1) ls (.long (x + y) :: st) h r h') : V l G K h0 pc ls (.long y :: .long x :: st) h r h' := V_go kk (fun C hl _ _ w => lv_ladd C.1 C.2.1 hd w)
theorem V_lsub {x y : Int64} (hd : decode K.code pc = .ok (.lsub, 1))  (kk : V l G K h0 (pc + 1) ls (.long (x - y) :: st) h r h') : V l G K h0 pc ls (.long y :: .long x :: st) h r h' := V_go kk (fun C hl _ _ w => lv_lsub C.1 C.2.1 hd w)
theorem V_lmul {x y : Int64} (hd : decode K.code pc = .ok (.lmul, 1))  (kk : V l G K h0 (pc + 1) ls (.long (x * y) :: st) h r h') : V l G K h0 pc ls (.long y :: .long x :: st) h r h' := V_go kk (fun C hl _ _ w => lv_lmul C.1 C.2.1 hd w)
theorem V_land {x y : Int64} (hd : decode K.code pc = .ok (.land, 1))  (kk : V l G K h0 (pc + 1) ls (.long (x &&& y) :: st) h r h') : V l G K h0 pc ls (.long y :: .long x :: st) h r h' := V_go kk (fun C hl _ _ w => lv_land C.1 C.2.1 hd w)
theorem V_lor {x y : Int64} (hd : decode K.code pc = .ok (.lor, 1))  (kk : V l G K h0 (pc + 1) ls (.long (x ||| y) :: st) h r h') : V l G K h0 pc ls (.long y :: .long x :: st) h r h' := V_go kk (fun C hl _ _ w => lv_lor C.1 C.2.1 hd w)
theorem V_lxor {x y : Int64} (hd : decode K.code pc = .ok (.lxor, 1))  (kk : V l G K h0 (pc + 1) ls (.long (x ^^^ y) :: st) h r h') : V l G K h0 pc ls (.long y :: .long x :: st) h r h' := V_go kk (fun C hl _ _ w => lv_lxor C.1 C.2.1 hd w)
theorem V_idiv {x y : Int32} (hd : decode K.code pc = .ok (.idiv, 1)) (hne : ¬ y = 0) (kk : V l G K h0 (pc + 1) ls (.int (x / y) :: st) h r h') : V l G K h0 pc ls (.int y :: .int x :: st) h r h' := V_go kk (fun C hl _ _ w => lv_idiv C.1 C.2.1 hd hne w)
theorem V_irem {x y : Int32} (hd : decode K.code pc = .ok (.irem, 1)) (hne : ¬ y = 0) (kk : V l G K h0 (pc + 1) ls (.int (x - x / y * y) :: st) h r h') : V l G K h0 pc ls (.int y :: .int x :: st) h r h' := V_go kk (fun C hl _ _ w => lv_irem C.1 C.2.1 hd hne w)
theorem V_ldiv {x y : Int64} (hd : decode K.code pc = .ok (.ldiv, 1)) (hne : ¬ y = 0) (kk : V l G K h0 (pc + 1) ls (.long (x / y) :: st) h r h') : V l G K h0 pc ls (.long y :: .long x :: st) h r h' := V_go kk (fun C hl _ _ w => lv_ldiv C.1 C.2.1 hd hne w)
theorem V_lrem {x y : Int64} (hd : decode K.code pc = .ok (.lrem, 1)) (hne : ¬ y = 0) (kk : V l G K h0 (pc + 1) ls (.long (x - x / y * y) :: st) h r h') : V l G K h0 pc ls (.long y :: .long x :: st) h r h' := V_go kk (fun C hl _ _ w => lv_lrem C.1 C.2.1 hd hne w)
theorem V_ineg {x : Int32} (hd : decode K.code pc = .ok (.ineg, 1))  (kk : V l G K h0 (pc + 1) ls (.int (-x) :: st) h r h') : V l G K h0 pc ls (.int x :: st) h r h' := V_go kk (fun C hl _ _ w => lv_ineg C.1 C.2.1 hd w)
theorem V_lneg {x : Int64} (hd : decode K.code pc = .ok (.lneg, 1))  (kk : V l G K h0 (pc + 1) ls (.long (-x) :: st) h r h') : V l G K h0 pc ls (.long x :: st) h r h' := V_go kk (fun C hl _ _ w => lv_lneg C.1 C.2.1 hd w)
theorem V_lshl {x v : Int64} {y : Int32} (hd : decode K.code pc = .ok (.lshl, 1)) (hv : x <<< (y.toInt64 &&& 63) = v) (kk : V l G K h0 (pc + 1) ls (.long v :: st) h r h') : V l G K h0 pc ls (.int y :: .long x :: st) h r h' := V_go kk (fun C hl _ _ w => lv_lshl C.1 C.2.1 hd hv w)
theorem V_i2l {x : Int32} (hd : decode K.code pc = .ok (.i2l, 1))  (kk : V l G K h0 (pc + 1) ls (.long x.toInt64 :: st) h r h') : V l G K h0 pc ls (.int x :: st) h r h' := V_go kk (fun C hl _ _ w => lv_i2l C.1 C.2.1 hd rfl w)
theorem V_l2i {x : Int64} (hd : decode K.code pc = .ok (.l2i, 1))  (kk : V l G K h0 (pc + 1) ls (.int x.toInt32 :: st) h r h') : V l G K h0 pc ls (.long x :: st) h r h' := V_go kk (fun C hl _ _ w => lv_l2i C.1 C.2.1 hd rfl w)
theorem V_lcmp {x y : Int64} (hd : decode K.code pc = .ok (.lcmp, 1))  (kk : V l G K h0 (pc + 1) ls (.int (lg_cmp x y) :: st) h r h') : V l G K h0 pc ls (.long y :: .long x :: st) h r h' := V_go kk (fun C hl _ _ w => W.lcmp C.1 C.2.1 hd w)
theorem V_dup {v : Value} (hd : decode K.code pc = .ok (.dup, 1)) (hc : v.category = 1) (kk : V l G K h0 (pc + 1) ls (v :: v :: st) h r h') : V l G K h0 pc ls (v :: st) h r h' := V_go kk (fun C hl _ _ w => lv_dup C.1 C.2.1 hd (by rw [sv_cat]; exact hc) w)
theorem V_pop {v : Value} (hd : decode K.code pc = .ok (.pop, 1)) (hc : v.category = 1) (kk : V l G K h0 (pc + 1) ls (st) h r h') : V l G K h0 pc ls (v :: st) h r h' := V_go kk (fun C hl _ _ w => lv_pop C.1 C.2.1 hd (by rw [sv_cat]; exact hc) w)
theorem V_dup_x1 {v u : Value} (hd : decode K.code pc = .ok (.dup_x1, 1)) (hc : v.category = 1) (hu : u.category = 1) (kk : V l G K h0 (pc + 1) ls (v :: u :: v :: st) h r h') : V l G K h0 pc ls (v :: u :: st) h r h' := V_go kk (fun C hl _ _ w => lv_dup_x1 C.1 C.2.1 hd (by rw [sv_cat]; exact hc) (by rw [sv_cat]; exact hu) w)
theorem V_dup_x2 {v u t : Value} (hd : decode K.code pc = .ok (.dup_x2, 1)) (hc : v.category = 1) (hu : u.category = 1) (ht : t.category = 1) (kk : V l G K h0 (pc + 1) ls (v :: u :: t :: v :: st) h r h') : V l G K h0 pc ls (v :: u :: t :: st) h r h' := V_go kk (fun C hl _ _ w => lv_dup_x2 C.1 C.2.1 hd (by rw [sv_cat]; exact hc) (by rw [sv_cat]; exact hu) (by rw [sv_cat]; exact ht) w)
theorem V_dup2 {v u : Value} (hd : decode K.code pc = .ok (.dup2, 1)) (hc : v.category = 1) (hu : u.category = 1) (kk : V l G K h0 (pc + 1) ls (v :: u :: v :: u :: st) h r h') : V l G K h0 pc ls (v :: u :: st) h r h' := V_go kk (fun C hl _ _ w => lv_dup2_11 C.1 C.2.1 hd (by rw [sv_cat]; exact hc) (by rw [sv_cat]; exact hu) w)
theorem V_if_eq {x : Int32} {off : Int} {tgt : Nat} (hd : decode K.code pc = .ok (.ifCond .eq off, 3)) (ht : (pc : Int) + off = (tgt : Int)) (kt : x = 0 → V l G K h0 tgt ls st h r h') (kf : ¬ (x = 0) → V l G K h0 (pc + 3) ls st h r h') : V l G K h0 pc ls (.int x :: st) h r h' := by
  rcases Classical.em (x = 0) with e | e
  · exact V_go (kt e) (fun C hl _ _ w => lv_if_eq C.1 C.2.1 hd ht (fun _ => w) (fun q => absurd e q))
  · exact V_go (kf e) (fun C hl _ _ w => lv_if_eq C.1 C.2.1 hd ht (fun q => absurd q e) (fun _ => w))
theorem V_icmp_eq {x y : Int32} {off : Int} {tgt : Nat} (hd : decode K.code pc = .ok (.if_icmp .eq off, 3)) (ht : (pc : Int) + off = (tgt : Int)) (kt : x = y → V l G K h0 tgt ls st h r h') (kf : ¬ (x = y) → V l G K h0 (pc + 3) ls st h r h') : V l G K h0 pc ls (.int y :: .int x :: st) h r h' := by
  rcases Classical.em (x = y) with e | e
  · exact V_go (kt e) (fun C hl _ _ w => lv_icmp_eq C.1 C.2.1 hd ht (fun _ => w) (fun q => absurd e q))
  · exact V_go (kf e) (fun C hl _ _ w => lv_icmp_eq C.1 C.2.1 hd ht (fun q => absurd q e) (fun _ => w))
theorem V_if_ne {x : Int32} {off : Int} {tgt : Nat} (hd : decode K.code pc = .ok (.ifCond .ne off, 3)) (ht : (pc : Int) + off = (tgt : Int)) (kt : ¬ x = 0 → V l G K h0 tgt ls st h r h') (kf : x = 0 → V l G K h0 (pc + 3) ls st h r h') : V l G K h0 pc ls (.int x :: st) h r h' := by
  rcases Classical.em (¬ x = 0) with e | e
  · exact V_go (kt e) (fun C hl _ _ w => lv_if_ne C.1 C.2.1 hd ht (fun _ => w) (fun q => absurd q e))
  · exact V_go (kf (Classical.not_not.mp e)) (fun C hl _ _ w => lv_if_ne C.1 C.2.1 hd ht (fun q => absurd q e) (fun _ => w))
theorem V_icmp_ne {x y : Int32} {off : Int} {tgt : Nat} (hd : decode K.code pc = .ok (.if_icmp .ne off, 3)) (ht : (pc : Int) + off = (tgt : Int)) (kt : ¬ x = y → V l G K h0 tgt ls st h r h') (kf : x = y → V l G K h0 (pc + 3) ls st h r h') : V l G K h0 pc ls (.int y :: .int x :: st) h r h' := by
  rcases Classical.em (¬ x = y) with e | e
  · exact V_go (kt e) (fun C hl _ _ w => lv_icmp_ne C.1 C.2.1 hd ht (fun _ => w) (fun q => absurd q e))
  · exact V_go (kf (Classical.not_not.mp e)) (fun C hl _ _ w => lv_icmp_ne C.1 C.2.1 hd ht (fun q => absurd q e) (fun _ => w))
theorem V_if_lt {x : Int32} {off : Int} {tgt : Nat} (hd : decode K.code pc = .ok (.ifCond .lt off, 3)) (ht : (pc : Int) + off = (tgt : Int)) (kt : x < 0 → V l G K h0 tgt ls st h r h') (kf : ¬ (x < 0) → V l G K h0 (pc + 3) ls st h r h') : V l G K h0 pc ls (.int x :: st) h r h' := by
  rcases Classical.em (x < 0) with e | e
  · exact V_go (kt e) (fun C hl _ _ w => lv_if_lt C.1 C.2.1 hd ht (fun _ => w) (fun q => absurd e q))
  · exact V_go (kf e) (fun C hl _ _ w => lv_if_lt C.1 C.2.1 hd ht (fun q => absurd q e) (fun _ => w))
theorem V_icmp_lt {x y : Int32} {off : Int} {tgt : Nat} (hd : decode K.code pc = .ok (.if_icmp .lt off, 3)) (ht : (pc : Int) + off = (tgt : Int)) (kt : x < y → V l G K h0 tgt ls st h r h') (kf : ¬ (x < y) → V l G K h0 (pc + 3) ls st h r h') : V l G K h0 pc ls (.int y :: .int x :: st) h r h' := by
  rcases Classical.em (x < y) with e | e
  · exact V_go (kt e) (fun C hl _ _ w => lv_icmp_lt C.1 C.2.1 hd ht (fun _ => w) (fun q => absurd e q))
  · exact V_go (kf e) (fun C hl _ _ w => lv_icmp_lt C.1 C.2.1 hd ht (fun q => absurd q e) (fun _ => w))
theorem V_if_ge {x : Int32} {off : Int} {tgt : Nat} (hd : decode K.code pc = .ok (.ifCond .ge off, 3)) (ht : (pc : Int) + off = (tgt : Int)) (kt : 0 ≤ x → V l G K h0 tgt ls st h r h') (kf : ¬ (0 ≤ x) → V l G K h0 (pc + 3) ls st h r h') : V l G K h0 pc ls (.int x :: st) h r h' := by
  rcases Classical.em (0 ≤ x) with e | e
  · exact V_go (kt e) (fun C hl _ _ w => lv_if_ge C.1 C.2.1 hd ht (fun _ => w) (fun q => absurd e q))
  · exact V_go (kf e) (fun C hl _ _ w => lv_if_ge C.1 C.2.1 hd ht (fun q => absurd q e) (fun _ => w))
theorem V_icmp_ge {x y : Int32} {off : Int} {tgt : Nat} (hd : decode K.code pc = .ok (.if_icmp .ge off, 3)) (ht : (pc : Int) + off = (tgt : Int)) (kt : y ≤ x → V l G K h0 tgt ls st h r h') (kf : ¬ (y ≤ x) → V l G K h0 (pc + 3) ls st h r h') : V l G K h0 pc ls (.int y :: .int x :: st) h r h' := by
  rcases Classical.em (y ≤ x) with e | e
  · exact V_go (kt e) (fun C hl _ _ w => lv_icmp_ge C.1 C.2.1 hd ht (fun _ => w) (fun q => absurd e q))
  · exact V_go (kf e) (fun C hl _ _ w => lv_icmp_ge C.1 C.2.1 hd ht (fun q => absurd q e) (fun _ => w))
theorem V_if_gt {x : Int32} {off : Int} {tgt : Nat} (hd : decode K.code pc = .ok (.ifCond .gt off, 3)) (ht : (pc : Int) + off = (tgt : Int)) (kt : 0 < x → V l G K h0 tgt ls st h r h') (kf : ¬ (0 < x) → V l G K h0 (pc + 3) ls st h r h') : V l G K h0 pc ls (.int x :: st) h r h' := by
  rcases Classical.em (0 < x) with e | e
  · exact V_go (kt e) (fun C hl _ _ w => lv_if_gt C.1 C.2.1 hd ht (fun _ => w) (fun q => absurd e q))
  · exact V_go (kf e) (fun C hl _ _ w => lv_if_gt C.1 C.2.1 hd ht (fun q => absurd q e) (fun _ => w))
theorem V_icmp_gt {x y : Int32} {off : Int} {tgt : Nat} (hd : decode K.code pc = .ok (.if_icmp .gt off, 3)) (ht : (pc : Int) + off = (tgt : Int)) (kt : y < x → V l G K h0 tgt ls st h r h') (kf : ¬ (y < x) → V l G K h0 (pc + 3) ls st h r h') : V l G K h0 pc ls (.int y :: .int x :: st) h r h' := by
  rcases Classical.em (y < x) with e | e
  · exact V_go (kt e) (fun C hl _ _ w => lv_icmp_gt C.1 C.2.1 hd ht (fun _ => w) (fun q => absurd e q))
  · exact V_go (kf e) (fun C hl _ _ w => lv_icmp_gt C.1 C.2.1 hd ht (fun q => absurd q e) (fun _ => w))
theorem V_if_le {x : Int32} {off : Int} {tgt : Nat} (hd : decode K.code pc = .ok (.ifCond .le off, 3)) (ht : (pc : Int) + off = (tgt : Int)) (kt : x ≤ 0 → V l G K h0 tgt ls st h r h') (kf : ¬ (x ≤ 0) → V l G K h0 (pc + 3) ls st h r h') : V l G K h0 pc ls (.int x :: st) h r h' := by
  rcases Classical.em (x ≤ 0) with e | e
  · exact V_go (kt e) (fun C hl _ _ w => lv_if_le C.1 C.2.1 hd ht (fun _ => w) (fun q => absurd e q))
  · exact V_go (kf e) (fun C hl _ _ w => lv_if_le C.1 C.2.1 hd ht (fun q => absurd q e) (fun _ => w))
theorem V_icmp_le {x y : Int32} {off : Int} {tgt : Nat} (hd : decode K.code pc = .ok (.if_icmp .le off, 3)) (ht : (pc : Int) + off = (tgt : Int)) (kt : x ≤ y → V l G K h0 tgt ls st h r h') (kf : ¬ (x ≤ y) → V l G K h0 (pc + 3) ls st h r h') : V l G K h0 pc ls (.int y :: .int x :: st) h r h' := by
  rcases Classical.em (x ≤ y) with e | e
  · exact V_go (kt e) (fun C hl _ _ w => lv_icmp_le C.1 C.2.1 hd ht (fun _ => w) (fun q => absurd e q))
  · exact V_go (kf e) (fun C hl _ _ w => lv_icmp_le C.1 C.2.1 hd ht (fun q => absurd q e) (fun _ => w))
theorem V_goto {off : Int} {tgt : Nat} (hd : decode K.code pc = .ok (.goto off, 3)) (ht : (pc : Int) + off = (tgt : Int)) (kk : V l G K h0 tgt ls st h r h') : V l G K h0 pc ls st h r h' := V_go kk (fun C hl _ _ w => lv_goto C.1 C.2.1 hd ht w)
theorem V_swIn {dflt lo hi : Int} {offs : Array Int} {len : Nat} {x : Int32} {off : Int} {tgt : Nat} (hd : decode K.code pc = .ok (.tableswitch dflt lo hi offs, len)) (h1 : ¬ x.toInt < lo) (h2 : ¬ hi < x.toInt) (ho : offs[(x.toInt - lo).toNat]? = some off) (ht : (pc : Int) + off = (tgt : Int)) (kk : V l G K h0 tgt ls st h r h') : V l G K h0 pc ls (.int x :: st) h r h' := V_go kk (fun C hl _ _ w => lv_tableIn C.1 C.2.1 hd h1 h2 ho ht w)
theorem V_swOut {dflt lo hi : Int} {offs : Array Int} {len : Nat} {x : Int32} {tgt : Nat} (hd : decode K.code pc = .ok (.tableswitch dflt lo hi offs, len)) (h1 : x.toInt < lo ∨ hi < x.toInt) (ht : (pc : Int) + dflt = (tgt : Int)) (kk : V l G K h0 tgt ls st h r h') : V l G K h0 pc ls (.int x :: st) h r h' := V_go kk (fun C hl _ _ w => lv_tableOut C.1 C.2.1 hd h1 ht w)
end R3
end
section
section R4
variable {l : Launch} {G : Gb} {K : Kt} {h0 : List Ce} {pc : Nat} {ls : List (Nat × Value)} {st : List Value} {h : List Ce} {r : Rs} {h' : List Ce}
theorem Cx.tw {p : Program} {s : State} {m : MethodId} {args : Array Value} {meth : Method} {c : Code} (X : Cx G K p s m args meth c) : ∀ w ∈ tw, w.before args s = true := X.2.2.2.2.2.2.2.2.1
theorem Cx.own {p : Program} {s : State} {m : MethodId} {args : Array Value} {meth : Method} {c : Code} (X : Cx G K p s m args meth c) : s.vm.findClass K.y.cls = some m.cls := X.2.2.2.2.2.1
theorem Cx.kn {p : Program} {s : State} {m : MethodId} {args : Array Value} {meth : Method} {c : Code} (X : Cx G K p s m args meth c) : va_K G.D cls (tyl G) s := X.2.2.2.2.2.2.2.2.2.1
theorem Cx.ev {p : Program} {s : State} {m : MethodId} {args : Array Value} {meth : Method} {c : Code} (X : Cx G K p s m args meth c) : Ev G s s.heap := X.2.2.2.2.2.2.2.2.2.2.1
theorem Cx.scr {p : Program} {s : State} {m : MethodId} {args : Array Value} {meth : Method} {c : Code} (X : Cx G K p s m args meth c) : va_X G.scr G.L G.xs s s.heap ∧ G.scr < G.b ∧ G.b ≤ s.heap.size := X.2.2.2.2.2.2.2.2.2.2.2
/-- the heap's size at a point of the walk -/
theorem sz_of {p : Program} {e : Env} {R : Room} {s : State} {m : MethodId} {args : Array Value} {below : List Frame} {meth : Method} {c : Code} {T : State} {locs : List Loc} {slots : Nat} (X : Stand p l e R s m args below meth c T locs (h.length - h0.length) slots) (hs : s.heap.size = G.b + h0.length) (hle : h0.length ≤ h.length) (hP : va_P G.D cls (wl G h) T.heap) : T.heap.size = G.b + h.length := by
  have h1 := X.heapSize
  have h2 : s.heap.size ≤ T.heap.size := X.same.2.1
  rcases Nat.eq_or_lt_of_le hle with q | q
  · omega
  · obtain ⟨c, hc'⟩ : ∃ c, h[h.length - 1]? = some c := ⟨_, List.getElem?_eq_getElem (by omega)⟩
    have h3 := (hP _ _ (wl_at (G := G) hc')).lt
    have h4 : G.b + (h.length - 1) < T.heap.size := h3
    omega
theorem V_get {ix a ci j N : Nat} {ref C : String} {T : u_T} {fs : List Value} {v : Value} (hd : decode K.code pc = .ok (.getfield ix, 3)) (hlink : Cond.fieldLink K.y.cls ix ref (T j).2.1 (T j).2.2.1 ∈ tw) (hin : ∀ w ∈ u_ws C T N, w ∈ tw) (hr : (T j).1 = ref) (hcell : h[a]? = some (.inr (ci, fs))) (hc : cls[ci]? = some (C, T, N)) (hj : j < N) (hv : fs[j]? = some v) (kk : V l G K h0 (pc + 3) ls (v :: st) h r h') : V l G K h0 pc ls (.ref (a + 1) :: st) h r h' :=
  V_go kk (fun X hl hP hS w => va_get X.1 X.2.1 X.tw hin X.own X.kn hP a (wl_at hcell) hc j hj (X.tw _ hlink) (by subst hr; exact fun _ h => h) (v := sv G v) (by simp [hv]) hd w)
theorem V_put {ix a ci j N : Nat} {ref C : String} {T : u_T} {fs : List Value} {v : Value} (tyf : Nat → FieldType) (hty : ∀ k, k < N → parseFieldDescriptor (T k).2.2.1 = some (tyf k)) (hnm : ∀ a, a < N → ∀ b, b < N → a ≠ b → (T a).2.1 ≠ (T b).2.1) (hd : decode K.code pc = .ok (.putfield ix, 3)) (hlink : Cond.fieldLink K.y.cls ix ref (T j).2.1 (T j).2.2.1 ∈ tw) (hin : ∀ w ∈ u_ws C T N, w ∈ tw) (hr : (T j).1 = ref) (hfin : (T j).2.2.2 = false) (hcell : h[a]? = some (.inr (ci, fs))) (hc : cls[ci]? = some (C, T, N)) (hj : j < N) (hn : narrow (tyf j) (sv G v) = sv G v) (hf : fits (tyf j) (sv G v) = true) (hl' : j < fs.length) (kk : V l G K h0 (pc + 3) ls st (h.set a (.inr (ci, fs.set j v))) r h') : V l G K h0 pc ls (v :: .ref (a + 1) :: st) h r h' := by
  have es : sl (h.set a (.inr (ci, fs.set j v))) = sl h := sl_set h a _ _ hcell rfl
  refine ⟨by have := kk.1; rwa [List.length_set] at this, by have := kk.2.1; rwa [es] at this, ?_⟩
  intro p e s m args below meth c H locs lsA X hP a1 a2 a3 a4 hl
  refine va_put X.1 X.2.1 X.tw hin tyf hty hnm X.own X.kn hP (wl_D G h) a4 a (wl_at hcell) hc j hj (X.tw _ hlink) (by subst hr; exact fun _ h => h) hfin (hty j hj) hn hf (by rw [List.length_map]; exact hl') hd (fun H1 locs1 hP1 _ hS1 => ?_)
  have w := kk.2.2 (e := e) (below := below) (H := H1) (locs := locs1) X (by rw [← wl_set]; show va_P _ _ ((wl G h).set a (G.b + a, .inr (ci, (fs.set j v).map (sv G)))) H1; rw [List.map_set]; exact hP1) a1 (by rw [List.length_set]; exact a2) (by rw [es]; exact a3) hS1 hl
  rw [List.length_set, es] at w
  exact w
theorem V_putF {ix a ci j N : Nat} {ref C : String} {T : u_T} {fs : List Value} {v : Value} (tyf : Nat → FieldType) (hty : ∀ k, k < N → parseFieldDescriptor (T k).2.2.1 = some (tyf k)) (hnm : ∀ a, a < N → ∀ b, b < N → a ≠ b → (T a).2.1 ≠ (T b).2.1) (hd : decode K.code pc = .ok (.putfield ix, 3)) (hlink : Cond.fieldLink K.y.cls ix ref (T j).2.1 (T j).2.2.1 ∈ tw) (hin : ∀ w ∈ u_ws C T N, w ∈ tw) (hr : (T j).1 = ref) (hfin : (T j).2.2.2 = true) (hini : K.y.name = "<init>") (how : (T j).1 = K.y.cls) (hcell : h[a]? = some (.inr (ci, fs))) (hc : cls[ci]? = some (C, T, N)) (hj : j < N) (hn : narrow (tyf j) (sv G v) = sv G v) (hf : fits (tyf j) (sv G v) = true) (hl' : j < fs.length) (kk : V l G K h0 (pc + 3) ls st (h.set a (.inr (ci, fs.set j v))) r h') : V l G K h0 pc ls (v :: .ref (a + 1) :: st) h r h' := by
  have es : sl (h.set a (.inr (ci, fs.set j v))) = sl h := sl_set h a _ _ hcell rfl
  refine ⟨by have := kk.1; rwa [List.length_set] at this, by have := kk.2.1; rwa [es] at this, ?_⟩
  intro p e s m args below meth c H locs lsA X hP a1 a2 a3 a4 hl
  refine va_putF X.1 X.2.1 X.tw hin tyf hty hnm X.own X.kn hP (wl_D G h) a4 a (wl_at hcell) hc j hj (X.tw _ hlink) (by subst hr; exact fun _ h => h) hfin (X.2.2.2.2.2.2.1.trans hini) how (hty j hj) hn hf (by rw [List.length_map]; exact hl') hd (fun H1 locs1 hP1 _ hS1 => ?_)
  have w := kk.2.2 (e := e) (below := below) (H := H1) (locs := locs1) X (by rw [← wl_set]; show va_P _ _ ((wl G h).set a (G.b + a, .inr (ci, (fs.set j v).map (sv G)))) H1; rw [List.map_set]; exact hP1) a1 (by rw [List.length_set]; exact a2) (by rw [es]; exact a3) hS1 hl
  rw [List.length_set, es] at w
  exact w
theorem V_iald {a N : Nat} {f : Nat → Int32} {i : Int32} (hd : decode K.code pc = .ok (.iaload, 1)) (hcell : h[a]? = some (.inl (.int, N, .inl f))) (hi : vp_in i N) (kk : V l G K h0 (pc + 1) ls (.int (f i.toNatClampNeg) :: st) h r h') : V l G K h0 pc ls (.int i :: .ref (a + 1) :: st) h r h' :=
  V_go kk (fun X hl hP hS w => va_iald X.1 X.2.1 X.kn hP a 0 (wl_at hcell) rfl hi hd w)
theorem V_zald {a N : Nat} {f : Nat → Int32} {i : Int32} (hd : decode K.code pc = .ok (.baload, 1)) (hcell : h[a]? = some (.inl (.boolean, N, .inl f))) (hi : vp_in i N) (kk : V l G K h0 (pc + 1) ls (.int (f i.toNatClampNeg) :: st) h r h') : V l G K h0 pc ls (.int i :: .ref (a + 1) :: st) h r h' :=
  V_go kk (fun X hl hP hS w => va_zald X.1 X.2.1 X.kn hP a 1 (wl_at hcell) rfl hi hd w)
theorem V_lald {a N : Nat} {f : Nat → Int64} {i : Int32} (hd : decode K.code pc = .ok (.laload, 1)) (hcell : h[a]? = some (.inl (.long, N, .inr (.inl f)))) (hi : vp_in i N) (kk : V l G K h0 (pc + 1) ls (.long (f i.toNatClampNeg) :: st) h r h') : V l G K h0 pc ls (.int i :: .ref (a + 1) :: st) h r h' :=
  V_go kk (fun X hl hP hS w => va_lald X.1 X.2.1 X.kn hP a 2 (wl_at hcell) rfl hi hd w)
theorem V_sld {i : Int32} (hd : decode K.code pc = .ok (.iaload, 1)) (hi : vp_in i G.L) (kk : V l G K h0 (pc + 1) ls (.int (G.xs i.toNatClampNeg) :: st) h r h') : V l G K h0 pc ls (.int i :: .ref 0 :: st) h r h' :=
  V_go kk (fun X hl hP hS w => va_sld X.1 X.2.1 X.scr.1 (Nat.lt_of_lt_of_le X.scr.2.1 X.scr.2.2) (Nat.not_le.mpr X.scr.2.1) hS hi hd w)
theorem V_slen (hd : decode K.code pc = .ok (.arraylength, 1)) (kk : V l G K h0 (pc + 1) ls (.int (nI G.L) :: st) h r h') : V l G K h0 pc ls (.ref 0 :: st) h r h' :=
  V_go kk (fun X hl hP hS w => va_slen X.1 X.2.1 X.scr.1 (Nat.lt_of_lt_of_le X.scr.2.1 X.scr.2.2) (Nat.not_le.mpr X.scr.2.1) hS hd w)
theorem V_ialen {a N : Nat} {f : Nat → Int32} (hd : decode K.code pc = .ok (.arraylength, 1)) (hcell : h[a]? = some (.inl (.int, N, .inl f))) (kk : V l G K h0 (pc + 1) ls (.int (nI N) :: st) h r h') : V l G K h0 pc ls (.ref (a + 1) :: st) h r h' :=
  V_go kk (fun X hl hP hS w => va_alen X.1 X.2.1 X.kn hP a 0 (wl_at hcell) (ty := .int) rfl rfl hd w)
/-- an array's contents are written -/
theorem V_wr {pc' a : Nat} {c c' : Ce} {st' : List Value} (hcell : h[a]? = some c) (e1 : sl1 c' = sl1 c) (kk : V l G K h0 pc' ls st' (h.set a c') r h') (f : ∀ {p : Program} {e : Env} {R : Room} {s : State} {m : MethodId} {args : Array Value} {below : List Frame} {meth : Method} {c0 : Code} {H : Heap} {locs : List Loc} {cells slots : Nat} {Q : State → Prop} {lsA : Array Slot}, Cx G K p s m args meth c0 → lv_has lsA K.maxL (mv G ls) → va_P G.D cls (wl G h) H → va_S (Ar G) s.heap H locs → (∀ (H1 : Heap) (locs1 : List Loc), va_P G.D cls ((wl G h).set a (G.b + a, cv G c')) H1 → va_S (Ar G) s.heap H1 locs1 → W p l e R s m args below meth c0 H1 locs1 cells slots Q (F0 m pc' lsA (st'.map (sv G)))) → W p l e R s m args below meth c0 H locs cells slots Q (F0 m pc lsA (st.map (sv G)))) : V l G K h0 pc ls st h r h' := by
  have es : sl (h.set a c') = sl h := sl_set h a _ _ hcell e1
  refine ⟨by have := kk.1; rwa [List.length_set] at this, by have := kk.2.1; rwa [es] at this, ?_⟩
  intro p e s m args below meth c H locs lsA X hP a1 a2 a3 a4 hl
  refine f X hl hP a4 (fun H1 locs1 hP1 hS1 => ?_)
  have w := kk.2.2 (e := e) (below := below) (H := H1) (locs := locs1) X (by rw [← wl_set]; exact hP1) a1 (by rw [List.length_set]; exact a2) (by rw [es]; exact a3) hS1 hl
  rw [List.length_set, es] at w
  exact w
theorem V_iast {a N : Nat} {f : Nat → Int32} {i x : Int32} (hd : decode K.code pc = .ok (.iastore, 1)) (hcell : h[a]? = some (.inl (.int, N, .inl f))) (hi : vp_in i N) (kk : V l G K h0 (pc + 1) ls st (h.set a (.inl (.int, N, .inl (upd f i.toNatClampNeg x)))) r h') : V l G K h0 pc ls (.int x :: .int i :: .ref (a + 1) :: st) h r h' :=
  V_wr (c' := .inl (.int, N, .inl (upd f i.toNatClampNeg x))) hcell rfl kk (fun X hl hP hS w => va_iast X.1 X.2.1 X.kn hP (wl_D G h) hS a 0 (wl_at hcell) rfl hi hd (fun H1 locs1 hP1 _ hS1 => w H1 locs1 hP1 hS1))
theorem V_zast {a N : Nat} {f : Nat → Int32} {i x : Int32} (hd : decode K.code pc = .ok (.bastore, 1)) (hcell : h[a]? = some (.inl (.boolean, N, .inl f))) (hi : vp_in i N) (hx : vp_nar .boolean x = x) (kk : V l G K h0 (pc + 1) ls st (h.set a (.inl (.boolean, N, .inl (upd f i.toNatClampNeg x)))) r h') : V l G K h0 pc ls (.int x :: .int i :: .ref (a + 1) :: st) h r h' :=
  V_wr (c' := .inl (.boolean, N, .inl (upd f i.toNatClampNeg x))) hcell rfl kk (fun X hl hP hS w => va_zast X.1 X.2.1 X.kn hP (wl_D G h) hS a 1 (wl_at hcell) rfl hi hd (fun H1 locs1 hP1 _ hS1 => w H1 locs1 (by rw [hx] at hP1; exact hP1) hS1))
theorem V_last {a N : Nat} {f : Nat → Int64} {i : Int32} {x : Int64} (hd : decode K.code pc = .ok (.lastore, 1)) (hcell : h[a]? = some (.inl (.long, N, .inr (.inl f)))) (hi : vp_in i N) (kk : V l G K h0 (pc + 1) ls st (h.set a (.inl (.long, N, .inr (.inl (vp_updL f i.toNatClampNeg x))))) r h') : V l G K h0 pc ls (.long x :: .int i :: .ref (a + 1) :: st) h r h' :=
  V_wr (c' := .inl (.long, N, .inr (.inl (vp_updL f i.toNatClampNeg x)))) hcell rfl kk (fun X hl hP hS w => va_last X.1 X.2.1 X.kn hP (wl_D G h) hS a 2 (wl_at hcell) rfl hi hd (fun H1 locs1 hP1 _ hS1 => w H1 locs1 hP1 hS1))
theorem wl_grow {H H1 : Heap} {c : Ce} (hP : va_P G.D cls (wl G h) H) (o1 : ∀ q, q < H.size → H1[q]? = H[q]?) (hn : va_at G.D cls (G.b + h.length, cv G c) H1) : va_P G.D cls (wl G (h ++ [c])) H1 := by
  rw [← wl_push]
  refine (hP.kept (fun k x hx => o1 x.1 ((hP k x hx).lt))).app (fun k x hx => ?_)
  cases k with
  | zero => simp at hx; subst hx; exact hn
  | succ k => simp at hx
/-- a new array of ints, booleans or longs -/
theorem V_newa {at9 : ArrayType} {ty : FieldType} (k0 : Nat) {n : Int32} {N : Nat} {a9 : vp_A} (hd : decode K.code pc = .ok (.newarray at9, 2)) (hty : newarray.typeOf at9 = ty) (hk0 : (tyl G)[k0]? = some (G.dA ty, ty)) (hra : ∀ (U : State) (c : ClassId), va_RA U c ty → U.vm.findClass ("[" ++ ty.toString) = some c) (ha : ∀ cA : ClassId, vp_cell cA a9 = arrV cA N (fun _ => defaultValue ty)) (hlen : a9.1 = N) (hw : Cond.arrayClass ty ∈ tw) (hn : ¬ n < 0) (hN : n.toNatClampNeg = N) (hb : N * componentBytes ty ≤ 536870912) (kk : V l G K h0 (pc + 2) ls (.ref (h.length + 1) :: st) (h ++ [.inl (ty, a9)]) r h') : V l G K h0 pc ls (.int n :: st) h r h' := by
  have e1 : (h ++ [(.inl (ty, a9) : Ce)]).length = h.length + 1 := by simp
  have e2 : sl (h ++ [(.inl (ty, a9) : Ce)]) = sl h + N := by rw [sl_app]; simp [sl, sl1, hlen]
  have k1 := kk.1
  have k2 := kk.2.1
  rw [e1] at k1
  rw [e2] at k2
  refine ⟨by omega, by omega, ?_⟩
  intro p e s m args below meth c H locs lsA X hP a1 a2 a3 a4 hl
  intro T hT X1
  have hz := sz_of (G := G) X1 a1 a2 (by rw [hT]; exact hP)
  rw [hT] at hz
  subst hty
  have hKt := X.kn.2 k0 _ hk0
  have hcs : h.length - h0.length + 1 ≤ (rmK K h0 h').cells := by show _ ≤ h'.length - h0.length; omega
  have hss : sl h - sl h0 + N ≤ (rmK K h0 h').slots := by show _ ≤ sl h' - sl h0; omega
  have hsz := a4.1
  rw [hz] at hsz
  have W1 : W p l e (rmK K h0 h') s m args below meth c H locs (h.length - h0.length) (sl h - sl h0) (Fin' G below s h0 r h') (F0 m pc lsA (.int n :: st.map (sv G))) := by
    refine va_newaK (h := G.b + h.length) X.1 X.2.1 (X.tw _ hw) rfl hd rfl hn hN hb hcs hss hz (fun H1 cA e3 z1 o1 hAr hNm => ?_)
    have ec : cA = G.dA (newarray.typeOf at9) := Option.some.inj (hNm.symm.trans (hra _ _ hKt.2))
    subst ec
    have hat : va_at G.D cls (G.b + h.length, cv G (.inl (newarray.typeOf at9, a9))) H1 := by
      show H1[G.b + h.length]? = some (vp_cell (G.dA (newarray.typeOf at9)) a9)
      rw [ha]
      exact e3
    have w := kk.2.2 (e := e) (below := below) (H := H1) (locs := locs) X (wl_grow hP (fun q hq => o1 q (by rw [hz] at hq; exact hq)) hat) a1 (by omega) (by omega) ⟨by omega, fun x h1 h2 => (o1 x (by omega)).trans (a4.2.1 x h1 h2), a4.2.2⟩ hl
    rw [e1, e2, show h.length + 1 - h0.length = h.length - h0.length + 1 by omega, show sl h + N - sl h0 = sl h - sl h0 + N by omega] at w
    exact w
  exact W1 T hT X1
theorem V_newi {n : Int32} {N : Nat} (hd : decode K.code pc = .ok (.newarray .int, 2)) (hw : Cond.arrayClass .int ∈ tw) (hn : ¬ n < 0) (hN : n.toNatClampNeg = N) (hb : N * 4 ≤ 536870912) (kk : V l G K h0 (pc + 2) ls (.ref (h.length + 1) :: st) (h ++ [.inl (.int, N, .inl (fun _ => 0))]) r h') : V l G K h0 pc ls (.int n :: st) h r h' :=
  V_newa 0 hd rfl rfl (fun _ _ h => h) (fun _ => rfl) rfl hw hn hN hb kk
theorem V_newz {n : Int32} {N : Nat} (hd : decode K.code pc = .ok (.newarray .boolean, 2)) (hw : Cond.arrayClass .boolean ∈ tw) (hn : ¬ n < 0) (hN : n.toNatClampNeg = N) (hb : N * 1 ≤ 536870912) (kk : V l G K h0 (pc + 2) ls (.ref (h.length + 1) :: st) (h ++ [.inl (.boolean, N, .inl (fun _ => 0))]) r h') : V l G K h0 pc ls (.int n :: st) h r h' :=
  V_newa 1 hd rfl rfl (fun _ _ h => h) (fun _ => rfl) rfl hw hn hN hb kk
theorem V_newl {n : Int32} {N : Nat} (hd : decode K.code pc = .ok (.newarray .long, 2)) (hw : Cond.arrayClass .long ∈ tw) (hn : ¬ n < 0) (hN : n.toNatClampNeg = N) (hb : N * 8 ≤ 536870912) (kk : V l G K h0 (pc + 2) ls (.ref (h.length + 1) :: st) (h ++ [.inl (.long, N, .inr (.inl (fun _ => 0)))]) r h') : V l G K h0 pc ls (.int n :: st) h r h' :=
  V_newa 2 hd rfl rfl (fun _ _ h => h) (fun _ => rfl) rfl hw hn hN hb kk
theorem sv_dflt (t : FieldType) : sv G (defaultValue t) = defaultValue t := by cases t <;> rfl
/-- a new object: its fields as they are born -/
theorem V_new {ix ci N : Nat} {C : String} {T : u_T} {fs : List Value} (tyf : Nat → FieldType) (hty : ∀ k, k < N → parseFieldDescriptor (T k).2.2.1 = some (tyf k)) (hd : decode K.code pc = .ok (.new ix, 3)) (hlink : Cond.classLink K.y.cls ix C ∈ tw) (hins : Cond.instantiable C (csz ci) ∈ tw) (hini : Cond.initialized C ∈ tw) (hin : ∀ w ∈ u_ws C T N, w ∈ tw) (hc : cls[ci]? = some (C, T, N)) (hfs : (List.range N).map (fun j => defaultValue (tyf j)) = fs) (kk : V l G K h0 (pc + 3) ls (.ref (h.length + 1) :: st) (h ++ [.inr (ci, fs)]) r h') : V l G K h0 pc ls st h r h' := by
  have e1 : (h ++ [(.inr (ci, fs) : Ce)]).length = h.length + 1 := by simp
  have e2 : sl (h ++ [(.inr (ci, fs) : Ce)]) = sl h + csz ci := by rw [sl_app]; simp [sl, sl1]
  have k1 := kk.1
  have k2 := kk.2.1
  rw [e1] at k1
  rw [e2] at k2
  refine ⟨by omega, by omega, ?_⟩
  intro p e s m args below meth c H locs lsA X hP a1 a2 a3 a4 hl
  intro T9 hT X1
  have hz := sz_of (G := G) X1 a1 a2 (by rw [hT]; exact hP)
  rw [hT] at hz
  have hKn := X.kn.1 ci _ hc
  have hcs : h.length - h0.length + 1 ≤ (rmK K h0 h').cells := by show _ ≤ h'.length - h0.length; omega
  have hss : sl h - sl h0 + csz ci ≤ (rmK K h0 h').slots := by show _ ≤ sl h' - sl h0; omega
  have hsz := a4.1
  rw [hz] at hsz
  have W1 : W p l e (rmK K h0 h') s m args below meth c H locs (h.length - h0.length) (sl h - sl h0) (Fin' G below s h0 r h') (F0 m pc lsA (st.map (sv G))) := by
    refine W.newcK (h := G.b + h.length) X.1 X.2.1 X.own (X.tw _ hlink) (X.tw _ hins) (X.tw _ hini) rfl hd hcs hss hKn.2.1 hz (fun H1 kC hkC e3 z1 o1 => ?_)
    have hob : va_at G.D cls (G.b + h.length, cv G (.inr (ci, fs))) H1 := by
      refine ⟨_, hc, (u_born tyf X.tw hin hKn hkC e3 hty).to (fun j hj => ?_)⟩
      subst hfs
      have hj : j < N := hj
      simp [vp_V, hj, sv_dflt]
    have w := kk.2.2 (e := e) (below := below) (H := H1) (locs := locs) X (wl_grow hP (fun q hq => o1 q (by rw [hz] at hq; exact hq)) hob) a1 (by omega) (by omega) ⟨by omega, fun x h1 h2 => (o1 x (by omega)).trans (a4.2.1 x h1 h2), a4.2.2⟩ hl
    rw [e1, e2, show h.length + 1 - h0.length = h.length - h0.length + 1 by omega, show sl h + csz ci - sl h0 = sl h - sl h0 + csz ci by omega] at w
    exact w
  exact W1 T9 hT X1
/-! returns -/
theorem V_iret {v : Int32} {ty : FieldType} (hd : decode K.code pc = .ok (.ireturn, 1)) (hr : K.ret = some ty) (hn : narrow ty (.int v) = .int v) : V l G K h0 pc ls [.int v] h (.inl (some (.int v))) h :=
  ⟨Nat.le_refl _, Nat.le_refl _, fun X hP a1 a2 a3 a4 hl => W.mono (fun t q => by
    obtain ⟨o, run, en, ⟨rfl, hp⟩, Ls, ⟨_, hW, hs⟩, hf⟩ := q
    exact ⟨run, en, hp, hW, Ls, hs, hf⟩) (W.zret (Qc := fun _ _ o t => o = .returned (some (.int v)) ∧ va_P G.D cls (wl G h) t.heap) (free := Ar G) X.1 X.2.1 (X.2.2.2.1.trans hr) hn (fun t ht _ => ⟨rfl, by rw [ht]; exact hP⟩) a4.2.2 hd X.2.2.2.2.1)⟩
theorem V_lret {v : Int64} (hd : decode K.code pc = .ok (.lreturn, 1)) (hr : K.ret = some .long) : V l G K h0 pc ls [.long v] h (.inl (some (.long v))) h :=
  ⟨Nat.le_refl _, Nat.le_refl _, fun X hP a1 a2 a3 a4 hl => W.mono (fun t q => by
    obtain ⟨o, run, en, ⟨rfl, hp⟩, Ls, ⟨_, hW, hs⟩, hf⟩ := q
    exact ⟨run, en, hp, hW, Ls, hs, hf⟩) (W.lret (Qc := fun _ _ o t => o = .returned (some (.long v)) ∧ va_P G.D cls (wl G h) t.heap) (free := Ar G) X.1 X.2.1 (X.2.2.2.1.trans hr) (fun t ht _ => ⟨rfl, by rw [ht]; exact hP⟩) a4.2.2 hd X.2.2.2.2.1)⟩
theorem V_vret (hd : decode K.code pc = .ok (.return_, 1)) (hr : K.ret = none) : V l G K h0 pc ls [] h (.inl none) h :=
  ⟨Nat.le_refl _, Nat.le_refl _, fun X hP a1 a2 a3 a4 hl => W.mono (fun t q => by
    obtain ⟨o, run, en, ⟨rfl, hp⟩, Ls, ⟨_, hW, hs⟩, hf⟩ := q
    exact ⟨run, en, hp, hW, Ls, hs, hf⟩) (W.vret (Qc := fun _ _ o t => o = .returned none ∧ va_P G.D cls (wl G h) t.heap) (free := Ar G) X.1 X.2.1 (X.2.2.2.1.trans hr) (fun t ht _ => ⟨rfl, by rw [ht]; exact hP⟩) a4.2.2 hd X.2.2.2.2.1)⟩
end R4
end
section
section R5
variable {l : Launch} {G : Gb} {K : Kt} {h0 : List Ce} {pc : Nat} {ls : List (Nat × Value)} {st : List Value} {h : List Ce} {r : Rs} {h' : List Ce}
theorem twAt {p : Program} {e : Env} {R : Room} {s : State} {m : MethodId} {args : Array Value} {below : List Frame} {meth : Method} {c : Code} {T : State} {locs : List Loc} {cells slots : Nat} (X0 : Cx G K p s m args meth c) (X : Stand p l e R s m args below meth c T locs cells slots) (w : Cond) (hw : w ∈ tw) (a : Array Value) : w.before a T = true := okW_at (tw_good w hw) X.warmed (X0.tw w hw)
/-- the callee's code stands in the tables -/
theorem Kt.stands {j : Kt} {T : State} {mk : MethodId} (hn : T.methodNamed? j.y = some mk) {a : Array Value} (hk : j.w.before a T = true) : ∃ methY cY, T.vm.method? mk = some methY ∧ methY.code = some cY ∧ cY.maxLocals = j.maxL ∧ parseMethodDescriptor j.y.desc = some methY.sig := by
  obtain ⟨y, code, maxL, ret, fr, lo, hd⟩ := j
  cases hd with
  | nil =>
    obtain ⟨meth, c, h1, h2, h3, h4, h5, h6, h7, h8⟩ := Cond.code_spec hn hk
    exact ⟨meth, c, h1, h2, h4, h8⟩
  | cons q t =>
    obtain ⟨m', meth, c, hn', h1, h2, h3, h4, h5, h6, h7, h8⟩ := Cond.codeWith_spec hk
    cases hn.symm.trans hn'
    exact ⟨meth, c, h1, h2, h4, h8⟩
theorem Kt.named {j : Kt} {T : State} {a : Array Value} (hk : j.w.before a T = true) : ∃ mk, T.methodNamed? j.y = some mk := by
  obtain ⟨y, code, maxL, ret, fr, lo, hd⟩ := j
  cases hd with
  | nil => exact Cond.code_named hk
  | cons q t =>
    obtain ⟨m', meth, c, hn', -⟩ := Cond.codeWith_spec hk
    exact ⟨m', hn'⟩
theorem callDo {j : Kt} {As : List Value} {o : Rs} {h1 : List Ce} (hD : Do l G j As h o h1) (hw : j.w ∈ tw) (hi : Cond.initialized j.y.cls ∈ tw) {p : Program} {e : Env} {R : Room} {s : State} {m : MethodId} {args : Array Value} {below : List Frame} {meth : Method} {c : Code} {T : State} {locs : List Loc} {cells slots : Nat} (X0 : Cx G K p s m args meth c) (X : Stand p l e R s m args below meth c T locs cells slots) (hP : va_P G.D cls (wl G h) T.heap) (hz : T.heap.size = G.b + h.length) (hS : va_S (Ar G) s.heap T.heap locs) {g : JFrame} (hg : g.method = m) (hsize : g.locals.size = c.maxLocals) {ig : Instr} (hdg : decode c.code g.pc = .ok (ig, 3)) {mk : MethodId} (hn : s.methodNamed? j.y = some mk) (hfr : j.fr + 1 ≤ R.frames) (hlo : 2 * g.monitorRoom + (g.stack.map fun v => v.category).sum + (j.maxL + 11) + j.lo ≤ R.locals) (hc : cells + (h1.length - h.length) ≤ R.cells) (hs : slots + (sl h1 - sl h) ≤ R.slots) :
    ∃ s₂ Ls, Steps p.tables e below (doInvoke e (T.setTop g) [] mk (As.map (sv G)).toArray).1 s₂ ∧ Ended s₂ (.java g :: below) (oc G o) ∧ va_P G.D cls (wl G h1) s₂.heap ∧ (T.calling g mk (As.map (sv G)).toArray).WarmedH s₂.vm ∧ (T.calling g mk (As.map (sv G)).toArray).sameButNew ({ s₂ with vm := (T.calling g mk (As.map (sv G)).toArray).vm } : State) Ls (h1.length - h.length) (sl h1 - sl h) ∧ ∀ q ∈ Ls, G.b ≤ q.base := by
  have hTn : T.methodNamed? j.y = some mk := X.named hn
  have hat := twAt X0 X
  obtain ⟨methY, cY, hmY, hcY, hlY, -⟩ := Kt.stands hTn (hat _ hw #[])
  obtain ⟨kY, hkY, -⟩ := className_of_methodNamed hTn
  have hinitY : kY.init = .initialized := Cond.initialized_spec (findClass_of_methodNamed hTn) hkY (hat _ hi #[])
  have hAt : At T g.method c below := by rw [hg]; exact X.here
  have happ : (headSpec (j.w :: tw) (rmK j h h1)).appliesLoose j.y e.platform (T.calling g mk (As.map (sv G)).toArray) = true :=
    Spec.appliesLoose_calling (g := g) hAt hdg hTn hkY hinitY (X.room_calling (g := g) (R' := rmK j h h1) hsize hmY hcY hfr (by rw [hlY]; exact hlo) hc hs) (atoms_intro fun w hw' => by
      rcases List.mem_cons.mp hw' with e | e
      · rw [e]; exact hat _ hw _
      · exact hat _ e _)
  have hfr' : (T.setTop g).frames = [.java g] ++ below := by rw [State.frames_setTop' g hAt.top, X.tail]; rfl
  have hX : va_X G.scr G.L G.xs (T.calling g mk (As.map (sv G)).toArray) (T.calling g mk (As.map (sv G)).toArray).heap := va_X.moved (u := s) X.warmed.alike (X0.scr.1.kept (hS.2.1 _ (Nat.lt_of_lt_of_le X0.scr.2.1 X0.scr.2.2) (Nat.not_le.mpr X0.scr.2.1)))
  obtain ⟨o', s₂, hsteps, -, hend, ho, hP2, hW2, Ls, hsame, hL⟩ := Steps.callFree hD.2.2 p X.admits X.cas X.clock (acts := []) (mid := [.java g]) (below := below) hfr' happ ⟨rfl, hP, hz, hX, X0.scr.2.1, va_K.moved X.warmed.alike X0.kn, Ev.moved (u := s) (U := T.calling g mk (As.map (sv G)).toArray) X.warmed (X0.ev.kept (fun a h1 h2 => hS.2.1 a h1 h2))⟩ trivial
  subst ho
  rw [hfr'] at hend
  exact ⟨s₂, Ls, hsteps, hend, hP2, hW2, hsame, hL⟩
/-- behind a call nothing below the run's own cells has changed -/
theorem va_S.call {s T U : State} {locs Ls : List Loc} {k n : Nat} (hS : va_S (Ar G) s.heap T.heap locs) (hm : T.sameButNew U Ls k n) (hL : ∀ q ∈ Ls, G.b ≤ q.base) : va_S (Ar G) s.heap U.heap (locs ++ Ls) := by
  refine ⟨Nat.le_trans hS.1 hm.2.1, fun q h1 h2 => ?_, fun q hq => ?_⟩
  · have h3 := hS.2.1 q h1 h2
    obtain ⟨c, hc⟩ : ∃ c, s.heap[q]? = some c := ⟨_, Array.getElem?_eq_getElem h1⟩
    rw [hc] at h3
    rw [hc, hm.kept_off (fun i hi => h2 (hL _ hi)) h3]
  · rcases List.mem_append.mp hq with a | a
    · exact hS.2.2 q a
    · exact hL q a
/-- the invoking instruction links: what it asks of the tables is there -/
def Link (l : Launch) (G : Gb) (K j : Kt) (pc : Nat) (h : List Ce) (As rest st : List Value) : Prop :=
  ∀ {p : Program} {e : Env} {R : Room} {s : State} {m : MethodId} {args : Array Value} {below : List Frame} {meth : Method} {c : Code} {T : State} {locs : List Loc} {cells slots : Nat} {lsA : Array Slot}, Cx G K p s m args meth c → Stand p l e R s m args below meth c T locs cells slots → va_P G.D cls (wl G h) T.heap → lsA.size = K.maxL →
    ∃ mk vm', s.methodNamed? j.y = some mk ∧ Stand p l e R s m args below meth c (T.setVm vm') locs cells slots ∧
      ∀ target, (∀ acts, Steps p.tables e below (doInvoke e ((T.setVm vm').setTop (F0 m pc lsA (rest.map (sv G)))) acts mk (As.map (sv G)).toArray).1 target) → Steps p.tables e below (T.setTop (F0 m pc lsA (st.map (sv G)))) target
/-- what a caller K and a callee j owe each other: words, frames -/
def Fit (K j : Kt) : Prop := j.w ∈ tw ∧ Cond.initialized j.y.cls ∈ tw ∧ j.fr + 1 ≤ K.fr ∧ 8 + (j.maxL + 11) + j.lo ≤ K.lo
theorem cat_map (G : Gb) (rest : List Value) : ((rest.map (sv G)).map fun v => v.category) = rest.map fun v => v.category := by
  rw [List.map_map]
  exact List.map_congr_left fun v _ => sv_cat G v
theorem V_call {j : Kt} {As rest : List Value} {h1 : List Ce} {v : Option Value} {ig : Instr} (hd : decode K.code pc = .ok (ig, 3)) (ft : Fit K j) (lk : Link l G K j pc h As rest st) (hrest : (rest.map fun v => v.category).sum ≤ 8) (hD : Do l G j As h (.inl v) h1) (kk : V l G K h0 (pc + 3) ls (v.toList ++ rest) h1 r h') : V l G K h0 pc ls st h r h' := by
  have d1 := hD.1
  have d2 := hD.2.1
  have k1 := kk.1
  have k2 := kk.2.1
  refine ⟨Nat.le_trans d1 k1, Nat.le_trans d2 k2, ?_⟩
  intro p e s m args below meth c H locs lsA X0 hP a1 a2 a3 a4 hl T hT X
  subst hT
  have hz := sz_of (G := G) X a1 a2 hP
  obtain ⟨mk, vm', hn, X1, hstep⟩ := lk X0 X hP hl.1
  have hdg : decode c.code pc = .ok (ig, 3) := by rw [X0.2.1]; exact hd
  obtain ⟨s₂, Ls, hst, hend, hP2, hW2, hsame, hL⟩ := callDo hD ft.1 ft.2.1 X0 X1 hP hz a4 (g := F0 m pc lsA (rest.map (sv G))) rfl (hl.1.trans X0.2.2.1.symm) hdg hn ft.2.2.1
    (by show 2 * 0 + _ + _ + _ ≤ K.lo; have := ft.2.2.2; rw [cat_map]; omega) (by show _ ≤ h'.length - h0.length; omega) (by show _ ≤ sl h' - sl h0; omega)
  obtain ⟨T', X', hW', hsm, ht⟩ := X1.outOf (g := F0 m pc lsA (rest.map (sv G))) rfl hdg hend hW2 hsame
  have e1 : s₂.heap = T'.heap := by rw [ht]; exact State.heap_setTop _ _
  have hS' : va_S (Ar G) s.heap T'.heap (locs ++ Ls) := va_S.call (T := T.setVm vm') (U := T'.setVm (T.setVm vm').vm) a4 hsm hL
  have w := kk.2.2 (e := e) (below := below) (H := T'.heap) (locs := locs ++ Ls) X0 (by rw [← e1]; exact hP2) a1 (by omega) (by omega) hS' hl
  rw [show h.length - h0.length + (h1.length - h.length) = h1.length - h0.length by omega, show sl h - sl h0 + (sl h1 - sl h) = sl h1 - sl h0 by omega] at X'
  obtain ⟨t, b1, b2⟩ := w T' rfl X'
  refine ⟨t, hstep _ (fun acts => ?_), b2⟩
  rw [doInvoke_state]
  refine hst.trans ?_
  rw [ht]
  cases v <;> exact b1
/-- the callee throws, and nobody catches here -/
theorem V_callThr {j : Kt} {As rest : List Value} {h1 : List Ce} {a : Nat} {ig : Instr} (hd : decode K.code pc = .ok (ig, 3)) (ft : Fit K j) (lk : Link l G K j pc h As rest st) (hrest : (rest.map fun v => v.category).sum ≤ 8) (hout : K.hd.all (fun x => !(decide (x.1 ≤ pc) && decide (pc < x.2.1))) = true) (hD : Do l G j As h (.inr a) h1) : V l G K h0 pc ls st h (.inr a) h1 := by
  have d1 := hD.1
  have d2 := hD.2.1
  refine ⟨d1, d2, ?_⟩
  intro p e s m args below meth c H locs lsA X0 hP a1 a2 a3 a4 hl T hT X
  subst hT
  have hz := sz_of (G := G) X a1 a2 hP
  obtain ⟨mk, vm', hn, X1, hstep⟩ := lk X0 X hP hl.1
  have hdg : decode c.code pc = .ok (ig, 3) := by rw [X0.2.1]; exact hd
  obtain ⟨s₂, Ls, hst, hend, hP2, hW2, hsame, hL⟩ := callDo hD ft.1 ft.2.1 X0 X1 hP hz a4 (g := F0 m pc lsA (rest.map (sv G))) rfl (hl.1.trans X0.2.2.1.symm) hdg hn ft.2.2.1
    (by show 2 * 0 + _ + _ + _ ≤ K.lo; have := ft.2.2.2; rw [cat_map]; omega) (by show _ ≤ h1.length - h0.length; omega) (by show _ ≤ sl h1 - sl h0; omega)
  obtain ⟨T', X', hW', hsm, ht⟩ := X1.outOfThrown (g := F0 m pc lsA (rest.map (sv G))) rfl hend hW2 hsame
  have e1 : s₂.heap = T'.heap := by rw [ht]; exact Stand.throwing_heap _ _ _
  have hS' : va_S (Ar G) s.heap T'.heap (locs ++ Ls) := va_S.call (T := T.setVm vm') (U := T'.setVm (T.setVm vm').vm) a4 hsm hL
  rw [show h.length - h0.length + (h1.length - h.length) = h1.length - h0.length by omega, show sl h - sl h0 + (sl h1 - sl h) = sl h1 - sl h0 by omega] at X'
  obtain ⟨q1, q2, q3, q4, q5⟩ := X'.leaveThrown (G.b + a) (g := F0 m pc lsA (rest.map (sv G))) rfl rfl rfl (fun x hx => by
    have hm : (x.startPc, x.endPc, x.handlerPc, x.catchType) ∈ K.hd := by rw [← X0.2.2.2.2.2.2.2.1]; exact List.mem_map.mpr ⟨x, hx, rfl⟩
    have hz9 := List.all_eq_true.mp hout _ hm
    simp at hz9
    simp
    intro hz8
    omega) X0.2.2.2.2.1
  refine ⟨_, hstep _ (fun acts => ?_), q2, q3, ?_, q4, locs ++ Ls, q5, hS'.2.2⟩
  · rw [doInvoke_state]
    refine hst.trans ?_
    rw [ht]
    exact q1
  · show va_P _ _ _ T'.heap
    rw [← e1]
    exact hP2
/-! the links -/
theorem lkS {j : Kt} {ix : Nat} {As rest : List Value} (hd : decode K.code pc = .ok (.invokestatic ix, 3)) (hw : j.w ∈ tw) (hi : Cond.initialized j.y.cls ∈ tw) (hl : Cond.methodLink K.y.cls ix j.y ∈ tw) (hs : Cond.static j.y ∈ tw) (hy : j.y.cls ≠ "java/lang/invoke/MethodHandle" ∧ j.y.cls ≠ "java/lang/invoke/VarHandle") (hn : ∀ sig, parseMethodDescriptor j.y.desc = some sig → As.length = sig.parameters.length) (hst : st = As.reverse ++ rest) : Link l G K j pc h As rest st := by
  intro p e R s m args below meth c T locs cells slots lsA X0 X hP hz
  obtain ⟨mk, hnm⟩ := Kt.named (X0.tw _ hw)
  obtain ⟨methM, cM, hmM, -, -, hsig⟩ := Kt.stands hnm (X0.tw _ hw)
  obtain ⟨kP, hkP, -⟩ := className_of_methodNamed hnm
  have hinit : kP.init = .initialized := Cond.initialized_spec (findClass_of_methodNamed hnm) hkP (X0.tw _ hi)
  obtain ⟨vm₁, X₁, h₁⟩ := X.invokestatic X0.1 X0.own (X0.tw _ hl) hnm hmM (Cond.static_spec hnm hmM (X0.tw _ hs)) hkP hinit hy (g := F0 m pc lsA (st.map (sv G))) rfl (argsL := As.map (sv G)) (rest := rest.map (sv G)) (by rw [List.length_map]; exact hn _ hsig) (by rw [hst]; simp) (by rw [X0.2.1]; exact hd)
  exact ⟨mk, vm₁, hnm, X₁, h₁⟩
theorem lkSN {j : Kt} {ix : Nat} {host : String} {As rest : List Value} (hd : decode K.code pc = .ok (.invokestatic ix, 3)) (hw : j.w ∈ tw) (hi : Cond.initialized j.y.cls ∈ tw) (hl : Cond.methodLinkNest K.y.cls ix j.y host ∈ tw) (hs : Cond.static j.y ∈ tw) (hy : j.y.cls ≠ "java/lang/invoke/MethodHandle" ∧ j.y.cls ≠ "java/lang/invoke/VarHandle") (hn : ∀ sig, parseMethodDescriptor j.y.desc = some sig → As.length = sig.parameters.length) (hst : st = As.reverse ++ rest) : Link l G K j pc h As rest st := by
  intro p e R s m args below meth c T locs cells slots lsA X0 X hP hz
  obtain ⟨mk, hnm⟩ := Kt.named (X0.tw _ hw)
  obtain ⟨methM, cM, hmM, -, -, hsig⟩ := Kt.stands hnm (X0.tw _ hw)
  obtain ⟨kP, hkP, -⟩ := className_of_methodNamed hnm
  have hinit : kP.init = .initialized := Cond.initialized_spec (findClass_of_methodNamed hnm) hkP (X0.tw _ hi)
  obtain ⟨vm₁, X₁, h₁⟩ := X.invokestaticNest X0.1 X0.own (X0.tw _ hl) hnm hmM (Cond.static_spec hnm hmM (X0.tw _ hs)) hkP hinit hy (g := F0 m pc lsA (st.map (sv G))) rfl (argsL := As.map (sv G)) (rest := rest.map (sv G)) (by rw [List.length_map]; exact hn _ hsig) (by rw [hst]; simp) (by rw [X0.2.1]; exact hd)
  exact ⟨mk, vm₁, hnm, X₁, h₁⟩
/-- the receiver's cell: an object of the class C -/
theorem recvOf {p : Program} {s : State} {m : MethodId} {args : Array Value} {meth : Method} {c : Code} {H : Heap} (X0 : Cx G K p s m args meth c) (hP : va_P G.D cls (wl G h) H) {a ci : Nat} {fs : List Value} {q : vw_C} (hcell : h[a]? = some (.inr (ci, fs))) (hc : cls[ci]? = some q) : ∃ cell, H[G.b + a]? = some cell ∧ (∀ k, cell.vm ≠ .statics k) ∧ s.vm.findClass q.1 = some cell.cls := by
  obtain ⟨r, h1, cell, q1, q2, q3, q4⟩ := hP a _ (wl_at hcell)
  have hr : r = q := Option.some.inj (h1.symm.trans hc)
  subst hr
  refine ⟨cell, q1, fun k z => ?_, ?_⟩
  · rw [q3] at z; cases z
  · rw [q2]; exact (X0.kn.1 ci _ hc).2.1
theorem lkV {j : Kt} {ix a ci : Nat} {fs : List Value} {q : vw_C} {As rest : List Value} (hd : decode K.code pc = .ok (.invokevirtual ix, 3)) (hw : j.w ∈ tw) (hl : Cond.methodLink K.y.cls ix j.y ∈ tw) (hs : Cond.instanceMethod j.y ∈ tw) (hse : Cond.selects q.1 j.y j.y ∈ tw) (hy : j.y.cls ≠ "java/lang/invoke/MethodHandle" ∧ j.y.cls ≠ "java/lang/invoke/VarHandle") (hcell : h[a]? = some (.inr (ci, fs))) (hc : cls[ci]? = some q) (hn : ∀ sig, parseMethodDescriptor j.y.desc = some sig → As.length = sig.parameters.length) (hst : st = As.reverse ++ .ref (a + 1) :: rest) : Link l G K j pc h (.ref (a + 1) :: As) rest st := by
  intro p e R s m args below meth c T locs cells slots lsA X0 X hP hz
  obtain ⟨mk, methM, hnamed, hmethM, hstM, habM⟩ := Cond.instanceMethod_spec (X0.tw _ hs)
  obtain ⟨methM', cM, hmM', -, -, hsig⟩ := Kt.stands hnamed (X0.tw _ hw)
  cases hmethM.symm.trans hmM'
  obtain ⟨cell, c1, c2, c3⟩ := recvOf X0 hP hcell hc
  obtain ⟨k2, r2, m2, q1, q2, q3, q4, kP, hkP, hkPi⟩ := Cond.selects_spec (X0.tw _ hse)
  cases c3.symm.trans q1
  cases (State.methodFound?_of_named hnamed hy).symm.trans q2
  cases hnamed.symm.trans q3
  have hselP : selectMethod e.platform s.vm cell.cls mk = .method mk := by rw [Launch.admits_selectMethod X.admits]; exact q4
  obtain ⟨vm₁, X₁, h₁⟩ := X.invokevirtual X0.1 X0.own (X0.tw _ hl) hnamed hmethM hstM hkP hkPi hy (a := G.b + a) (cell := cell) c1 c2 hselP hmethM habM hkP hkPi (g := F0 m pc lsA (st.map (sv G))) rfl (argsL := As.map (sv G)) (rest := rest.map (sv G)) (by rw [List.length_map]; exact hn _ hsig) (by rw [hst]; simp [sv]) (by rw [X0.2.1]; exact hd)
  exact ⟨mk, vm₁, hnamed, X₁, h₁⟩
theorem lkI {j : Kt} {ix a : Nat} {As rest : List Value} (hd : decode K.code pc = .ok (.invokespecial ix, 3)) (hini : j.y.name = "<init>") (hret : j.ret = none) (hhd : j.hd = []) (hw : j.w ∈ tw) (hl : Cond.methodLink K.y.cls ix j.y ∈ tw) (hs : Cond.instanceMethod j.y ∈ tw) (hy : j.y.cls ≠ "java/lang/invoke/MethodHandle" ∧ j.y.cls ≠ "java/lang/invoke/VarHandle") (hn : ∀ sig, parseMethodDescriptor j.y.desc = some sig → As.length = sig.parameters.length) (hst : st = As.reverse ++ .ref (a + 1) :: rest) : Link l G K j pc h (.ref (a + 1) :: As) rest st := by
  intro p e R s m args below meth c T locs cells slots lsA X0 X hP hz
  have hpl : e.platform.magicAccessors = ({} : Platform).magicAccessors := by rw [X.admits.platform]
  have hcode : (Cond.code j.y j.code j.maxL none).before args s = true := by
    have := X0.tw _ hw
    obtain ⟨y, code, maxL, ret, fr, lo, hd⟩ := j
    cases hhd
    cases hret
    exact this
  obtain ⟨mk, methM, cM, kP, vm₁, hnamed, hmethM, hcodeM, -, hlocalsM, -, hkP, -, hW₁, hstep₁⟩ := Steps.initColdArgs (e := e) X.here X0.1 X.warmed hpl X0.own hini hy (X0.tw _ hl) (X0.tw _ hs) hcode (f := F0 m pc lsA (st.map (sv G))) rfl (a := G.b + a) (argsL := As.map (sv G)) (rest := rest.map (sv G)) (fun sig hsig => by rw [List.length_map]; exact hn _ hsig) (by rw [hst]; simp [sv]) (by rw [X0.2.1]; exact hd)
  exact ⟨mk, vm₁, hnamed, X.noted hW₁, hstep₁⟩
theorem V_objInit {ix a : Nat} (hd : decode K.code pc = .ok (.invokespecial ix, 3)) (hl : Cond.methodLink K.y.cls ix Lib.objectInit ∈ tw) (hs : Cond.instanceMethod Lib.objectInit ∈ tw) (hw : Cond.code Lib.objectInit ⟨#[0xb1]⟩ 1 none ∈ tw) (hf : 1 ≤ K.fr) (hlo : (st.map fun v => v.category).sum + 12 ≤ K.lo) (kk : V l G K h0 (pc + 3) ls st h r h') : V l G K h0 pc ls (.ref (a + 1) :: st) h r h' :=
  ⟨kk.1, kk.2.1, fun X0 hP a1 a2 a3 a4 hz => W.objInit X0.1 X0.2.1 X0.own (X0.tw _ hl) (X0.tw _ hs) (X0.tw _ hw) rfl (hz.1.trans X0.2.2.1.symm) rfl hd hf (by show 2 * 0 + _ + 12 ≤ K.lo; rw [cat_map]; omega) (kk.2.2 X0 hP a1 a2 a3 a4 hz)⟩
theorem V_mmax {ix : Nat} {x y : Int32} (hd : decode K.code pc = .ok (.invokestatic ix, 3)) (hl : Cond.methodLink K.y.cls ix Lib.Math.max.name ∈ tw) (hs : Cond.static Lib.Math.max.name ∈ tw) (hi : Cond.initialized "java/lang/Math" ∈ tw) (hw : Cond.code Lib.Math.max.name Lib.Math.max.code 2 (some .int) ∈ tw) (hf : 1 ≤ K.fr) (hlo : (st.map fun v => v.category).sum + 13 ≤ K.lo) (kk : V l G K h0 (pc + 3) ls (.int (if x < y then y else x) :: st) h r h') : V l G K h0 pc ls (.int y :: .int x :: st) h r h' := by
  have k1 := kk.1
  have k2 := kk.2.1
  exact ⟨k1, k2, fun X0 hP a1 a2 a3 a4 hz => va_mmax X0.1 X0.2.1 (X0.2.2.1.trans hz.1.symm) X0.own (X0.tw _ hl) (X0.tw _ hs) (X0.tw _ hi) (X0.tw _ hw) hf (by show _ + 13 ≤ K.lo; rw [cat_map]; omega) (by show _ ≤ h'.length - h0.length; omega) (by show _ ≤ sl h' - sl h0; omega) hd (kk.2.2 X0 hP a1 a2 a3 a4 hz)⟩
theorem V_mmin {ix : Nat} {x y : Int32} (hd : decode K.code pc = .ok (.invokestatic ix, 3)) (hl : Cond.methodLink K.y.cls ix Lib.Math.min.name ∈ tw) (hs : Cond.static Lib.Math.min.name ∈ tw) (hi : Cond.initialized "java/lang/Math" ∈ tw) (hw : Cond.code Lib.Math.min.name Lib.Math.min.code 2 (some .int) ∈ tw) (hf : 1 ≤ K.fr) (hlo : (st.map fun v => v.category).sum + 13 ≤ K.lo) (kk : V l G K h0 (pc + 3) ls (.int (if y < x then y else x) :: st) h r h') : V l G K h0 pc ls (.int y :: .int x :: st) h r h' := by
  have k1 := kk.1
  have k2 := kk.2.1
  exact ⟨k1, k2, fun X0 hP a1 a2 a3 a4 hz => va_mmin X0.1 X0.2.1 (X0.2.2.1.trans hz.1.symm) X0.own (X0.tw _ hl) (X0.tw _ hs) (X0.tw _ hi) (X0.tw _ hw) hf (by show _ + 13 ≤ K.lo; rw [cat_map]; omega) (by show _ ≤ h'.length - h0.length; omega) (by show _ ≤ sl h' - sl h0; omega) hd (kk.2.2 X0 hP a1 a2 a3 a4 hz)⟩
theorem V_mabs {ix : Nat} {x : Int32} (hd : decode K.code pc = .ok (.invokestatic ix, 3)) (hl : Cond.methodLink K.y.cls ix Lib.Math.abs.name ∈ tw) (hs : Cond.static Lib.Math.abs.name ∈ tw) (hi : Cond.initialized "java/lang/Math" ∈ tw) (hw : Cond.code Lib.Math.abs.name Lib.Math.abs.code 1 (some .int) ∈ tw) (hf : 1 ≤ K.fr) (hlo : (st.map fun v => v.category).sum + 13 ≤ K.lo) (kk : V l G K h0 (pc + 3) ls (.int (if 0 ≤ x then x else 0 - x) :: st) h r h') : V l G K h0 pc ls (.int x :: st) h r h' := by
  have k1 := kk.1
  have k2 := kk.2.1
  exact ⟨k1, k2, fun X0 hP a1 a2 a3 a4 hz => va_mabs X0.1 X0.2.1 (X0.2.2.1.trans hz.1.symm) X0.own (X0.tw _ hl) (X0.tw _ hs) (X0.tw _ hi) (X0.tw _ hw) hf (by show _ + 13 ≤ K.lo; rw [cat_map]; omega) (by show _ ≤ h'.length - h0.length; omega) (by show _ ≤ sl h' - sl h0; omega) hd (kk.2.2 X0 hP a1 a2 a3 a4 hz)⟩
theorem V_copyi {ix a b n0 n1 : Nat} {f g : Nat → Int32} {sp dp n : Int32} (hd : decode K.code pc = .ok (.invokestatic ix, 3)) (hl : Cond.methodLink K.y.cls ix arraycopyName ∈ tw) (hna : Cond.native arraycopyName ∈ tw) (hs : Cond.static arraycopyName ∈ tw) (hi : Cond.initialized "java/lang/System" ∈ tw) (ha : h[a]? = some (.inl (.int, n0, .inl f))) (hb : h[b]? = some (.inl (.int, n1, .inl g))) (h1 : ¬ sp < 0) (h2 : ¬ dp < 0) (h3 : ¬ n < 0) (h4 : sp.toNatClampNeg + n.toNatClampNeg ≤ n0) (h5 : dp.toNatClampNeg + n.toNatClampNeg ≤ n1) (hf : 1 ≤ K.fr) (hlo : (st.map fun v => v.category).sum + (nativeFrameWords "java/lang/System" "arraycopy" 5 + 11) ≤ K.lo) (kk : V l G K h0 (pc + 3) ls st (h.set b (.inl (.int, n1, .inl (va_cpy f g sp.toNatClampNeg dp.toNatClampNeg n.toNatClampNeg)))) r h') : V l G K h0 pc ls (.int n :: .int dp :: .ref (b + 1) :: .int sp :: .ref (a + 1) :: st) h r h' := by
  have es : sl (h.set b (.inl (.int, n1, .inl (va_cpy f g sp.toNatClampNeg dp.toNatClampNeg n.toNatClampNeg)))) = sl h := sl_set h b _ _ hb rfl
  refine ⟨by have := kk.1; rwa [List.length_set] at this, by have := kk.2.1; rwa [es] at this, ?_⟩
  intro p e s m args below meth c H locs lsA X hP a1 a2 a3 a4 hz
  refine va_copyi X.1 X.2.1 (X.2.2.1.trans hz.1.symm) X.own (X.tw _ hl) (X.tw _ hna) (X.tw _ hs) (X.tw _ hi) X.kn hP (wl_D G h) a4 a b 0 0 (wl_at ha) (wl_at hb) (ty := .int) rfl rfl rfl h1 h2 h3 h4 h5 (fun _ _ => rfl) hf (by show _ ≤ K.lo; rw [cat_map]; omega) hd (fun H1 locs1 hP1 _ hS1 => ?_)
  have w := kk.2.2 (e := e) (below := below) (H := H1) (locs := locs1) X (by rw [← wl_set]; exact hP1) a1 (by rw [List.length_set]; exact a2) (by rw [es]; exact a3) hS1 hz
  rw [List.length_set, es] at w
  exact w
end R5
end
section
/-! SITES: what an instruction asks of the tables, once for all -/
section R6
variable {l : Launch} {G : Gb} {K : Kt} {h0 : List Ce} {pc : Nat} {ls : List (Nat × Value)} {st : List Value} {h : List Ce} {r : Rs} {h' : List Ce}
def SiteG (K : Kt) (pc ci j : Nat) : Prop := ∃ (ix N : Nat) (C ref : String) (T : u_T), decode K.code pc = .ok (.getfield ix, 3) ∧ Cond.fieldLink K.y.cls ix ref (T j).2.1 (T j).2.2.1 ∈ tw ∧ (∀ w ∈ u_ws C T N, w ∈ tw) ∧ (T j).1 = ref ∧ cls[ci]? = some (C, T, N) ∧ j < N
theorem V_gf {a ci j : Nat} {fs : List Value} {v : Value} (s : SiteG K pc ci j) (hcell : h[a]? = some (.inr (ci, fs))) (hv : fs[j]? = some v) (kk : V l G K h0 (pc + 3) ls (v :: st) h r h') : V l G K h0 pc ls (.ref (a + 1) :: st) h r h' := by
  obtain ⟨ix, N, C, ref, T, s1, s2, s3, s4, s5, s6⟩ := s
  exact V_get s1 s2 s3 s4 hcell s5 s6 hv kk
def SiteP (K : Kt) (pc ci j : Nat) (ty : FieldType) : Prop := ∃ (ix N : Nat) (C ref : String) (T : u_T) (tyf : Nat → FieldType), (∀ k, k < N → parseFieldDescriptor (T k).2.2.1 = some (tyf k)) ∧ (∀ a, a < N → ∀ b, b < N → a ≠ b → (T a).2.1 ≠ (T b).2.1) ∧ decode K.code pc = .ok (.putfield ix, 3) ∧ Cond.fieldLink K.y.cls ix ref (T j).2.1 (T j).2.2.1 ∈ tw ∧ (∀ w ∈ u_ws C T N, w ∈ tw) ∧ (T j).1 = ref ∧ ((T j).2.2.2 = false ∨ ((T j).2.2.2 = true ∧ K.y.name = "<init>" ∧ (T j).1 = K.y.cls)) ∧ cls[ci]? = some (C, T, N) ∧ j < N ∧ tyf j = ty
theorem V_pf {a ci j : Nat} {fs : List Value} {v : Value} {ty : FieldType} (s : SiteP K pc ci j ty) (hcell : h[a]? = some (.inr (ci, fs))) (hl' : j < fs.length) (hn : narrow ty (sv G v) = sv G v) (hf : fits ty (sv G v) = true) (kk : V l G K h0 (pc + 3) ls st (h.set a (.inr (ci, fs.set j v))) r h') : V l G K h0 pc ls (v :: .ref (a + 1) :: st) h r h' := by
  obtain ⟨ix, N, C, ref, T, tyf, s1, s2, s3, s4, s5, s6, s7, s8, s9, s10⟩ := s
  subst s10
  rcases s7 with q | ⟨q1, q2, q3⟩
  · exact V_put tyf s1 s2 s3 s4 s5 s6 q hcell s8 s9 hn hf hl' kk
  · exact V_putF tyf s1 s2 s3 s4 s5 s6 q1 q2 q3 hcell s8 s9 hn hf hl' kk
def SiteN (K : Kt) (pc ci : Nat) (fs : List Value) : Prop := ∃ (ix N : Nat) (C : String) (T : u_T) (tyf : Nat → FieldType), (∀ k, k < N → parseFieldDescriptor (T k).2.2.1 = some (tyf k)) ∧ decode K.code pc = .ok (.new ix, 3) ∧ Cond.classLink K.y.cls ix C ∈ tw ∧ Cond.instantiable C (csz ci) ∈ tw ∧ Cond.initialized C ∈ tw ∧ (∀ w ∈ u_ws C T N, w ∈ tw) ∧ cls[ci]? = some (C, T, N) ∧ (List.range N).map (fun j => defaultValue (tyf j)) = fs
theorem V_nw {ci : Nat} {fs : List Value} (s : SiteN K pc ci fs) (kk : V l G K h0 (pc + 3) ls (.ref (h.length + 1) :: st) (h ++ [.inr (ci, fs)]) r h') : V l G K h0 pc ls st h r h' := by
  obtain ⟨ix, N, C, T, tyf, s1, s2, s3, s4, s5, s6, s7, s8⟩ := s
  exact V_new tyf s1 s2 s3 s4 s5 s6 s7 s8 kk
def nMH (j : Kt) : Prop := j.y.cls ≠ "java/lang/invoke/MethodHandle" ∧ j.y.cls ≠ "java/lang/invoke/VarHandle"
def nPar (j : Kt) (n : Nat) : Prop := ∀ sig, parseMethodDescriptor j.y.desc = some sig → n = sig.parameters.length
def SiteV (K j : Kt) (pc ci n : Nat) : Prop := ∃ (ix : Nat) (q : vw_C), decode K.code pc = .ok (.invokevirtual ix, 3) ∧ Fit K j ∧ Cond.methodLink K.y.cls ix j.y ∈ tw ∧ Cond.instanceMethod j.y ∈ tw ∧ Cond.selects q.1 j.y j.y ∈ tw ∧ cls[ci]? = some q ∧ nMH j ∧ nPar j n
theorem V_cV {j : Kt} {a ci n : Nat} {fs As rest : List Value} {v : Option Value} {h1 : List Ce} (s : SiteV K j pc ci n) (hD : Do l G j (.ref (a + 1) :: As) h (.inl v) h1) (hcell : h[a]? = some (.inr (ci, fs))) (hn : As.length = n) (hst : st = As.reverse ++ .ref (a + 1) :: rest) (hrest : (rest.map fun v => v.category).sum ≤ 8) (kk : V l G K h0 (pc + 3) ls (v.toList ++ rest) h1 r h') : V l G K h0 pc ls st h r h' := by
  obtain ⟨ix, q, s1, s2, s3, s4, s5, s6, s7, s8⟩ := s
  exact V_call s1 s2 (lkV s1 s2.1 s3 s4 s5 s7 hcell s6 (fun sig hs => hn.trans (s8 sig hs)) hst) hrest hD kk
theorem V_cVt {j : Kt} {a ci n x : Nat} {fs As rest : List Value} {h1 : List Ce} (s : SiteV K j pc ci n) (hD : Do l G j (.ref (a + 1) :: As) h (.inr x) h1) (hcell : h[a]? = some (.inr (ci, fs))) (hn : As.length = n) (hst : st = As.reverse ++ .ref (a + 1) :: rest) (hrest : (rest.map fun v => v.category).sum ≤ 8) (hout : K.hd.all (fun x => !(decide (x.1 ≤ pc) && decide (pc < x.2.1))) = true) : V l G K h0 pc ls st h (.inr x) h1 := by
  obtain ⟨ix, q, s1, s2, s3, s4, s5, s6, s7, s8⟩ := s
  exact V_callThr s1 s2 (lkV s1 s2.1 s3 s4 s5 s7 hcell s6 (fun sig hs => hn.trans (s8 sig hs)) hst) hrest hout hD
def SiteS (K j : Kt) (pc n : Nat) : Prop := ∃ (ix : Nat), decode K.code pc = .ok (.invokestatic ix, 3) ∧ Fit K j ∧ (Cond.methodLink K.y.cls ix j.y ∈ tw ∨ ∃ host, Cond.methodLinkNest K.y.cls ix j.y host ∈ tw) ∧ Cond.static j.y ∈ tw ∧ nMH j ∧ nPar j n
theorem lkSS {j : Kt} {n : Nat} {As rest : List Value} (s : SiteS K j pc n) (hn : As.length = n) (hst : st = As.reverse ++ rest) : ∃ ix, decode K.code pc = .ok (.invokestatic ix, 3) ∧ Link l G K j pc h As rest st := by
  obtain ⟨ix, s1, s2, s3, s4, s5, s6⟩ := s
  rcases s3 with q | ⟨host, q⟩
  · exact ⟨ix, s1, lkS s1 s2.1 s2.2.1 q s4 s5 (fun sig hs => hn.trans (s6 sig hs)) hst⟩
  · exact ⟨ix, s1, lkSN s1 s2.1 s2.2.1 q s4 s5 (fun sig hs => hn.trans (s6 sig hs)) hst⟩
theorem SiteS.fit {j : Kt} {n : Nat} (s : SiteS K j pc n) : Fit K j := by
  obtain ⟨ix, s1, s2, s3, s4, s5, s6⟩ := s
  exact s2
theorem V_cS {j : Kt} {n : Nat} {As rest : List Value} {v : Option Value} {h1 : List Ce} (s : SiteS K j pc n) (hD : Do l G j As h (.inl v) h1) (hn : As.length = n) (hst : st = As.reverse ++ rest) (hrest : (rest.map fun v => v.category).sum ≤ 8) (kk : V l G K h0 (pc + 3) ls (v.toList ++ rest) h1 r h') : V l G K h0 pc ls st h r h' := by
  obtain ⟨ix, s1, lk⟩ := lkSS (l := l) (G := G) (h := h) s hn hst
  exact V_call s1 s.fit lk hrest hD kk
theorem V_cSt {j : Kt} {n x : Nat} {As rest : List Value} {h1 : List Ce} (s : SiteS K j pc n) (hD : Do l G j As h (.inr x) h1) (hn : As.length = n) (hst : st = As.reverse ++ rest) (hrest : (rest.map fun v => v.category).sum ≤ 8) (hout : K.hd.all (fun x => !(decide (x.1 ≤ pc) && decide (pc < x.2.1))) = true) : V l G K h0 pc ls st h (.inr x) h1 := by
  obtain ⟨ix, s1, lk⟩ := lkSS (l := l) (G := G) (h := h) s hn hst
  exact V_callThr s1 s.fit lk hrest hout hD
theorem lkIN {j : Kt} {ix a : Nat} {host : String} {As rest : List Value} (hd : decode K.code pc = .ok (.invokespecial ix, 3)) (hini : j.y.name = "<init>") (hret : j.ret = none) (hhd : j.hd = []) (hw : j.w ∈ tw) (hl : Cond.methodLinkNest K.y.cls ix j.y host ∈ tw) (hs : Cond.instanceMethod j.y ∈ tw) (hy : j.y.cls ≠ "java/lang/invoke/MethodHandle" ∧ j.y.cls ≠ "java/lang/invoke/VarHandle") (hn : ∀ sig, parseMethodDescriptor j.y.desc = some sig → As.length = sig.parameters.length) (hst : st = As.reverse ++ .ref (a + 1) :: rest) : Link l G K j pc h (.ref (a + 1) :: As) rest st := by
  intro p e R s m args below meth c T locs cells slots lsA X0 X hP hz
  have hpl : e.platform.magicAccessors = ({} : Platform).magicAccessors := by rw [X.admits.platform]
  have hcode : (Cond.code j.y j.code j.maxL none).before args s = true := by
    have := X0.tw _ hw
    obtain ⟨y, code, maxL, ret, fr, lo, hd⟩ := j
    cases hhd
    cases hret
    exact this
  obtain ⟨mk, methM, cM, kP, vm₁, hnamed, hmethM, hcodeM, -, hlocalsM, -, hkP, -, hW₁, hstep₁⟩ := Steps.initColdArgsNest (e := e) X.here X0.1 X.warmed hpl X0.own hini hy (X0.tw _ hl) (X0.tw _ hs) hcode (f := F0 m pc lsA (st.map (sv G))) rfl (a := G.b + a) (argsL := As.map (sv G)) (rest := rest.map (sv G)) (fun sig hsig => by rw [List.length_map]; exact hn _ hsig) (by rw [hst]; simp [sv]) (by rw [X0.2.1]; exact hd)
  exact ⟨mk, vm₁, hnamed, X.noted hW₁, hstep₁⟩
def SiteI (K j : Kt) (pc n : Nat) : Prop := ∃ (ix : Nat), decode K.code pc = .ok (.invokespecial ix, 3) ∧ Fit K j ∧ j.y.name = "<init>" ∧ j.ret = none ∧ j.hd = [] ∧ (Cond.methodLink K.y.cls ix j.y ∈ tw ∨ ∃ host, Cond.methodLinkNest K.y.cls ix j.y host ∈ tw) ∧ Cond.instanceMethod j.y ∈ tw ∧ nMH j ∧ nPar j n
theorem V_cI {j : Kt} {a n : Nat} {As rest : List Value} {v : Option Value} {h1 : List Ce} (s : SiteI K j pc n) (hD : Do l G j (.ref (a + 1) :: As) h (.inl v) h1) (hn : As.length = n) (hst : st = As.reverse ++ .ref (a + 1) :: rest) (hrest : (rest.map fun v => v.category).sum ≤ 8) (kk : V l G K h0 (pc + 3) ls (v.toList ++ rest) h1 r h') : V l G K h0 pc ls st h r h' := by
  obtain ⟨ix, s1, s2, s3, s4, s5, s6, s7, s8, s9⟩ := s
  rcases s6 with q | ⟨host, q⟩
  · exact V_call s1 s2 (lkI s1 s3 s4 s5 s2.1 q s7 s8 (fun sig hs => hn.trans (s9 sig hs)) hst) hrest hD kk
  · exact V_call s1 s2 (lkIN s1 s3 s4 s5 s2.1 q s7 s8 (fun sig hs => hn.trans (s9 sig hs)) hst) hrest hD kk
def SiteO (K : Kt) (pc : Nat) : Prop := ∃ ix, decode K.code pc = .ok (.invokespecial ix, 3) ∧ Cond.methodLink K.y.cls ix Lib.objectInit ∈ tw ∧ Cond.instanceMethod Lib.objectInit ∈ tw ∧ Cond.code Lib.objectInit ⟨#[0xb1]⟩ 1 none ∈ tw ∧ 1 ≤ K.fr ∧ 20 ≤ K.lo
theorem V_ob {a : Nat} (s : SiteO K pc) (hst : (st.map fun v => v.category).sum ≤ 8) (kk : V l G K h0 (pc + 3) ls st h r h') : V l G K h0 pc ls (.ref (a + 1) :: st) h r h' := by
  obtain ⟨ix, s1, s2, s3, s4, s5, s6⟩ := s
  exact V_objInit s1 s2 s3 s4 s5 (by omega) kk
def SiteM (K : Kt) (pc : Nat) (nm : MethodName) (cd : ByteArray) (n : Nat) : Prop := ∃ ix, decode K.code pc = .ok (.invokestatic ix, 3) ∧ Cond.methodLink K.y.cls ix nm ∈ tw ∧ Cond.static nm ∈ tw ∧ Cond.initialized "java/lang/Math" ∈ tw ∧ Cond.code nm cd n (some .int) ∈ tw ∧ 1 ≤ K.fr ∧ 21 ≤ K.lo
theorem V_max {x y : Int32} (s : SiteM K pc Lib.Math.max.name Lib.Math.max.code 2) (hst : (st.map fun v => v.category).sum ≤ 8) (kk : V l G K h0 (pc + 3) ls (.int (if x < y then y else x) :: st) h r h') : V l G K h0 pc ls (.int y :: .int x :: st) h r h' := by
  obtain ⟨ix, s1, s2, s3, s4, s5, s6, s7⟩ := s
  exact V_mmax s1 s2 s3 s4 s5 s6 (by omega) kk
theorem V_min {x y : Int32} (s : SiteM K pc Lib.Math.min.name Lib.Math.min.code 2) (hst : (st.map fun v => v.category).sum ≤ 8) (kk : V l G K h0 (pc + 3) ls (.int (if y < x then y else x) :: st) h r h') : V l G K h0 pc ls (.int y :: .int x :: st) h r h' := by
  obtain ⟨ix, s1, s2, s3, s4, s5, s6, s7⟩ := s
  exact V_mmin s1 s2 s3 s4 s5 s6 (by omega) kk
theorem V_abs {x : Int32} (s : SiteM K pc Lib.Math.abs.name Lib.Math.abs.code 1) (hst : (st.map fun v => v.category).sum ≤ 8) (kk : V l G K h0 (pc + 3) ls (.int (if 0 ≤ x then x else 0 - x) :: st) h r h') : V l G K h0 pc ls (.int x :: st) h r h' := by
  obtain ⟨ix, s1, s2, s3, s4, s5, s6, s7⟩ := s
  exact V_mabs s1 s2 s3 s4 s5 s6 (by omega) kk
def SiteC (K : Kt) (pc : Nat) : Prop := ∃ ix, decode K.code pc = .ok (.invokestatic ix, 3) ∧ Cond.methodLink K.y.cls ix arraycopyName ∈ tw ∧ Cond.native arraycopyName ∈ tw ∧ Cond.static arraycopyName ∈ tw ∧ Cond.initialized "java/lang/System" ∈ tw ∧ 1 ≤ K.fr ∧ 8 + (nativeFrameWords "java/lang/System" "arraycopy" 5 + 11) ≤ K.lo
theorem V_cpy {a b n0 n1 : Nat} {f g : Nat → Int32} {sp dp n : Int32} (s : SiteC K pc) (ha : h[a]? = some (.inl (.int, n0, .inl f))) (hb : h[b]? = some (.inl (.int, n1, .inl g))) (h1 : ¬ sp < 0) (h2 : ¬ dp < 0) (h3 : ¬ n < 0) (h4 : sp.toNatClampNeg + n.toNatClampNeg ≤ n0) (h5 : dp.toNatClampNeg + n.toNatClampNeg ≤ n1) (hst : (st.map fun v => v.category).sum ≤ 8) (kk : V l G K h0 (pc + 3) ls st (h.set b (.inl (.int, n1, .inl (va_cpy f g sp.toNatClampNeg dp.toNatClampNeg n.toNatClampNeg)))) r h') : V l G K h0 pc ls (.int n :: .int dp :: .ref (b + 1) :: .int sp :: .ref (a + 1) :: st) h r h' := by
  obtain ⟨ix, s1, s2, s3, s4, s5, s6, s7⟩ := s
  exact V_copyi s1 s2 s3 s4 s5 ha hb h1 h2 h3 h4 h5 s6 (by omega) kk
end R6
end
section
/-! the methods; how many parameters they take -/
def k_Pm_init : Kt := (⟨R_Pm, "<init>", "(III)V"⟩, prog_1_method_1_code, 6, none, 2, 43, [])
theorem np_Pm_init : nPar k_Pm_init 3 := fun sig hs => by
  have e : parseMethodDescriptor k_Pm_init.y.desc = some sig := hs
  have e2 : (parseMethodDescriptor k_Pm_init.y.desc).map (fun q => q.parameters.length) = some 3 := by decide +kernel
  rw [e] at e2
  exact (Option.some.inj e2).symm
theorem kw_Pm_init : k_Pm_init.w ∈ tw := tx1 23 rfl rfl
def k_Pm_within : Kt := (⟨R_Pm, "within", "(III)I"⟩, prog_1_method_24_code, 3, (some .int), 1, 21, [])
theorem np_Pm_within : nPar k_Pm_within 3 := fun sig hs => by
  have e : parseMethodDescriptor k_Pm_within.y.desc = some sig := hs
  have e2 : (parseMethodDescriptor k_Pm_within.y.desc).map (fun q => q.parameters.length) = some 3 := by decide +kernel
  rw [e] at e2
  exact (Option.some.inj e2).symm
theorem kw_Pm_within : k_Pm_within.w ∈ tw := tx1 29 rfl rfl
def k_Ph_init : Kt := (⟨R_Ph, "<init>", "(II)V"⟩, prog_5_method_1_code, 3, none, 1, 20, [])
theorem np_Ph_init : nPar k_Ph_init 2 := fun sig hs => by
  have e : parseMethodDescriptor k_Ph_init.y.desc = some sig := hs
  have e2 : (parseMethodDescriptor k_Ph_init.y.desc).map (fun q => q.parameters.length) = some 2 := by decide +kernel
  rw [e] at e2
  exact (Option.some.inj e2).symm
theorem kw_Ph_init : k_Ph_init.w ∈ tw := tx1 40 rfl rfl
def k_Se_init : Kt := (⟨R_Se, "<init>", "(II)V"⟩, prog_8_method_1_code, 3, none, 1, 20, [])
theorem np_Se_init : nPar k_Se_init 2 := fun sig hs => by
  have e : parseMethodDescriptor k_Se_init.y.desc = some sig := hs
  have e2 : (parseMethodDescriptor k_Se_init.y.desc).map (fun q => q.parameters.length) = some 2 := by decide +kernel
  rw [e] at e2
  exact (Option.some.inj e2).symm
theorem kw_Se_init : k_Se_init.w ∈ tw := tx1 57 rfl rfl
def k_Pl_init : Kt := (⟨R_Pl, "<init>", "()V"⟩, prog_6_method_1_code, 1, none, 1, 20, [])
theorem np_Pl_init : nPar k_Pl_init 0 := fun sig hs => by
  have e : parseMethodDescriptor k_Pl_init.y.desc = some sig := hs
  have e2 : (parseMethodDescriptor k_Pl_init.y.desc).map (fun q => q.parameters.length) = some 0 := by decide +kernel
  rw [e] at e2
  exact (Option.some.inj e2).symm
theorem kw_Pl_init : k_Pl_init.w ∈ tw := tx1 85 rfl rfl
def k_Ag_init : Kt := (⟨R_Ag, "<init>", "(I)V"⟩, prog_3_method_1_code, 2, none, 1, 20, [])
theorem np_Ag_init : nPar k_Ag_init 1 := fun sig hs => by
  have e : parseMethodDescriptor k_Ag_init.y.desc = some sig := hs
  have e2 : (parseMethodDescriptor k_Ag_init.y.desc).map (fun q => q.parameters.length) = some 1 := by decide +kernel
  rw [e] at e2
  exact (Option.some.inj e2).symm
theorem kw_Ag_init : k_Ag_init.w ∈ tw := tx1 109 rfl rfl
def k_Ad_init : Kt := (⟨R_Ad, "<init>", "()V"⟩, prog_2_method_1_code, 1, none, 1, 20, [])
theorem np_Ad_init : nPar k_Ad_init 0 := fun sig hs => by
  have e : parseMethodDescriptor k_Ad_init.y.desc = some sig := hs
  have e2 : (parseMethodDescriptor k_Ad_init.y.desc).map (fun q => q.parameters.length) = some 0 := by decide +kernel
  rw [e] at e2
  exact (Option.some.inj e2).symm
theorem kw_Ad_init : k_Ad_init.w ∈ tw := tx1 137 rfl rfl
def k_Le_init : Kt := (⟨R_Le, "<init>", "()V"⟩, prog_4_method_1_code, 1, none, 1, 20, [])
theorem np_Le_init : nPar k_Le_init 0 := fun sig hs => by
  have e : parseMethodDescriptor k_Le_init.y.desc = some sig := hs
  have e2 : (parseMethodDescriptor k_Le_init.y.desc).map (fun q => q.parameters.length) = some 0 := by decide +kernel
  rw [e] at e2
  exact (Option.some.inj e2).symm
theorem kw_Le_init : k_Le_init.w ∈ tw := tx1 156 rfl rfl
def k_Re_init : Kt := (⟨R_Re, "<init>", "(II)V"⟩, prog_7_method_1_code, 3, none, 1, 20, [])
theorem np_Re_init : nPar k_Re_init 2 := fun sig hs => by
  have e : parseMethodDescriptor k_Re_init.y.desc = some sig := hs
  have e2 : (parseMethodDescriptor k_Re_init.y.desc).map (fun q => q.parameters.length) = some 2 := by decide +kernel
  rw [e] at e2
  exact (Option.some.inj e2).symm
theorem kw_Re_init : k_Re_init.w ∈ tw := tx1 175 rfl rfl
def k_Pm_sum : Kt := (⟨R_Pm, "sum", "()J"⟩, prog_1_method_11_code, 1, (some .long), 3, 75, [])
theorem np_Pm_sum : nPar k_Pm_sum 0 := fun sig hs => by
  have e : parseMethodDescriptor k_Pm_sum.y.desc = some sig := hs
  have e2 : (parseMethodDescriptor k_Pm_sum.y.desc).map (fun q => q.parameters.length) = some 0 := by decide +kernel
  rw [e] at e2
  exact (Option.some.inj e2).symm
theorem kw_Pm_sum : k_Pm_sum.w ∈ tw := tx1 233 rfl rfl
def k_Ad_total : Kt := (⟨R_Ad, "total", "(LPhotoModels$Places;)J"⟩, prog_2_method_5_code, 5, (some .long), 2, 51, [])
theorem np_Ad_total : nPar k_Ad_total 1 := fun sig hs => by
  have e : parseMethodDescriptor k_Ad_total.y.desc = some sig := hs
  have e2 : (parseMethodDescriptor k_Ad_total.y.desc).map (fun q => q.parameters.length) = some 1 := by decide +kernel
  rw [e] at e2
  exact (Option.some.inj e2).symm
theorem kw_Ad_total : k_Ad_total.w ∈ tw := tx1 237 rfl rfl
def k_Pl_number : Kt := (⟨R_Pl, "number", "()I"⟩, prog_6_method_2_code, 1, (some .int), 0, 0, [])
theorem np_Pl_number : nPar k_Pl_number 0 := fun sig hs => by
  have e : parseMethodDescriptor k_Pl_number.y.desc = some sig := hs
  have e2 : (parseMethodDescriptor k_Pl_number.y.desc).map (fun q => q.parameters.length) = some 0 := by decide +kernel
  rw [e] at e2
  exact (Option.some.inj e2).symm
theorem kw_Pl_number : k_Pl_number.w ∈ tw := tx2 1 rfl rfl
def k_Pl_isSpare : Kt := (⟨R_Pl, "isSpare", "(I)Z"⟩, prog_6_method_6_code, 2, (some .boolean), 0, 0, [])
theorem np_Pl_isSpare : nPar k_Pl_isSpare 1 := fun sig hs => by
  have e : parseMethodDescriptor k_Pl_isSpare.y.desc = some sig := hs
  have e2 : (parseMethodDescriptor k_Pl_isSpare.y.desc).map (fun q => q.parameters.length) = some 1 := by decide +kernel
  rw [e] at e2
  exact (Option.some.inj e2).symm
theorem kw_Pl_isSpare : k_Pl_isSpare.w ∈ tw := tx2 5 rfl rfl
def k_Ad_share : Kt := (⟨R_Ad, "share", "(LPhotoModels$Places;I)J"⟩, prog_2_method_6_code, 9, (some .long), 1, 23, [])
theorem np_Ad_share : nPar k_Ad_share 2 := fun sig hs => by
  have e : parseMethodDescriptor k_Ad_share.y.desc = some sig := hs
  have e2 : (parseMethodDescriptor k_Ad_share.y.desc).map (fun q => q.parameters.length) = some 2 := by decide +kernel
  rw [e] at e2
  exact (Option.some.inj e2).symm
theorem kw_Ad_share : k_Ad_share.w ∈ tw := tx2 9 rfl rfl
def k_Pl_isNoted : Kt := (⟨R_Pl, "isNoted", "(II)Z"⟩, prog_6_method_8_code, 3, (some .boolean), 0, 0, [])
theorem np_Pl_isNoted : nPar k_Pl_isNoted 2 := fun sig hs => by
  have e : parseMethodDescriptor k_Pl_isNoted.y.desc = some sig := hs
  have e2 : (parseMethodDescriptor k_Pl_isNoted.y.desc).map (fun q => q.parameters.length) = some 2 := by decide +kernel
  rw [e] at e2
  exact (Option.some.inj e2).symm
theorem kw_Pl_isNoted : k_Pl_isNoted.w ∈ tw := tx2 13 rfl rfl
def k_Pl_where : Kt := (⟨R_Pl, "where", "(III)I"⟩, prog_6_method_9_code, 4, (some .int), 0, 0, [])
theorem np_Pl_where : nPar k_Pl_where 3 := fun sig hs => by
  have e : parseMethodDescriptor k_Pl_where.y.desc = some sig := hs
  have e2 : (parseMethodDescriptor k_Pl_where.y.desc).map (fun q => q.parameters.length) = some 3 := by decide +kernel
  rw [e] at e2
  exact (Option.some.inj e2).symm
theorem kw_Pl_where : k_Pl_where.w ∈ tw := tx2 18 rfl rfl
def k_Ad_position : Kt := (⟨R_Ad, "position", "(II)I"⟩, prog_2_method_2_code, 3, (some .int), 0, 0, [])
theorem np_Ad_position : nPar k_Ad_position 2 := fun sig hs => by
  have e : parseMethodDescriptor k_Ad_position.y.desc = some sig := hs
  have e2 : (parseMethodDescriptor k_Ad_position.y.desc).map (fun q => q.parameters.length) = some 2 := by decide +kernel
  rw [e] at e2
  exact (Option.some.inj e2).symm
theorem kw_Ad_position : k_Ad_position.w ∈ tw := tx2 22 rfl rfl
def k_Ad_moved : Kt := (⟨R_Ad, "moved", "(II)I"⟩, prog_2_method_3_code, 3, (some .int), 0, 0, [])
theorem np_Ad_moved : nPar k_Ad_moved 2 := fun sig hs => by
  have e : parseMethodDescriptor k_Ad_moved.y.desc = some sig := hs
  have e2 : (parseMethodDescriptor k_Ad_moved.y.desc).map (fun q => q.parameters.length) = some 2 := by decide +kernel
  rw [e] at e2
  exact (Option.some.inj e2).symm
theorem kw_Ad_moved : k_Ad_moved.w ∈ tw := tx2 26 rfl rfl
def k_La_cell : Kt := (⟨R_La, "cell", "([II)I"⟩, method_2_code, 2, (some .int), 0, 0, [])
theorem np_La_cell : nPar k_La_cell 2 := fun sig hs => by
  have e : parseMethodDescriptor k_La_cell.y.desc = some sig := hs
  have e2 : (parseMethodDescriptor k_La_cell.y.desc).map (fun q => q.parameters.length) = some 2 := by decide +kernel
  rw [e] at e2
  exact (Option.some.inj e2).symm
theorem kw_La_cell : k_La_cell.w ∈ tw := tx2 29 rfl rfl
def k_La_pixel : Kt := (⟨R_La, "pixel", "(LPhotoModels;IIII[J)I"⟩, method_3_code, 7, (some .int), 8, 139, [(0, 14, 17, 13), (0, 14, 21, 15)])
theorem np_La_pixel : nPar k_La_pixel 6 := fun sig hs => by
  have e : parseMethodDescriptor k_La_pixel.y.desc = some sig := hs
  have e2 : (parseMethodDescriptor k_La_pixel.y.desc).map (fun q => q.parameters.length) = some 6 := by decide +kernel
  rw [e] at e2
  exact (Option.some.inj e2).symm
theorem kw_La_pixel : k_La_pixel.w ∈ tw := tx2 32 rfl rfl
def k_Pm_pixel : Kt := (⟨R_Pm, "pixel", "(IIII)I"⟩, prog_1_method_2_code, 5, (some .int), 7, 115, [])
theorem np_Pm_pixel : nPar k_Pm_pixel 4 := fun sig hs => by
  have e : parseMethodDescriptor k_Pm_pixel.y.desc = some sig := hs
  have e2 : (parseMethodDescriptor k_Pm_pixel.y.desc).map (fun q => q.parameters.length) = some 4 := by decide +kernel
  rw [e] at e2
  exact (Option.some.inj e2).symm
theorem kw_Pm_pixel : k_Pm_pixel.w ∈ tw := tx2 38 rfl rfl
def k_Pm_isPhoto : Kt := (⟨R_Pm, "isPhoto", "(I)Z"⟩, prog_1_method_21_code, 1, (some .boolean), 1, 22, [])
theorem np_Pm_isPhoto : nPar k_Pm_isPhoto 1 := fun sig hs => by
  have e : parseMethodDescriptor k_Pm_isPhoto.y.desc = some sig := hs
  have e2 : (parseMethodDescriptor k_Pm_isPhoto.y.desc).map (fun q => q.parameters.length) = some 1 := by decide +kernel
  rw [e] at e2
  exact (Option.some.inj e2).symm
theorem kw_Pm_isPhoto : k_Pm_isPhoto.w ∈ tw := tx2 41 rfl rfl
def k_Pm_isWithin : Kt := (⟨R_Pm, "isWithin", "(III)Z"⟩, prog_1_method_23_code, 3, (some .boolean), 0, 0, [])
theorem np_Pm_isWithin : nPar k_Pm_isWithin 3 := fun sig hs => by
  have e : parseMethodDescriptor k_Pm_isWithin.y.desc = some sig := hs
  have e2 : (parseMethodDescriptor k_Pm_isWithin.y.desc).map (fun q => q.parameters.length) = some 3 := by decide +kernel
  rw [e] at e2
  exact (Option.some.inj e2).symm
theorem kw_Pm_isWithin : k_Pm_isWithin.w ∈ tw := tx2 44 rfl rfl
def k_Ph_hasCell : Kt := (⟨R_Ph, "hasCell", "(II)Z"⟩, prog_5_method_4_code, 3, (some .boolean), 1, 22, [])
theorem np_Ph_hasCell : nPar k_Ph_hasCell 2 := fun sig hs => by
  have e : parseMethodDescriptor k_Ph_hasCell.y.desc = some sig := hs
  have e2 : (parseMethodDescriptor k_Ph_hasCell.y.desc).map (fun q => q.parameters.length) = some 2 := by decide +kernel
  rw [e] at e2
  exact (Option.some.inj e2).symm
theorem kw_Ph_hasCell : k_Ph_hasCell.w ∈ tw := tx2 48 rfl rfl
def k_Pm_needIndex : Kt := (⟨R_Pm, "needIndex", "(Z)V"⟩, prog_1_method_25_code, 1, none, 6, 95, [])
theorem np_Pm_needIndex : nPar k_Pm_needIndex 1 := fun sig hs => by
  have e : parseMethodDescriptor k_Pm_needIndex.y.desc = some sig := hs
  have e2 : (parseMethodDescriptor k_Pm_needIndex.y.desc).map (fun q => q.parameters.length) = some 1 := by decide +kernel
  rw [e] at e2
  exact (Option.some.inj e2).symm
theorem kw_Pm_needIndex : k_Pm_needIndex.w ∈ tw := tx2 52 rfl rfl
def k_Pm_needArgument : Kt := (⟨R_Pm, "needArgument", "(Z)V"⟩, prog_1_method_26_code, 1, none, 6, 95, [])
theorem np_Pm_needArgument : nPar k_Pm_needArgument 1 := fun sig hs => by
  have e : parseMethodDescriptor k_Pm_needArgument.y.desc = some sig := hs
  have e2 : (parseMethodDescriptor k_Pm_needArgument.y.desc).map (fun q => q.parameters.length) = some 1 := by decide +kernel
  rw [e] at e2
  exact (Option.some.inj e2).symm
theorem kw_Pm_needArgument : k_Pm_needArgument.w ∈ tw := tx2 123 rfl rfl
def k_Ph_change : Kt := (⟨R_Ph, "change", "(IIII)I"⟩, prog_5_method_7_code, 7, (some .int), 1, 23, [])
theorem np_Ph_change : nPar k_Ph_change 4 := fun sig hs => by
  have e : parseMethodDescriptor k_Ph_change.y.desc = some sig := hs
  have e2 : (parseMethodDescriptor k_Ph_change.y.desc).map (fun q => q.parameters.length) = some 4 := by decide +kernel
  rw [e] at e2
  exact (Option.some.inj e2).symm
theorem kw_Ph_change : k_Ph_change.w ∈ tw := tx2 143 rfl rfl
def k_Ph_index : Kt := (⟨R_Ph, "index", "(III)I"⟩, prog_5_method_9_code, 4, (some .int), 0, 0, [])
theorem np_Ph_index : nPar k_Ph_index 3 := fun sig hs => by
  have e : parseMethodDescriptor k_Ph_index.y.desc = some sig := hs
  have e2 : (parseMethodDescriptor k_Ph_index.y.desc).map (fun q => q.parameters.length) = some 3 := by decide +kernel
  rw [e] at e2
  exact (Option.some.inj e2).symm
theorem kw_Ph_index : k_Ph_index.w ∈ tw := tx2 147 rfl rfl
def k_La_match : Kt := (⟨R_La, "match", "(LPhotoModels;IIII[J)I"⟩, method_4_code, 7, (some .int), 8, 139, [(0, 14, 17, 13)])
theorem np_La_match : nPar k_La_match 6 := fun sig hs => by
  have e : parseMethodDescriptor k_La_match.y.desc = some sig := hs
  have e2 : (parseMethodDescriptor k_La_match.y.desc).map (fun q => q.parameters.length) = some 6 := by decide +kernel
  rw [e] at e2
  exact (Option.some.inj e2).symm
theorem kw_La_match : k_La_match.w ∈ tw := tx2 150 rfl rfl
def k_Pm_match : Kt := (⟨R_Pm, "match", "(IIII)I"⟩, prog_1_method_3_code, 5, (some .int), 7, 115, [])
theorem np_Pm_match : nPar k_Pm_match 4 := fun sig hs => by
  have e : parseMethodDescriptor k_Pm_match.y.desc = some sig := hs
  have e2 : (parseMethodDescriptor k_Pm_match.y.desc).map (fun q => q.parameters.length) = some 4 := by decide +kernel
  rw [e] at e2
  exact (Option.some.inj e2).symm
theorem kw_Pm_match : k_Pm_match.w ∈ tw := tx2 154 rfl rfl
def k_Ph_hasWindow : Kt := (⟨R_Ph, "hasWindow", "(II)Z"⟩, prog_5_method_5_code, 3, (some .boolean), 1, 22, [])
theorem np_Ph_hasWindow : nPar k_Ph_hasWindow 2 := fun sig hs => by
  have e : parseMethodDescriptor k_Ph_hasWindow.y.desc = some sig := hs
  have e2 : (parseMethodDescriptor k_Ph_hasWindow.y.desc).map (fun q => q.parameters.length) = some 2 := by decide +kernel
  rw [e] at e2
  exact (Option.some.inj e2).symm
theorem kw_Ph_hasWindow : k_Ph_hasWindow.w ∈ tw := tx2 158 rfl rfl
def k_Se_look : Kt := (⟨R_Se, "look", "(LPhotoModels$Photos;IIII)I"⟩, prog_8_method_4_code, 10, (some .int), 3, 67, [])
theorem np_Se_look : nPar k_Se_look 5 := fun sig hs => by
  have e : parseMethodDescriptor k_Se_look.y.desc = some sig := hs
  have e2 : (parseMethodDescriptor k_Se_look.y.desc).map (fun q => q.parameters.length) = some 5 := by decide +kernel
  rw [e] at e2
  exact (Option.some.inj e2).symm
theorem kw_Se_look : k_Se_look.w ∈ tw := tx2 162 rfl rfl
def k_Ph_windowMiss : Kt := (⟨R_Ph, "windowMiss", "(IIIIII)I"⟩, prog_5_method_8_code, 13, (some .int), 1, 23, [])
theorem np_Ph_windowMiss : nPar k_Ph_windowMiss 6 := fun sig hs => by
  have e : parseMethodDescriptor k_Ph_windowMiss.y.desc = some sig := hs
  have e2 : (parseMethodDescriptor k_Ph_windowMiss.y.desc).map (fun q => q.parameters.length) = some 6 := by decide +kernel
  rw [e] at e2
  exact (Option.some.inj e2).symm
theorem kw_Ph_windowMiss : k_Ph_windowMiss.w ∈ tw := tx2 167 rfl rfl
def k_Se_leastFarFromFound : Kt := (⟨R_Se, "leastFarFromFound", "()I"⟩, prog_8_method_5_code, 5, (some .int), 2, 43, [])
theorem np_Se_leastFarFromFound : nPar k_Se_leastFarFromFound 0 := fun sig hs => by
  have e : parseMethodDescriptor k_Se_leastFarFromFound.y.desc = some sig := hs
  have e2 : (parseMethodDescriptor k_Se_leastFarFromFound.y.desc).map (fun q => q.parameters.length) = some 0 := by decide +kernel
  rw [e] at e2
  exact (Option.some.inj e2).symm
theorem kw_Se_leastFarFromFound : k_Se_leastFarFromFound.w ∈ tw := tx2 171 rfl rfl
def k_Se_isFarFromFound : Kt := (⟨R_Se, "isFarFromFound", "(II)Z"⟩, prog_8_method_6_code, 3, (some .boolean), 1, 21, [])
theorem np_Se_isFarFromFound : nPar k_Se_isFarFromFound 2 := fun sig hs => by
  have e : parseMethodDescriptor k_Se_isFarFromFound.y.desc = some sig := hs
  have e2 : (parseMethodDescriptor k_Se_isFarFromFound.y.desc).map (fun q => q.parameters.length) = some 2 := by decide +kernel
  rw [e] at e2
  exact (Option.some.inj e2).symm
theorem kw_Se_isFarFromFound : k_Se_isFarFromFound.w ∈ tw := tx2 175 rfl rfl
def k_La_found : Kt := (⟨R_La, "found", "(LPhotoModels;I[J)I"⟩, method_5_code, 4, (some .int), 8, 136, [(0, 9, 12, 13), (0, 9, 15, 24)])
theorem np_La_found : nPar k_La_found 3 := fun sig hs => by
  have e : parseMethodDescriptor k_La_found.y.desc = some sig := hs
  have e2 : (parseMethodDescriptor k_La_found.y.desc).map (fun q => q.parameters.length) = some 3 := by decide +kernel
  rw [e] at e2
  exact (Option.some.inj e2).symm
theorem kw_La_found : k_La_found.w ∈ tw := tx2 181 rfl rfl
def k_Pm_found : Kt := (⟨R_Pm, "found", "(I)I"⟩, prog_1_method_4_code, 2, (some .int), 7, 115, [])
theorem np_Pm_found : nPar k_Pm_found 1 := fun sig hs => by
  have e : parseMethodDescriptor k_Pm_found.y.desc = some sig := hs
  have e2 : (parseMethodDescriptor k_Pm_found.y.desc).map (fun q => q.parameters.length) = some 1 := by decide +kernel
  rw [e] at e2
  exact (Option.some.inj e2).symm
theorem kw_Pm_found : k_Pm_found.w ∈ tw := tx2 186 rfl rfl
def k_Se_isDone : Kt := (⟨R_Se, "isDone", "()Z"⟩, prog_8_method_2_code, 1, (some .boolean), 0, 0, [])
theorem np_Se_isDone : nPar k_Se_isDone 0 := fun sig hs => by
  have e : parseMethodDescriptor k_Se_isDone.y.desc = some sig := hs
  have e2 : (parseMethodDescriptor k_Se_isDone.y.desc).map (fun q => q.parameters.length) = some 0 := by decide +kernel
  rw [e] at e2
  exact (Option.some.inj e2).symm
theorem kw_Se_isDone : k_Se_isDone.w ∈ tw := tx2 190 rfl rfl
def k_Pm_needState : Kt := (⟨R_Pm, "needState", "(Z)V"⟩, prog_1_method_27_code, 1, none, 6, 95, [])
theorem np_Pm_needState : nPar k_Pm_needState 1 := fun sig hs => by
  have e : parseMethodDescriptor k_Pm_needState.y.desc = some sig := hs
  have e2 : (parseMethodDescriptor k_Pm_needState.y.desc).map (fun q => q.parameters.length) = some 1 := by decide +kernel
  rw [e] at e2
  exact (Option.some.inj e2).symm
theorem kw_Pm_needState : k_Pm_needState.w ∈ tw := tx2 193 rfl rfl
def k_Se_answer : Kt := (⟨R_Se, "answer", "(I)I"⟩, prog_8_method_3_code, 2, (some .int), 0, 0, [])
theorem np_Se_answer : nPar k_Se_answer 1 := fun sig hs => by
  have e : parseMethodDescriptor k_Se_answer.y.desc = some sig := hs
  have e2 : (parseMethodDescriptor k_Se_answer.y.desc).map (fun q => q.parameters.length) = some 1 := by decide +kernel
  rw [e] at e2
  exact (Option.some.inj e2).symm
theorem kw_Se_answer : k_Se_answer.w ∈ tw := tx2 213 rfl rfl
def k_La_place : Kt := (⟨R_La, "place", "(LPhotoModels;[J)I"⟩, method_6_code, 3, (some .int), 8, 135, [(0, 8, 11, 24)])
theorem np_La_place : nPar k_La_place 2 := fun sig hs => by
  have e : parseMethodDescriptor k_La_place.y.desc = some sig := hs
  have e2 : (parseMethodDescriptor k_La_place.y.desc).map (fun q => q.parameters.length) = some 2 := by decide +kernel
  rw [e] at e2
  exact (Option.some.inj e2).symm
theorem kw_La_place : k_La_place.w ∈ tw := tx2 216 rfl rfl
def k_Pm_place : Kt := (⟨R_Pm, "place", "()I"⟩, prog_1_method_5_code, 1, (some .int), 7, 115, [])
theorem np_Pm_place : nPar k_Pm_place 0 := fun sig hs => by
  have e : parseMethodDescriptor k_Pm_place.y.desc = some sig := hs
  have e2 : (parseMethodDescriptor k_Pm_place.y.desc).map (fun q => q.parameters.length) = some 0 := by decide +kernel
  rw [e] at e2
  exact (Option.some.inj e2).symm
theorem kw_Pm_place : k_Pm_place.w ∈ tw := tx2 220 rfl rfl
def k_Pl_add : Kt := (⟨R_Pl, "add", "()I"⟩, prog_6_method_5_code, 2, (some .int), 0, 0, [])
theorem np_Pl_add : nPar k_Pl_add 0 := fun sig hs => by
  have e : parseMethodDescriptor k_Pl_add.y.desc = some sig := hs
  have e2 : (parseMethodDescriptor k_Pl_add.y.desc).map (fun q => q.parameters.length) = some 0 := by decide +kernel
  rw [e] at e2
  exact (Option.some.inj e2).symm
theorem kw_Pl_add : k_Pl_add.w ∈ tw := tx2 225 rfl rfl
def k_La_seen : Kt := (⟨R_La, "seen", "(LPhotoModels;IIII[J)I"⟩, method_7_code, 7, (some .int), 8, 139, [(0, 21, 24, 13), (0, 21, 28, 15)])
theorem np_La_seen : nPar k_La_seen 6 := fun sig hs => by
  have e : parseMethodDescriptor k_La_seen.y.desc = some sig := hs
  have e2 : (parseMethodDescriptor k_La_seen.y.desc).map (fun q => q.parameters.length) = some 6 := by decide +kernel
  rw [e] at e2
  exact (Option.some.inj e2).symm
theorem kw_La_seen : k_La_seen.w ∈ tw := tx2 228 rfl rfl
def k_Pm_seen : Kt := (⟨R_Pm, "seen", "(IIII)Z"⟩, prog_1_method_6_code, 5, (some .boolean), 7, 115, [])
theorem np_Pm_seen : nPar k_Pm_seen 4 := fun sig hs => by
  have e : parseMethodDescriptor k_Pm_seen.y.desc = some sig := hs
  have e2 : (parseMethodDescriptor k_Pm_seen.y.desc).map (fun q => q.parameters.length) = some 4 := by decide +kernel
  rw [e] at e2
  exact (Option.some.inj e2).symm
theorem kw_Pm_seen : k_Pm_seen.w ∈ tw := tx2 232 rfl rfl
def k_Pl_has : Kt := (⟨R_Pl, "has", "(I)Z"⟩, prog_6_method_4_code, 2, (some .boolean), 0, 0, [])
theorem np_Pl_has : nPar k_Pl_has 1 := fun sig hs => by
  have e : parseMethodDescriptor k_Pl_has.y.desc = some sig := hs
  have e2 : (parseMethodDescriptor k_Pl_has.y.desc).map (fun q => q.parameters.length) = some 1 := by decide +kernel
  rw [e] at e2
  exact (Option.some.inj e2).symm
theorem kw_Pl_has : k_Pl_has.w ∈ tw := tx2 236 rfl rfl
def k_Pl_forget : Kt := (⟨R_Pl, "forget", "(II)Z"⟩, prog_6_method_10_code, 4, (some .boolean), 1, 22, [])
theorem np_Pl_forget : nPar k_Pl_forget 2 := fun sig hs => by
  have e : parseMethodDescriptor k_Pl_forget.y.desc = some sig := hs
  have e2 : (parseMethodDescriptor k_Pl_forget.y.desc).map (fun q => q.parameters.length) = some 2 := by decide +kernel
  rw [e] at e2
  exact (Option.some.inj e2).symm
theorem kw_Pl_forget : k_Pl_forget.w ∈ tw := tx3 0 rfl rfl
def k_Pl_note : Kt := (⟨R_Pl, "note", "(IIII)Z"⟩, prog_6_method_11_code, 7, (some .boolean), 0, 0, [])
theorem np_Pl_note : nPar k_Pl_note 4 := fun sig hs => by
  have e : parseMethodDescriptor k_Pl_note.y.desc = some sig := hs
  have e2 : (parseMethodDescriptor k_Pl_note.y.desc).map (fun q => q.parameters.length) = some 4 := by decide +kernel
  rw [e] at e2
  exact (Option.some.inj e2).symm
theorem kw_Pl_note : k_Pl_note.w ∈ tw := tx3 5 rfl rfl
def k_La_relative : Kt := (⟨R_La, "relative", "(LPhotoModels;IIII[J)I"⟩, method_8_code, 7, (some .int), 8, 139, [(0, 14, 17, 13), (0, 14, 21, 15)])
theorem np_La_relative : nPar k_La_relative 6 := fun sig hs => by
  have e : parseMethodDescriptor k_La_relative.y.desc = some sig := hs
  have e2 : (parseMethodDescriptor k_La_relative.y.desc).map (fun q => q.parameters.length) = some 6 := by decide +kernel
  rw [e] at e2
  exact (Option.some.inj e2).symm
theorem kw_La_relative : k_La_relative.w ∈ tw := tx3 8 rfl rfl
def k_Pm_relative : Kt := (⟨R_Pm, "relative", "(IIII)I"⟩, prog_1_method_7_code, 5, (some .int), 7, 115, [])
theorem np_Pm_relative : nPar k_Pm_relative 4 := fun sig hs => by
  have e : parseMethodDescriptor k_Pm_relative.y.desc = some sig := hs
  have e2 : (parseMethodDescriptor k_Pm_relative.y.desc).map (fun q => q.parameters.length) = some 4 := by decide +kernel
  rw [e] at e2
  exact (Option.some.inj e2).symm
theorem kw_Pm_relative : k_Pm_relative.w ∈ tw := tx3 12 rfl rfl
def k_Ag_draw : Kt := (⟨R_Ag, "draw", "(LPhotoModels$Places;IIII)I"⟩, prog_3_method_4_code, 10, (some .int), 2, 47, [])
theorem np_Ag_draw : nPar k_Ag_draw 5 := fun sig hs => by
  have e : parseMethodDescriptor k_Ag_draw.y.desc = some sig := hs
  have e2 : (parseMethodDescriptor k_Ag_draw.y.desc).map (fun q => q.parameters.length) = some 5 := by decide +kernel
  rw [e] at e2
  exact (Option.some.inj e2).symm
theorem kw_Ag_draw : k_Ag_draw.w ∈ tw := tx3 16 rfl rfl
def k_Ag_gatherShifts : Kt := (⟨R_Ag, "gatherShifts", "(LPhotoModels$Places;II)V"⟩, prog_3_method_5_code, 5, none, 1, 23, [])
theorem np_Ag_gatherShifts : nPar k_Ag_gatherShifts 3 := fun sig hs => by
  have e : parseMethodDescriptor k_Ag_gatherShifts.y.desc = some sig := hs
  have e2 : (parseMethodDescriptor k_Ag_gatherShifts.y.desc).map (fun q => q.parameters.length) = some 3 := by decide +kernel
  rw [e] at e2
  exact (Option.some.inj e2).symm
theorem kw_Ag_gatherShifts : k_Ag_gatherShifts.w ∈ tw := tx3 20 rfl rfl
def k_Ag_drawnNumber : Kt := (⟨R_Ag, "drawnNumber", "(I)I"⟩, prog_3_method_7_code, 4, (some .int), 0, 0, [])
theorem np_Ag_drawnNumber : nPar k_Ag_drawnNumber 1 := fun sig hs => by
  have e : parseMethodDescriptor k_Ag_drawnNumber.y.desc = some sig := hs
  have e2 : (parseMethodDescriptor k_Ag_drawnNumber.y.desc).map (fun q => q.parameters.length) = some 1 := by decide +kernel
  rw [e] at e2
  exact (Option.some.inj e2).symm
theorem kw_Ag_drawnNumber : k_Ag_drawnNumber.w ∈ tw := tx3 27 rfl rfl
def k_Ag_agreeingWith : Kt := (⟨R_Ag, "agreeingWith", "(II)I"⟩, prog_3_method_6_code, 5, (some .int), 1, 21, [])
theorem np_Ag_agreeingWith : nPar k_Ag_agreeingWith 2 := fun sig hs => by
  have e : parseMethodDescriptor k_Ag_agreeingWith.y.desc = some sig := hs
  have e2 : (parseMethodDescriptor k_Ag_agreeingWith.y.desc).map (fun q => q.parameters.length) = some 2 := by decide +kernel
  rw [e] at e2
  exact (Option.some.inj e2).symm
theorem kw_Ag_agreeingWith : k_Ag_agreeingWith.w ∈ tw := tx3 32 rfl rfl
def k_La_shift : Kt := (⟨R_La, "shift", "(LPhotoModels;I[J)I"⟩, method_9_code, 4, (some .int), 8, 136, [(0, 9, 12, 13), (0, 9, 15, 24)])
theorem np_La_shift : nPar k_La_shift 3 := fun sig hs => by
  have e : parseMethodDescriptor k_La_shift.y.desc = some sig := hs
  have e2 : (parseMethodDescriptor k_La_shift.y.desc).map (fun q => q.parameters.length) = some 3 := by decide +kernel
  rw [e] at e2
  exact (Option.some.inj e2).symm
theorem kw_La_shift : k_La_shift.w ∈ tw := tx3 36 rfl rfl
def k_Pm_shift : Kt := (⟨R_Pm, "shift", "(I)I"⟩, prog_1_method_8_code, 2, (some .int), 7, 115, [])
theorem np_Pm_shift : nPar k_Pm_shift 1 := fun sig hs => by
  have e : parseMethodDescriptor k_Pm_shift.y.desc = some sig := hs
  have e2 : (parseMethodDescriptor k_Pm_shift.y.desc).map (fun q => q.parameters.length) = some 1 := by decide +kernel
  rw [e] at e2
  exact (Option.some.inj e2).symm
theorem kw_Pm_shift : k_Pm_shift.w ∈ tw := tx3 40 rfl rfl
def k_Pm_isAxis : Kt := (⟨R_Pm, "isAxis", "(I)Z"⟩, prog_1_method_22_code, 1, (some .boolean), 1, 22, [])
theorem np_Pm_isAxis : nPar k_Pm_isAxis 1 := fun sig hs => by
  have e : parseMethodDescriptor k_Pm_isAxis.y.desc = some sig := hs
  have e2 : (parseMethodDescriptor k_Pm_isAxis.y.desc).map (fun q => q.parameters.length) = some 1 := by decide +kernel
  rw [e] at e2
  exact (Option.some.inj e2).symm
theorem kw_Pm_isAxis : k_Pm_isAxis.w ∈ tw := tx3 43 rfl rfl
def k_Ag_isReached : Kt := (⟨R_Ag, "isReached", "()Z"⟩, prog_3_method_2_code, 1, (some .boolean), 0, 0, [])
theorem np_Ag_isReached : nPar k_Ag_isReached 0 := fun sig hs => by
  have e : parseMethodDescriptor k_Ag_isReached.y.desc = some sig := hs
  have e2 : (parseMethodDescriptor k_Ag_isReached.y.desc).map (fun q => q.parameters.length) = some 0 := by decide +kernel
  rw [e] at e2
  exact (Option.some.inj e2).symm
theorem kw_Ag_isReached : k_Ag_isReached.w ∈ tw := tx3 47 rfl rfl
def k_Ag_along : Kt := (⟨R_Ag, "along", "(I)I"⟩, prog_3_method_3_code, 2, (some .int), 0, 0, [])
theorem np_Ag_along : nPar k_Ag_along 1 := fun sig hs => by
  have e : parseMethodDescriptor k_Ag_along.y.desc = some sig := hs
  have e2 : (parseMethodDescriptor k_Ag_along.y.desc).map (fun q => q.parameters.length) = some 1 := by decide +kernel
  rw [e] at e2
  exact (Option.some.inj e2).symm
theorem kw_Ag_along : k_Ag_along.w ∈ tw := tx3 51 rfl rfl
def k_La_spare : Kt := (⟨R_La, "spare", "(LPhotoModels;IZ[J)I"⟩, method_10_code, 5, (some .int), 8, 137, [(0, 17, 20, 13)])
theorem np_La_spare : nPar k_La_spare 4 := fun sig hs => by
  have e : parseMethodDescriptor k_La_spare.y.desc = some sig := hs
  have e2 : (parseMethodDescriptor k_La_spare.y.desc).map (fun q => q.parameters.length) = some 4 := by decide +kernel
  rw [e] at e2
  exact (Option.some.inj e2).symm
theorem kw_La_spare : k_La_spare.w ∈ tw := tx3 54 rfl rfl
def k_Pm_spare : Kt := (⟨R_Pm, "spare", "(IZ)Z"⟩, prog_1_method_9_code, 3, (some .boolean), 7, 115, [])
theorem np_Pm_spare : nPar k_Pm_spare 2 := fun sig hs => by
  have e : parseMethodDescriptor k_Pm_spare.y.desc = some sig := hs
  have e2 : (parseMethodDescriptor k_Pm_spare.y.desc).map (fun q => q.parameters.length) = some 2 := by decide +kernel
  rw [e] at e2
  exact (Option.some.inj e2).symm
theorem kw_Pm_spare : k_Pm_spare.w ∈ tw := tx3 58 rfl rfl
def k_Pl_setAside : Kt := (⟨R_Pl, "setAside", "(IZ)Z"⟩, prog_6_method_7_code, 3, (some .boolean), 0, 0, [])
theorem np_Pl_setAside : nPar k_Pl_setAside 2 := fun sig hs => by
  have e : parseMethodDescriptor k_Pl_setAside.y.desc = some sig := hs
  have e2 : (parseMethodDescriptor k_Pl_setAside.y.desc).map (fun q => q.parameters.length) = some 2 := by decide +kernel
  rw [e] at e2
  exact (Option.some.inj e2).symm
theorem kw_Pl_setAside : k_Pl_setAside.w ∈ tw := tx3 62 rfl rfl
def k_La_run : Kt := (⟨R_La, "run", "(LPhotoModels;I[J)I"⟩, method_11_code, 4, (some .int), 8, 169, [(0, 9, 12, 15)])
theorem np_La_run : nPar k_La_run 3 := fun sig hs => by
  have e : parseMethodDescriptor k_La_run.y.desc = some sig := hs
  have e2 : (parseMethodDescriptor k_La_run.y.desc).map (fun q => q.parameters.length) = some 3 := by decide +kernel
  rw [e] at e2
  exact (Option.some.inj e2).symm
theorem kw_La_run : k_La_run.w ∈ tw := tx3 65 rfl rfl
def k_Pm_run : Kt := (⟨R_Pm, "run", "(I)I"⟩, prog_1_method_10_code, 2, (some .int), 7, 148, [])
theorem np_Pm_run : nPar k_Pm_run 1 := fun sig hs => by
  have e : parseMethodDescriptor k_Pm_run.y.desc = some sig := hs
  have e2 : (parseMethodDescriptor k_Pm_run.y.desc).map (fun q => q.parameters.length) = some 1 := by decide +kernel
  rw [e] at e2
  exact (Option.some.inj e2).symm
theorem kw_Pm_run : k_Pm_run.w ∈ tw := tx3 69 rfl rfl
def k_Ad_adjust : Kt := (⟨R_Ad, "adjust", "(LPhotoModels$Places;I)I"⟩, prog_2_method_4_code, 8, (some .int), 5, 121, [])
theorem np_Ad_adjust : nPar k_Ad_adjust 2 := fun sig hs => by
  have e : parseMethodDescriptor k_Ad_adjust.y.desc = some sig := hs
  have e2 : (parseMethodDescriptor k_Ad_adjust.y.desc).map (fun q => q.parameters.length) = some 2 := by decide +kernel
  rw [e] at e2
  exact (Option.some.inj e2).symm
theorem kw_Ad_adjust : k_Ad_adjust.w ∈ tw := tx3 73 rfl rfl
def k_Ad_begin : Kt := (⟨R_Ad, "begin", "(LPhotoModels$Places;)V"⟩, prog_2_method_7_code, 2, none, 4, 98, [])
theorem np_Ad_begin : nPar k_Ad_begin 1 := fun sig hs => by
  have e : parseMethodDescriptor k_Ad_begin.y.desc = some sig := hs
  have e2 : (parseMethodDescriptor k_Ad_begin.y.desc).map (fun q => q.parameters.length) = some 1 := by decide +kernel
  rw [e] at e2
  exact (Option.some.inj e2).symm
theorem kw_Ad_begin : k_Ad_begin.w ∈ tw := tx3 77 rfl rfl
def k_Arr_fill : Kt := (⟨"java/util/Arrays", "fill", "([II)V"⟩, prog_20_method_103_code, 4, none, 0, 0, [])
theorem np_Arr_fill : nPar k_Arr_fill 2 := fun sig hs => by
  have e : parseMethodDescriptor k_Arr_fill.y.desc = some sig := hs
  have e2 : (parseMethodDescriptor k_Arr_fill.y.desc).map (fun q => q.parameters.length) = some 2 := by decide +kernel
  rw [e] at e2
  exact (Option.some.inj e2).symm
theorem kw_Arr_fill : k_Arr_fill.w ∈ tw := tx3 80 rfl rfl
def k_Ad_movePlaces : Kt := (⟨R_Ad, "movePlaces", "(LPhotoModels$Places;)V"⟩, prog_2_method_10_code, 4, none, 3, 75, [])
theorem np_Ad_movePlaces : nPar k_Ad_movePlaces 1 := fun sig hs => by
  have e : parseMethodDescriptor k_Ad_movePlaces.y.desc = some sig := hs
  have e2 : (parseMethodDescriptor k_Ad_movePlaces.y.desc).map (fun q => q.parameters.length) = some 1 := by decide +kernel
  rw [e] at e2
  exact (Option.some.inj e2).symm
theorem kw_Ad_movePlaces : k_Ad_movePlaces.w ∈ tw := tx3 84 rfl rfl
def k_Ad_movePlace : Kt := (⟨R_Ad, "movePlace", "(LPhotoModels$Places;II)V"⟩, prog_2_method_11_code, 8, none, 2, 48, [])
theorem np_Ad_movePlace : nPar k_Ad_movePlace 3 := fun sig hs => by
  have e : parseMethodDescriptor k_Ad_movePlace.y.desc = some sig := hs
  have e2 : (parseMethodDescriptor k_Ad_movePlace.y.desc).map (fun q => q.parameters.length) = some 3 := by decide +kernel
  rw [e] at e2
  exact (Option.some.inj e2).symm
theorem kw_Ad_movePlace : k_Ad_movePlace.w ∈ tw := tx3 88 rfl rfl
def k_Ad_mean : Kt := (⟨R_Ad, "mean", "(JII)I"⟩, prog_2_method_12_code, 4, (some .int), 1, 25, [])
theorem np_Ad_mean : nPar k_Ad_mean 3 := fun sig hs => by
  have e : parseMethodDescriptor k_Ad_mean.y.desc = some sig := hs
  have e2 : (parseMethodDescriptor k_Ad_mean.y.desc).map (fun q => q.parameters.length) = some 3 := by decide +kernel
  rw [e] at e2
  exact (Option.some.inj e2).symm
theorem kw_Ad_mean : k_Ad_mean.w ∈ tw := tx3 91 rfl rfl
def k_Math_floorDiv : Kt := (⟨"java/lang/Math", "floorDiv", "(JJ)J"⟩, prog_15_method_49_code, 6, (some .long), 0, 0, [])
theorem np_Math_floorDiv : nPar k_Math_floorDiv 2 := fun sig hs => by
  have e : parseMethodDescriptor k_Math_floorDiv.y.desc = some sig := hs
  have e2 : (parseMethodDescriptor k_Math_floorDiv.y.desc).map (fun q => q.parameters.length) = some 2 := by decide +kernel
  rw [e] at e2
  exact (Option.some.inj e2).symm
theorem kw_Math_floorDiv : k_Math_floorDiv.w ∈ tw := tx3 94 rfl rfl
def k_Ad_remember : Kt := (⟨R_Ad, "remember", "()V"⟩, prog_2_method_13_code, 1, none, 1, 60, [])
theorem np_Ad_remember : nPar k_Ad_remember 0 := fun sig hs => by
  have e : parseMethodDescriptor k_Ad_remember.y.desc = some sig := hs
  have e2 : (parseMethodDescriptor k_Ad_remember.y.desc).map (fun q => q.parameters.length) = some 0 := by decide +kernel
  rw [e] at e2
  exact (Option.some.inj e2).symm
theorem kw_Ad_remember : k_Ad_remember.w ∈ tw := tx3 99 rfl rfl
def k_Ad_doRound : Kt := (⟨R_Ad, "doRound", "(LPhotoModels$Places;)V"⟩, prog_2_method_8_code, 4, none, 4, 98, [])
theorem np_Ad_doRound : nPar k_Ad_doRound 1 := fun sig hs => by
  have e : parseMethodDescriptor k_Ad_doRound.y.desc = some sig := hs
  have e2 : (parseMethodDescriptor k_Ad_doRound.y.desc).map (fun q => q.parameters.length) = some 1 := by decide +kernel
  rw [e] at e2
  exact (Option.some.inj e2).symm
theorem kw_Ad_doRound : k_Ad_doRound.w ∈ tw := tx3 106 rfl rfl
def k_Ad_movePhoto : Kt := (⟨R_Ad, "movePhoto", "(LPhotoModels$Places;II)V"⟩, prog_2_method_9_code, 8, none, 2, 48, [])
theorem np_Ad_movePhoto : nPar k_Ad_movePhoto 3 := fun sig hs => by
  have e : parseMethodDescriptor k_Ad_movePhoto.y.desc = some sig := hs
  have e2 : (parseMethodDescriptor k_Ad_movePhoto.y.desc).map (fun q => q.parameters.length) = some 3 := by decide +kernel
  rw [e] at e2
  exact (Option.some.inj e2).symm
theorem kw_Ad_movePhoto : k_Ad_movePhoto.w ∈ tw := tx3 110 rfl rfl
def k_Ad_undo : Kt := (⟨R_Ad, "undo", "()V"⟩, prog_2_method_14_code, 1, none, 1, 60, [])
theorem np_Ad_undo : nPar k_Ad_undo 0 := fun sig hs => by
  have e : parseMethodDescriptor k_Ad_undo.y.desc = some sig := hs
  have e2 : (parseMethodDescriptor k_Ad_undo.y.desc).map (fun q => q.parameters.length) = some 0 := by decide +kernel
  rw [e] at e2
  exact (Option.some.inj e2).symm
theorem kw_Ad_undo : k_Ad_undo.w ∈ tw := tx3 114 rfl rfl
def k_La_at : Kt := (⟨R_La, "at", "(LPhotoModels;II[J)I"⟩, method_12_code, 5, (some .int), 8, 137, [(0, 10, 13, 13)])
theorem np_La_at : nPar k_La_at 4 := fun sig hs => by
  have e : parseMethodDescriptor k_La_at.y.desc = some sig := hs
  have e2 : (parseMethodDescriptor k_La_at.y.desc).map (fun q => q.parameters.length) = some 4 := by decide +kernel
  rw [e] at e2
  exact (Option.some.inj e2).symm
theorem kw_La_at : k_La_at.w ∈ tw := tx3 117 rfl rfl
def k_Pm_at : Kt := (⟨R_Pm, "at", "(II)I"⟩, prog_1_method_12_code, 3, (some .int), 7, 115, [])
theorem np_Pm_at : nPar k_Pm_at 2 := fun sig hs => by
  have e : parseMethodDescriptor k_Pm_at.y.desc = some sig := hs
  have e2 : (parseMethodDescriptor k_Pm_at.y.desc).map (fun q => q.parameters.length) = some 2 := by decide +kernel
  rw [e] at e2
  exact (Option.some.inj e2).symm
theorem kw_Pm_at : k_Pm_at.w ∈ tw := tx3 121 rfl rfl
def k_La_offset : Kt := (⟨R_La, "offset", "(LPhotoModels;II[J)I"⟩, method_13_code, 5, (some .int), 8, 137, [(0, 10, 13, 13)])
theorem np_La_offset : nPar k_La_offset 4 := fun sig hs => by
  have e : parseMethodDescriptor k_La_offset.y.desc = some sig := hs
  have e2 : (parseMethodDescriptor k_La_offset.y.desc).map (fun q => q.parameters.length) = some 4 := by decide +kernel
  rw [e] at e2
  exact (Option.some.inj e2).symm
theorem kw_La_offset : k_La_offset.w ∈ tw := tx3 125 rfl rfl
def k_Pm_offset : Kt := (⟨R_Pm, "offset", "(II)I"⟩, prog_1_method_13_code, 3, (some .int), 7, 115, [])
theorem np_Pm_offset : nPar k_Pm_offset 2 := fun sig hs => by
  have e : parseMethodDescriptor k_Pm_offset.y.desc = some sig := hs
  have e2 : (parseMethodDescriptor k_Pm_offset.y.desc).map (fun q => q.parameters.length) = some 2 := by decide +kernel
  rw [e] at e2
  exact (Option.some.inj e2).symm
theorem kw_Pm_offset : k_Pm_offset.w ∈ tw := tx3 129 rfl rfl
def k_La_miss : Kt := (⟨R_La, "miss", "(LPhotoModels;I[J)I"⟩, method_14_code, 4, (some .int), 8, 136, [(0, 8, 11, 13)])
theorem np_La_miss : nPar k_La_miss 3 := fun sig hs => by
  have e : parseMethodDescriptor k_La_miss.y.desc = some sig := hs
  have e2 : (parseMethodDescriptor k_La_miss.y.desc).map (fun q => q.parameters.length) = some 3 := by decide +kernel
  rw [e] at e2
  exact (Option.some.inj e2).symm
theorem kw_La_miss : k_La_miss.w ∈ tw := tx3 133 rfl rfl
def k_Pm_miss : Kt := (⟨R_Pm, "miss", "(I)J"⟩, prog_1_method_14_code, 2, (some .long), 7, 115, [])
theorem np_Pm_miss : nPar k_Pm_miss 1 := fun sig hs => by
  have e : parseMethodDescriptor k_Pm_miss.y.desc = some sig := hs
  have e2 : (parseMethodDescriptor k_Pm_miss.y.desc).map (fun q => q.parameters.length) = some 1 := by decide +kernel
  rw [e] at e2
  exact (Option.some.inj e2).symm
theorem kw_Pm_miss : k_Pm_miss.w ∈ tw := tx3 137 rfl rfl
def k_La_known : Kt := (⟨R_La, "known", "(LPhotoModels;III[J)I"⟩, method_15_code, 6, (some .int), 8, 138, [(0, 12, 15, 13), (0, 12, 19, 15), (0, 12, 23, 24)])
theorem np_La_known : nPar k_La_known 5 := fun sig hs => by
  have e : parseMethodDescriptor k_La_known.y.desc = some sig := hs
  have e2 : (parseMethodDescriptor k_La_known.y.desc).map (fun q => q.parameters.length) = some 5 := by decide +kernel
  rw [e] at e2
  exact (Option.some.inj e2).symm
theorem kw_La_known : k_La_known.w ∈ tw := tx3 141 rfl rfl
def k_Pm_known : Kt := (⟨R_Pm, "known", "(III)I"⟩, prog_1_method_15_code, 4, (some .int), 7, 115, [])
theorem np_Pm_known : nPar k_Pm_known 3 := fun sig hs => by
  have e : parseMethodDescriptor k_Pm_known.y.desc = some sig := hs
  have e2 : (parseMethodDescriptor k_Pm_known.y.desc).map (fun q => q.parameters.length) = some 3 := by decide +kernel
  rw [e] at e2
  exact (Option.some.inj e2).symm
theorem kw_Pm_known : k_Pm_known.w ∈ tw := tx3 145 rfl rfl
def k_Le_number : Kt := (⟨R_Le, "number", "()I"⟩, prog_4_method_2_code, 1, (some .int), 0, 0, [])
theorem np_Le_number : nPar k_Le_number 0 := fun sig hs => by
  have e : parseMethodDescriptor k_Le_number.y.desc = some sig := hs
  have e2 : (parseMethodDescriptor k_Le_number.y.desc).map (fun q => q.parameters.length) = some 0 := by decide +kernel
  rw [e] at e2
  exact (Option.some.inj e2).symm
theorem kw_Le_number : k_Le_number.w ∈ tw := tx3 149 rfl rfl
def k_Le_add : Kt := (⟨R_Le, "add", "(III)I"⟩, prog_4_method_3_code, 4, (some .int), 0, 0, [])
theorem np_Le_add : nPar k_Le_add 3 := fun sig hs => by
  have e : parseMethodDescriptor k_Le_add.y.desc = some sig := hs
  have e2 : (parseMethodDescriptor k_Le_add.y.desc).map (fun q => q.parameters.length) = some 3 := by decide +kernel
  rw [e] at e2
  exact (Option.some.inj e2).symm
theorem kw_Le_add : k_Le_add.w ∈ tw := tx3 153 rfl rfl
def k_La_scale : Kt := (⟨R_La, "scale", "(LPhotoModels;I[J)I"⟩, method_16_code, 4, (some .int), 8, 136, [(0, 8, 11, 13)])
theorem np_La_scale : nPar k_La_scale 3 := fun sig hs => by
  have e : parseMethodDescriptor k_La_scale.y.desc = some sig := hs
  have e2 : (parseMethodDescriptor k_La_scale.y.desc).map (fun q => q.parameters.length) = some 3 := by decide +kernel
  rw [e] at e2
  exact (Option.some.inj e2).symm
theorem kw_La_scale : k_La_scale.w ∈ tw := tx3 156 rfl rfl
def k_Pm_scale : Kt := (⟨R_Pm, "scale", "(I)J"⟩, prog_1_method_16_code, 2, (some .long), 7, 115, [])
theorem np_Pm_scale : nPar k_Pm_scale 1 := fun sig hs => by
  have e : parseMethodDescriptor k_Pm_scale.y.desc = some sig := hs
  have e2 : (parseMethodDescriptor k_Pm_scale.y.desc).map (fun q => q.parameters.length) = some 1 := by decide +kernel
  rw [e] at e2
  exact (Option.some.inj e2).symm
theorem kw_Pm_scale : k_Pm_scale.w ∈ tw := tx3 160 rfl rfl
def k_Le_fraction : Kt := (⟨R_Le, "fraction", "(LPhotoModels$Adjustment;I)J"⟩, prog_4_method_4_code, 10, (some .long), 2, 52, [])
theorem np_Le_fraction : nPar k_Le_fraction 2 := fun sig hs => by
  have e : parseMethodDescriptor k_Le_fraction.y.desc = some sig := hs
  have e2 : (parseMethodDescriptor k_Le_fraction.y.desc).map (fun q => q.parameters.length) = some 2 := by decide +kernel
  rw [e] at e2
  exact (Option.some.inj e2).symm
theorem kw_Le_fraction : k_Le_fraction.w ∈ tw := tx3 164 rfl rfl
def k_Le_distance : Kt := (⟨R_Le, "distance", "(LPhotoModels$Adjustment;II)J"⟩, prog_4_method_5_code, 7, (some .long), 1, 26, [])
theorem np_Le_distance : nPar k_Le_distance 3 := fun sig hs => by
  have e : parseMethodDescriptor k_Le_distance.y.desc = some sig := hs
  have e2 : (parseMethodDescriptor k_Le_distance.y.desc).map (fun q => q.parameters.length) = some 3 := by decide +kernel
  rw [e] at e2
  exact (Option.some.inj e2).symm
theorem kw_Le_distance : k_Le_distance.w ∈ tw := tx3 167 rfl rfl
def k_Le_rootDown : Kt := (⟨R_Le, "rootDown", "(J)J"⟩, prog_4_method_6_code, 7, (some .long), 0, 0, [])
theorem np_Le_rootDown : nPar k_Le_rootDown 1 := fun sig hs => by
  have e : parseMethodDescriptor k_Le_rootDown.y.desc = some sig := hs
  have e2 : (parseMethodDescriptor k_Le_rootDown.y.desc).map (fun q => q.parameters.length) = some 1 := by decide +kernel
  rw [e] at e2
  exact (Option.some.inj e2).symm
theorem kw_Le_rootDown : k_Le_rootDown.w ∈ tw := tx3 171 rfl rfl
def k_Le_commonDivisor : Kt := (⟨R_Le, "commonDivisor", "(JJ)J"⟩, prog_4_method_7_code, 11, (some .long), 0, 0, [])
theorem np_Le_commonDivisor : nPar k_Le_commonDivisor 2 := fun sig hs => by
  have e : parseMethodDescriptor k_Le_commonDivisor.y.desc = some sig := hs
  have e2 : (parseMethodDescriptor k_Le_commonDivisor.y.desc).map (fun q => q.parameters.length) = some 2 := by decide +kernel
  rw [e] at e2
  exact (Option.some.inj e2).symm
theorem kw_Le_commonDivisor : k_Le_commonDivisor.w ∈ tw := tx3 174 rfl rfl
def k_La_heights : Kt := (⟨R_La, "heights", "(LPhotoModels;III[J)I"⟩, method_17_code, 6, (some .int), 8, 150, [(0, 12, 15, 13), (0, 12, 19, 15)])
theorem np_La_heights : nPar k_La_heights 5 := fun sig hs => by
  have e : parseMethodDescriptor k_La_heights.y.desc = some sig := hs
  have e2 : (parseMethodDescriptor k_La_heights.y.desc).map (fun q => q.parameters.length) = some 5 := by decide +kernel
  rw [e] at e2
  exact (Option.some.inj e2).symm
theorem kw_La_heights : k_La_heights.w ∈ tw := tx3 177 rfl rfl
def k_Pm_heights : Kt := (⟨R_Pm, "heights", "(III)I"⟩, prog_1_method_17_code, 4, (some .int), 7, 127, [])
theorem np_Pm_heights : nPar k_Pm_heights 3 := fun sig hs => by
  have e : parseMethodDescriptor k_Pm_heights.y.desc = some sig := hs
  have e2 : (parseMethodDescriptor k_Pm_heights.y.desc).map (fun q => q.parameters.length) = some 3 := by decide +kernel
  rw [e] at e2
  exact (Option.some.inj e2).symm
theorem kw_Pm_heights : k_Pm_heights.w ∈ tw := tx3 181 rfl rfl
def k_Re_raise : Kt := (⟨R_Re, "raise", "(LPhotoModels$Photos;III)I"⟩, prog_7_method_4_code, 7, (some .int), 4, 101, [])
theorem np_Re_raise : nPar k_Re_raise 4 := fun sig hs => by
  have e : parseMethodDescriptor k_Re_raise.y.desc = some sig := hs
  have e2 : (parseMethodDescriptor k_Re_raise.y.desc).map (fun q => q.parameters.length) = some 4 := by decide +kernel
  rw [e] at e2
  exact (Option.some.inj e2).symm
theorem kw_Re_raise : k_Re_raise.w ∈ tw := tx3 185 rfl rfl
def k_Re_fillCosts : Kt := (⟨R_Re, "fillCosts", "(LPhotoModels$Photos;IIII)V"⟩, prog_7_method_5_code, 10, none, 3, 72, [])
theorem np_Re_fillCosts : nPar k_Re_fillCosts 5 := fun sig hs => by
  have e : parseMethodDescriptor k_Re_fillCosts.y.desc = some sig := hs
  have e2 : (parseMethodDescriptor k_Re_fillCosts.y.desc).map (fun q => q.parameters.length) = some 5 := by decide +kernel
  rw [e] at e2
  exact (Option.some.inj e2).symm
theorem kw_Re_fillCosts : k_Re_fillCosts.w ∈ tw := tx3 189 rfl rfl
def k_Re_depthsAt : Kt := (⟨R_Re, "depthsAt", "(I)I"⟩, prog_7_method_9_code, 1, (some .int), 1, 21, [])
theorem np_Re_depthsAt : nPar k_Re_depthsAt 1 := fun sig hs => by
  have e : parseMethodDescriptor k_Re_depthsAt.y.desc = some sig := hs
  have e2 : (parseMethodDescriptor k_Re_depthsAt.y.desc).map (fun q => q.parameters.length) = some 1 := by decide +kernel
  rw [e] at e2
  exact (Option.some.inj e2).symm
theorem kw_Re_depthsAt : k_Re_depthsAt.w ∈ tw := tx3 192 rfl rfl
def k_Re_difference : Kt := (⟨R_Re, "difference", "(LPhotoModels$Photos;IIIII)I"⟩, prog_7_method_10_code, 6, (some .int), 2, 46, [])
theorem np_Re_difference : nPar k_Re_difference 6 := fun sig hs => by
  have e : parseMethodDescriptor k_Re_difference.y.desc = some sig := hs
  have e2 : (parseMethodDescriptor k_Re_difference.y.desc).map (fun q => q.parameters.length) = some 6 := by decide +kernel
  rw [e] at e2
  exact (Option.some.inj e2).symm
theorem kw_Re_difference : k_Re_difference.w ∈ tw := tx3 196 rfl rfl
def k_Ph_value : Kt := (⟨R_Ph, "value", "(III)I"⟩, prog_5_method_6_code, 4, (some .int), 1, 23, [])
theorem np_Ph_value : nPar k_Ph_value 3 := fun sig hs => by
  have e : parseMethodDescriptor k_Ph_value.y.desc = some sig := hs
  have e2 : (parseMethodDescriptor k_Ph_value.y.desc).map (fun q => q.parameters.length) = some 3 := by decide +kernel
  rw [e] at e2
  exact (Option.some.inj e2).symm
theorem kw_Ph_value : k_Ph_value.w ∈ tw := tx3 200 rfl rfl
def k_Re_bestAhead : Kt := (⟨R_Re, "bestAhead", "(III)I"⟩, prog_7_method_7_code, 8, (some .int), 2, 45, [])
theorem np_Re_bestAhead : nPar k_Re_bestAhead 3 := fun sig hs => by
  have e : parseMethodDescriptor k_Re_bestAhead.y.desc = some sig := hs
  have e2 : (parseMethodDescriptor k_Re_bestAhead.y.desc).map (fun q => q.parameters.length) = some 3 := by decide +kernel
  rw [e] at e2
  exact (Option.some.inj e2).symm
theorem kw_Re_bestAhead : k_Re_bestAhead.w ∈ tw := tx3 205 rfl rfl
def k_Re_costAhead : Kt := (⟨R_Re, "costAhead", "(IIII)I"⟩, prog_7_method_8_code, 5, (some .int), 1, 21, [])
theorem np_Re_costAhead : nPar k_Re_costAhead 4 := fun sig hs => by
  have e : parseMethodDescriptor k_Re_costAhead.y.desc = some sig := hs
  have e2 : (parseMethodDescriptor k_Re_costAhead.y.desc).map (fun q => q.parameters.length) = some 4 := by decide +kernel
  rw [e] at e2
  exact (Option.some.inj e2).symm
theorem kw_Re_costAhead : k_Re_costAhead.w ∈ tw := tx3 209 rfl rfl
def k_Re_traceBack : Kt := (⟨R_Re, "traceBack", "(LPhotoModels$Photos;IIII)I"⟩, prog_7_method_6_code, 9, (some .int), 3, 72, [])
theorem np_Re_traceBack : nPar k_Re_traceBack 5 := fun sig hs => by
  have e : parseMethodDescriptor k_Re_traceBack.y.desc = some sig := hs
  have e2 : (parseMethodDescriptor k_Re_traceBack.y.desc).map (fun q => q.parameters.length) = some 5 := by decide +kernel
  rw [e] at e2
  exact (Option.some.inj e2).symm
theorem kw_Re_traceBack : k_Re_traceBack.w ∈ tw := tx3 213 rfl rfl
def k_La_depth : Kt := (⟨R_La, "depth", "(LPhotoModels;II[J)I"⟩, method_18_code, 5, (some .int), 8, 137, [(0, 10, 13, 13), (0, 10, 17, 24)])
theorem np_La_depth : nPar k_La_depth 4 := fun sig hs => by
  have e : parseMethodDescriptor k_La_depth.y.desc = some sig := hs
  have e2 : (parseMethodDescriptor k_La_depth.y.desc).map (fun q => q.parameters.length) = some 4 := by decide +kernel
  rw [e] at e2
  exact (Option.some.inj e2).symm
theorem kw_La_depth : k_La_depth.w ∈ tw := tx3 216 rfl rfl
def k_Pm_depth : Kt := (⟨R_Pm, "depth", "(II)I"⟩, prog_1_method_18_code, 3, (some .int), 7, 115, [])
theorem np_Pm_depth : nPar k_Pm_depth 2 := fun sig hs => by
  have e : parseMethodDescriptor k_Pm_depth.y.desc = some sig := hs
  have e2 : (parseMethodDescriptor k_Pm_depth.y.desc).map (fun q => q.parameters.length) = some 2 := by decide +kernel
  rw [e] at e2
  exact (Option.some.inj e2).symm
theorem kw_Pm_depth : k_Pm_depth.w ∈ tw := tx3 220 rfl rfl
def k_Re_isRaised : Kt := (⟨R_Re, "isRaised", "()Z"⟩, prog_7_method_2_code, 1, (some .boolean), 0, 0, [])
theorem np_Re_isRaised : nPar k_Re_isRaised 0 := fun sig hs => by
  have e : parseMethodDescriptor k_Re_isRaised.y.desc = some sig := hs
  have e2 : (parseMethodDescriptor k_Re_isRaised.y.desc).map (fun q => q.parameters.length) = some 0 := by decide +kernel
  rw [e] at e2
  exact (Option.some.inj e2).symm
theorem kw_Re_isRaised : k_Re_isRaised.w ∈ tw := tx3 224 rfl rfl
def k_Re_depthOf : Kt := (⟨R_Re, "depthOf", "(II)I"⟩, prog_7_method_3_code, 3, (some .int), 0, 0, [])
theorem np_Re_depthOf : nPar k_Re_depthOf 2 := fun sig hs => by
  have e : parseMethodDescriptor k_Re_depthOf.y.desc = some sig := hs
  have e2 : (parseMethodDescriptor k_Re_depthOf.y.desc).map (fun q => q.parameters.length) = some 2 := by decide +kernel
  rw [e] at e2
  exact (Option.some.inj e2).symm
theorem kw_Re_depthOf : k_Re_depthOf.w ∈ tw := tx3 228 rfl rfl
def k_La_holes : Kt := (⟨R_La, "holes", "(LPhotoModels;I[J)I"⟩, method_19_code, 4, (some .int), 8, 136, [(0, 9, 12, 24)])
theorem np_La_holes : nPar k_La_holes 3 := fun sig hs => by
  have e : parseMethodDescriptor k_La_holes.y.desc = some sig := hs
  have e2 : (parseMethodDescriptor k_La_holes.y.desc).map (fun q => q.parameters.length) = some 3 := by decide +kernel
  rw [e] at e2
  exact (Option.some.inj e2).symm
theorem kw_La_holes : k_La_holes.w ∈ tw := tx3 231 rfl rfl
def k_Pm_holes : Kt := (⟨R_Pm, "holes", "(I)I"⟩, prog_1_method_19_code, 2, (some .int), 7, 115, [])
theorem np_Pm_holes : nPar k_Pm_holes 1 := fun sig hs => by
  have e : parseMethodDescriptor k_Pm_holes.y.desc = some sig := hs
  have e2 : (parseMethodDescriptor k_Pm_holes.y.desc).map (fun q => q.parameters.length) = some 1 := by decide +kernel
  rw [e] at e2
  exact (Option.some.inj e2).symm
theorem kw_Pm_holes : k_Pm_holes.w ∈ tw := tx3 235 rfl rfl
def k_Re_holesAbove : Kt := (⟨R_Re, "holesAbove", "(I)I"⟩, prog_7_method_11_code, 6, (some .int), 2, 45, [])
theorem np_Re_holesAbove : nPar k_Re_holesAbove 1 := fun sig hs => by
  have e : parseMethodDescriptor k_Re_holesAbove.y.desc = some sig := hs
  have e2 : (parseMethodDescriptor k_Re_holesAbove.y.desc).map (fun q => q.parameters.length) = some 1 := by decide +kernel
  rw [e] at e2
  exact (Option.some.inj e2).symm
theorem kw_Re_holesAbove : k_Re_holesAbove.w ∈ tw := tx3 239 rfl rfl
def k_Re_openAbove : Kt := (⟨R_Re, "openAbove", "(I)V"⟩, prog_7_method_12_code, 4, none, 1, 22, [])
theorem np_Re_openAbove : nPar k_Re_openAbove 1 := fun sig hs => by
  have e : parseMethodDescriptor k_Re_openAbove.y.desc = some sig := hs
  have e2 : (parseMethodDescriptor k_Re_openAbove.y.desc).map (fun q => q.parameters.length) = some 1 := by decide +kernel
  rw [e] at e2
  exact (Option.some.inj e2).symm
theorem kw_Re_openAbove : k_Re_openAbove.w ∈ tw := tx4 3 rfl rfl
def k_Re_marginedIndex : Kt := (⟨R_Re, "marginedIndex", "(II)I"⟩, prog_7_method_15_code, 3, (some .int), 0, 0, [])
theorem np_Re_marginedIndex : nPar k_Re_marginedIndex 2 := fun sig hs => by
  have e : parseMethodDescriptor k_Re_marginedIndex.y.desc = some sig := hs
  have e2 : (parseMethodDescriptor k_Re_marginedIndex.y.desc).map (fun q => q.parameters.length) = some 2 := by decide +kernel
  rw [e] at e2
  exact (Option.some.inj e2).symm
theorem kw_Re_marginedIndex : k_Re_marginedIndex.w ∈ tw := tx4 7 rfl rfl
def k_Re_closeAround : Kt := (⟨R_Re, "closeAround", "(I)V"⟩, prog_7_method_13_code, 4, none, 1, 21, [])
theorem np_Re_closeAround : nPar k_Re_closeAround 1 := fun sig hs => by
  have e : parseMethodDescriptor k_Re_closeAround.y.desc = some sig := hs
  have e2 : (parseMethodDescriptor k_Re_closeAround.y.desc).map (fun q => q.parameters.length) = some 1 := by decide +kernel
  rw [e] at e2
  exact (Option.some.inj e2).symm
theorem kw_Re_closeAround : k_Re_closeAround.w ∈ tw := tx4 11 rfl rfl
def k_Re_closeIfOpen : Kt := (⟨R_Re, "closeIfOpen", "(I)V"⟩, prog_7_method_14_code, 2, none, 0, 0, [])
theorem np_Re_closeIfOpen : nPar k_Re_closeIfOpen 1 := fun sig hs => by
  have e : parseMethodDescriptor k_Re_closeIfOpen.y.desc = some sig := hs
  have e2 : (parseMethodDescriptor k_Re_closeIfOpen.y.desc).map (fun q => q.parameters.length) = some 1 := by decide +kernel
  rw [e] at e2
  exact (Option.some.inj e2).symm
theorem kw_Re_closeIfOpen : k_Re_closeIfOpen.w ∈ tw := tx4 15 rfl rfl
def k_La_count : Kt := (⟨R_La, "count", "(LPhotoModels;I[J)I"⟩, method_20_code, 4, (some .int), 7, 116, [(0, 9, 12, 13)])
theorem np_La_count : nPar k_La_count 3 := fun sig hs => by
  have e : parseMethodDescriptor k_La_count.y.desc = some sig := hs
  have e2 : (parseMethodDescriptor k_La_count.y.desc).map (fun q => q.parameters.length) = some 3 := by decide +kernel
  rw [e] at e2
  exact (Option.some.inj e2).symm
theorem kw_La_count : k_La_count.w ∈ tw := tx4 18 rfl rfl
def k_Pm_count : Kt := (⟨R_Pm, "count", "(I)I"⟩, prog_1_method_20_code, 2, (some .int), 6, 95, [])
theorem np_Pm_count : nPar k_Pm_count 1 := fun sig hs => by
  have e : parseMethodDescriptor k_Pm_count.y.desc = some sig := hs
  have e2 : (parseMethodDescriptor k_Pm_count.y.desc).map (fun q => q.parameters.length) = some 1 := by decide +kernel
  rw [e] at e2
  exact (Option.some.inj e2).symm
theorem kw_Pm_count : k_Pm_count.w ∈ tw := tx4 22 rfl rfl
def k_Ph_width : Kt := (⟨R_Ph, "width", "()I"⟩, prog_5_method_2_code, 1, (some .int), 0, 0, [])
theorem np_Ph_width : nPar k_Ph_width 0 := fun sig hs => by
  have e : parseMethodDescriptor k_Ph_width.y.desc = some sig := hs
  have e2 : (parseMethodDescriptor k_Ph_width.y.desc).map (fun q => q.parameters.length) = some 0 := by decide +kernel
  rw [e] at e2
  exact (Option.some.inj e2).symm
theorem kw_Ph_width : k_Ph_width.w ∈ tw := tx4 26 rfl rfl
def k_Ph_height : Kt := (⟨R_Ph, "height", "()I"⟩, prog_5_method_3_code, 1, (some .int), 0, 0, [])
theorem np_Ph_height : nPar k_Ph_height 0 := fun sig hs => by
  have e : parseMethodDescriptor k_Ph_height.y.desc = some sig := hs
  have e2 : (parseMethodDescriptor k_Ph_height.y.desc).map (fun q => q.parameters.length) = some 0 := by decide +kernel
  rw [e] at e2
  exact (Option.some.inj e2).symm
theorem kw_Ph_height : k_Ph_height.w ∈ tw := tx4 30 rfl rfl
def k_Pl_spares : Kt := (⟨R_Pl, "spares", "()I"⟩, prog_6_method_3_code, 1, (some .int), 0, 0, [])
theorem np_Pl_spares : nPar k_Pl_spares 0 := fun sig hs => by
  have e : parseMethodDescriptor k_Pl_spares.y.desc = some sig := hs
  have e2 : (parseMethodDescriptor k_Pl_spares.y.desc).map (fun q => q.parameters.length) = some 0 := by decide +kernel
  rw [e] at e2
  exact (Option.some.inj e2).symm
theorem kw_Pl_spares : k_Pl_spares.w ∈ tw := tx4 34 rfl rfl
def k_Mo_init : Kt := (⟨R_Mo, "<init>", "(III)V"⟩, prog_10_method_1_code, 5, none, 1, 20, [])
theorem np_Mo_init : nPar k_Mo_init 3 := fun sig hs => by
  have e : parseMethodDescriptor k_Mo_init.y.desc = some sig := hs
  have e2 : (parseMethodDescriptor k_Mo_init.y.desc).map (fun q => q.parameters.length) = some 3 := by decide +kernel
  rw [e] at e2
  exact (Option.some.inj e2).symm
theorem kw_Mo_init : k_Mo_init.w ∈ tw := tx4 40 rfl rfl
def k_Mo_thrown : Kt := (⟨R_Mo, "thrown", "()I"⟩, prog_10_method_2_code, 1, (some .int), 0, 0, [])
theorem np_Mo_thrown : nPar k_Mo_thrown 0 := fun sig hs => by
  have e : parseMethodDescriptor k_Mo_thrown.y.desc = some sig := hs
  have e2 : (parseMethodDescriptor k_Mo_thrown.y.desc).map (fun q => q.parameters.length) = some 0 := by decide +kernel
  rw [e] at e2
  exact (Option.some.inj e2).symm
theorem kw_Mo_thrown : k_Mo_thrown.w ∈ tw := tx4 131 rfl rfl
def k_Mo_pixel : Kt := (⟨R_Mo, "pixel", "(IIII)I"⟩, prog_10_method_10_code, 6, (some .int), 2, 44, [])
theorem np_Mo_pixel : nPar k_Mo_pixel 4 := fun sig hs => by
  have e : parseMethodDescriptor k_Mo_pixel.y.desc = some sig := hs
  have e2 : (parseMethodDescriptor k_Mo_pixel.y.desc).map (fun q => q.parameters.length) = some 4 := by decide +kernel
  rw [e] at e2
  exact (Option.some.inj e2).symm
theorem kw_Mo_pixel : k_Mo_pixel.w ∈ tw := tx4 135 rfl rfl
def k_Mo_isPhoto : Kt := (⟨R_Mo, "isPhoto", "(I)Z"⟩, prog_10_method_5_code, 1, (some .boolean), 1, 22, [])
theorem np_Mo_isPhoto : nPar k_Mo_isPhoto 1 := fun sig hs => by
  have e : parseMethodDescriptor k_Mo_isPhoto.y.desc = some sig := hs
  have e2 : (parseMethodDescriptor k_Mo_isPhoto.y.desc).map (fun q => q.parameters.length) = some 1 := by decide +kernel
  rw [e] at e2
  exact (Option.some.inj e2).symm
theorem kw_Mo_isPhoto : k_Mo_isPhoto.w ∈ tw := tx4 138 rfl rfl
def k_Mo_within : Kt := (⟨R_Mo, "within", "(III)Z"⟩, prog_10_method_4_code, 3, (some .boolean), 0, 0, [])
theorem np_Mo_within : nPar k_Mo_within 3 := fun sig hs => by
  have e : parseMethodDescriptor k_Mo_within.y.desc = some sig := hs
  have e2 : (parseMethodDescriptor k_Mo_within.y.desc).map (fun q => q.parameters.length) = some 3 := by decide +kernel
  rw [e] at e2
  exact (Option.some.inj e2).symm
theorem kw_Mo_within : k_Mo_within.w ∈ tw := tx4 141 rfl rfl
def k_Mo_isCell : Kt := (⟨R_Mo, "isCell", "(II)Z"⟩, prog_10_method_6_code, 3, (some .boolean), 1, 22, [])
theorem np_Mo_isCell : nPar k_Mo_isCell 2 := fun sig hs => by
  have e : parseMethodDescriptor k_Mo_isCell.y.desc = some sig := hs
  have e2 : (parseMethodDescriptor k_Mo_isCell.y.desc).map (fun q => q.parameters.length) = some 2 := by decide +kernel
  rw [e] at e2
  exact (Option.some.inj e2).symm
theorem kw_Mo_isCell : k_Mo_isCell.w ∈ tw := tx4 145 rfl rfl
def k_Mo_goes : Kt := (⟨R_Mo, "goes", "(ZZZ)Z"⟩, prog_10_method_3_code, 4, (some .boolean), 0, 0, [])
theorem np_Mo_goes : nPar k_Mo_goes 3 := fun sig hs => by
  have e : parseMethodDescriptor k_Mo_goes.y.desc = some sig := hs
  have e2 : (parseMethodDescriptor k_Mo_goes.y.desc).map (fun q => q.parameters.length) = some 3 := by decide +kernel
  rw [e] at e2
  exact (Option.some.inj e2).symm
theorem kw_Mo_goes : k_Mo_goes.w ∈ tw := tx4 149 rfl rfl
def k_Mo_valueOf : Kt := (⟨R_Mo, "valueOf", "(III)I"⟩, prog_10_method_9_code, 4, (some .int), 0, 0, [])
theorem np_Mo_valueOf : nPar k_Mo_valueOf 3 := fun sig hs => by
  have e : parseMethodDescriptor k_Mo_valueOf.y.desc = some sig := hs
  have e2 : (parseMethodDescriptor k_Mo_valueOf.y.desc).map (fun q => q.parameters.length) = some 3 := by decide +kernel
  rw [e] at e2
  exact (Option.some.inj e2).symm
theorem kw_Mo_valueOf : k_Mo_valueOf.w ∈ tw := tx4 153 rfl rfl
def k_Mo_match : Kt := (⟨R_Mo, "match", "(IIII)I"⟩, prog_10_method_12_code, 10, (some .int), 2, 52, [])
theorem np_Mo_match : nPar k_Mo_match 4 := fun sig hs => by
  have e : parseMethodDescriptor k_Mo_match.y.desc = some sig := hs
  have e2 : (parseMethodDescriptor k_Mo_match.y.desc).map (fun q => q.parameters.length) = some 4 := by decide +kernel
  rw [e] at e2
  exact (Option.some.inj e2).symm
theorem kw_Mo_match : k_Mo_match.w ∈ tw := tx4 157 rfl rfl
def k_Mo_missOf : Kt := (⟨R_Mo, "missOf", "(IIIIII)I"⟩, prog_10_method_11_code, 10, (some .int), 1, 23, [])
theorem np_Mo_missOf : nPar k_Mo_missOf 6 := fun sig hs => by
  have e : parseMethodDescriptor k_Mo_missOf.y.desc = some sig := hs
  have e2 : (parseMethodDescriptor k_Mo_missOf.y.desc).map (fun q => q.parameters.length) = some 6 := by decide +kernel
  rw [e] at e2
  exact (Option.some.inj e2).symm
theorem kw_Mo_missOf : k_Mo_missOf.w ∈ tw := tx4 161 rfl rfl
def k_Mo_apart : Kt := (⟨R_Mo, "apart", "(II)I"⟩, prog_10_method_8_code, 2, (some .int), 0, 0, [])
theorem np_Mo_apart : nPar k_Mo_apart 2 := fun sig hs => by
  have e : parseMethodDescriptor k_Mo_apart.y.desc = some sig := hs
  have e2 : (parseMethodDescriptor k_Mo_apart.y.desc).map (fun q => q.parameters.length) = some 2 := by decide +kernel
  rw [e] at e2
  exact (Option.some.inj e2).symm
theorem kw_Mo_apart : k_Mo_apart.w ∈ tw := tx4 164 rfl rfl
def k_Mo_found : Kt := (⟨R_Mo, "found", "(I)I"⟩, prog_10_method_13_code, 2, (some .int), 1, 23, [])
theorem np_Mo_found : nPar k_Mo_found 1 := fun sig hs => by
  have e : parseMethodDescriptor k_Mo_found.y.desc = some sig := hs
  have e2 : (parseMethodDescriptor k_Mo_found.y.desc).map (fun q => q.parameters.length) = some 1 := by decide +kernel
  rw [e] at e2
  exact (Option.some.inj e2).symm
theorem kw_Mo_found : k_Mo_found.w ∈ tw := tx4 168 rfl rfl
def k_Mo_place : Kt := (⟨R_Mo, "place", "()I"⟩, prog_10_method_14_code, 1, (some .int), 1, 23, [])
theorem np_Mo_place : nPar k_Mo_place 0 := fun sig hs => by
  have e : parseMethodDescriptor k_Mo_place.y.desc = some sig := hs
  have e2 : (parseMethodDescriptor k_Mo_place.y.desc).map (fun q => q.parameters.length) = some 0 := by decide +kernel
  rw [e] at e2
  exact (Option.some.inj e2).symm
theorem kw_Mo_place : k_Mo_place.w ∈ tw := tx4 172 rfl rfl
def k_Mo_seen : Kt := (⟨R_Mo, "seen", "(IIII)Z"⟩, prog_10_method_15_code, 6, (some .boolean), 2, 43, [])
theorem np_Mo_seen : nPar k_Mo_seen 4 := fun sig hs => by
  have e : parseMethodDescriptor k_Mo_seen.y.desc = some sig := hs
  have e2 : (parseMethodDescriptor k_Mo_seen.y.desc).map (fun q => q.parameters.length) = some 4 := by decide +kernel
  rw [e] at e2
  exact (Option.some.inj e2).symm
theorem kw_Mo_seen : k_Mo_seen.w ∈ tw := tx4 176 rfl rfl
def k_Mo_isPlace : Kt := (⟨R_Mo, "isPlace", "(I)Z"⟩, prog_10_method_7_code, 2, (some .boolean), 1, 22, [])
theorem np_Mo_isPlace : nPar k_Mo_isPlace 1 := fun sig hs => by
  have e : parseMethodDescriptor k_Mo_isPlace.y.desc = some sig := hs
  have e2 : (parseMethodDescriptor k_Mo_isPlace.y.desc).map (fun q => q.parameters.length) = some 1 := by decide +kernel
  rw [e] at e2
  exact (Option.some.inj e2).symm
theorem kw_Mo_isPlace : k_Mo_isPlace.w ∈ tw := tx4 180 rfl rfl
def k_Mo_relative : Kt := (⟨R_Mo, "relative", "(IIII)I"⟩, prog_10_method_22_code, 11, (some .int), 3, 74, [])
theorem np_Mo_relative : nPar k_Mo_relative 4 := fun sig hs => by
  have e : parseMethodDescriptor k_Mo_relative.y.desc = some sig := hs
  have e2 : (parseMethodDescriptor k_Mo_relative.y.desc).map (fun q => q.parameters.length) = some 4 := by decide +kernel
  rw [e] at e2
  exact (Option.some.inj e2).symm
theorem kw_Mo_relative : k_Mo_relative.w ∈ tw := tx4 184 rfl rfl
def k_Mo_isBoth : Kt := (⟨R_Mo, "isBoth", "(III)Z"⟩, prog_10_method_19_code, 4, (some .boolean), 1, 22, [])
theorem np_Mo_isBoth : nPar k_Mo_isBoth 3 := fun sig hs => by
  have e : parseMethodDescriptor k_Mo_isBoth.y.desc = some sig := hs
  have e2 : (parseMethodDescriptor k_Mo_isBoth.y.desc).map (fun q => q.parameters.length) = some 3 := by decide +kernel
  rw [e] at e2
  exact (Option.some.inj e2).symm
theorem kw_Mo_isBoth : k_Mo_isBoth.w ∈ tw := tx4 188 rfl rfl
def k_Mo_isSeen : Kt := (⟨R_Mo, "isSeen", "(II)Z"⟩, prog_10_method_16_code, 3, (some .boolean), 0, 0, [])
theorem np_Mo_isSeen : nPar k_Mo_isSeen 2 := fun sig hs => by
  have e : parseMethodDescriptor k_Mo_isSeen.y.desc = some sig := hs
  have e2 : (parseMethodDescriptor k_Mo_isSeen.y.desc).map (fun q => q.parameters.length) = some 2 := by decide +kernel
  rw [e] at e2
  exact (Option.some.inj e2).symm
theorem kw_Mo_isSeen : k_Mo_isSeen.w ∈ tw := tx4 192 rfl rfl
def k_Mo_drawn : Kt := (⟨R_Mo, "drawn", "(I)I"⟩, prog_10_method_18_code, 4, (some .int), 0, 0, [])
theorem np_Mo_drawn : nPar k_Mo_drawn 1 := fun sig hs => by
  have e : parseMethodDescriptor k_Mo_drawn.y.desc = some sig := hs
  have e2 : (parseMethodDescriptor k_Mo_drawn.y.desc).map (fun q => q.parameters.length) = some 1 := by decide +kernel
  rw [e] at e2
  exact (Option.some.inj e2).symm
theorem kw_Mo_drawn : k_Mo_drawn.w ∈ tw := tx4 196 rfl rfl
def k_Mo_agreeing : Kt := (⟨R_Mo, "agreeing", "(IIII)I"⟩, prog_10_method_21_code, 8, (some .int), 2, 47, [])
theorem np_Mo_agreeing : nPar k_Mo_agreeing 4 := fun sig hs => by
  have e : parseMethodDescriptor k_Mo_agreeing.y.desc = some sig := hs
  have e2 : (parseMethodDescriptor k_Mo_agreeing.y.desc).map (fun q => q.parameters.length) = some 4 := by decide +kernel
  rw [e] at e2
  exact (Option.some.inj e2).symm
theorem kw_Mo_agreeing : k_Mo_agreeing.w ∈ tw := tx4 201 rfl rfl
def k_Mo_between : Kt := (⟨R_Mo, "between", "(IIII)I"⟩, prog_10_method_20_code, 5, (some .int), 1, 23, [])
theorem np_Mo_between : nPar k_Mo_between 4 := fun sig hs => by
  have e : parseMethodDescriptor k_Mo_between.y.desc = some sig := hs
  have e2 : (parseMethodDescriptor k_Mo_between.y.desc).map (fun q => q.parameters.length) = some 4 := by decide +kernel
  rw [e] at e2
  exact (Option.some.inj e2).symm
theorem kw_Mo_between : k_Mo_between.w ∈ tw := tx4 205 rfl rfl
def k_Mo_where : Kt := (⟨R_Mo, "where", "(III)I"⟩, prog_10_method_17_code, 4, (some .int), 0, 0, [])
theorem np_Mo_where : nPar k_Mo_where 3 := fun sig hs => by
  have e : parseMethodDescriptor k_Mo_where.y.desc = some sig := hs
  have e2 : (parseMethodDescriptor k_Mo_where.y.desc).map (fun q => q.parameters.length) = some 3 := by decide +kernel
  rw [e] at e2
  exact (Option.some.inj e2).symm
theorem kw_Mo_where : k_Mo_where.w ∈ tw := tx4 209 rfl rfl
def k_Mo_shift : Kt := (⟨R_Mo, "shift", "(I)I"⟩, prog_10_method_23_code, 2, (some .int), 1, 23, [])
theorem np_Mo_shift : nPar k_Mo_shift 1 := fun sig hs => by
  have e : parseMethodDescriptor k_Mo_shift.y.desc = some sig := hs
  have e2 : (parseMethodDescriptor k_Mo_shift.y.desc).map (fun q => q.parameters.length) = some 1 := by decide +kernel
  rw [e] at e2
  exact (Option.some.inj e2).symm
theorem kw_Mo_shift : k_Mo_shift.w ∈ tw := tx4 213 rfl rfl
def k_Mo_spare : Kt := (⟨R_Mo, "spare", "(IZ)Z"⟩, prog_10_method_24_code, 4, (some .boolean), 2, 43, [])
theorem np_Mo_spare : nPar k_Mo_spare 2 := fun sig hs => by
  have e : parseMethodDescriptor k_Mo_spare.y.desc = some sig := hs
  have e2 : (parseMethodDescriptor k_Mo_spare.y.desc).map (fun q => q.parameters.length) = some 2 := by decide +kernel
  rw [e] at e2
  exact (Option.some.inj e2).symm
theorem kw_Mo_spare : k_Mo_spare.w ∈ tw := tx4 217 rfl rfl
def k_Mo_run : Kt := (⟨R_Mo, "run", "(I)I"⟩, prog_10_method_32_code, 7, (some .int), 3, 74, [])
theorem np_Mo_run : nPar k_Mo_run 1 := fun sig hs => by
  have e : parseMethodDescriptor k_Mo_run.y.desc = some sig := hs
  have e2 : (parseMethodDescriptor k_Mo_run.y.desc).map (fun q => q.parameters.length) = some 1 := by decide +kernel
  rw [e] at e2
  exact (Option.some.inj e2).symm
theorem kw_Mo_run : k_Mo_run.w ∈ tw := tx4 221 rfl rfl
def k_Mo_begin : Kt := (⟨R_Mo, "begin", "()V"⟩, prog_10_method_31_code, 2, none, 2, 48, [])
theorem np_Mo_begin : nPar k_Mo_begin 0 := fun sig hs => by
  have e : parseMethodDescriptor k_Mo_begin.y.desc = some sig := hs
  have e2 : (parseMethodDescriptor k_Mo_begin.y.desc).map (fun q => q.parameters.length) = some 0 := by decide +kernel
  rw [e] at e2
  exact (Option.some.inj e2).symm
theorem kw_Mo_begin : k_Mo_begin.w ∈ tw := tx4 225 rfl rfl
def k_Mo_put : Kt := (⟨R_Mo, "put", "(II)V"⟩, prog_10_method_29_code, 6, none, 1, 23, [])
theorem np_Mo_put : nPar k_Mo_put 2 := fun sig hs => by
  have e : parseMethodDescriptor k_Mo_put.y.desc = some sig := hs
  have e2 : (parseMethodDescriptor k_Mo_put.y.desc).map (fun q => q.parameters.length) = some 2 := by decide +kernel
  rw [e] at e2
  exact (Option.some.inj e2).symm
theorem kw_Mo_put : k_Mo_put.w ∈ tw := tx4 229 rfl rfl
def k_Mo_down : Kt := (⟨R_Mo, "down", "(II)I"⟩, prog_10_method_25_code, 3, (some .int), 0, 0, [])
theorem np_Mo_down : nPar k_Mo_down 2 := fun sig hs => by
  have e : parseMethodDescriptor k_Mo_down.y.desc = some sig := hs
  have e2 : (parseMethodDescriptor k_Mo_down.y.desc).map (fun q => q.parameters.length) = some 2 := by decide +kernel
  rw [e] at e2
  exact (Option.some.inj e2).symm
theorem kw_Mo_down : k_Mo_down.w ∈ tw := tx4 232 rfl rfl
def k_Mo_all : Kt := (⟨R_Mo, "all", "()J"⟩, prog_10_method_27_code, 4, (some .long), 2, 51, [])
theorem np_Mo_all : nPar k_Mo_all 0 := fun sig hs => by
  have e : parseMethodDescriptor k_Mo_all.y.desc = some sig := hs
  have e2 : (parseMethodDescriptor k_Mo_all.y.desc).map (fun q => q.parameters.length) = some 0 := by decide +kernel
  rw [e] at e2
  exact (Option.some.inj e2).symm
theorem kw_Mo_all : k_Mo_all.w ∈ tw := tx4 236 rfl rfl
def k_Mo_missed : Kt := (⟨R_Mo, "missed", "(I)J"⟩, prog_10_method_26_code, 9, (some .long), 1, 23, [])
theorem np_Mo_missed : nPar k_Mo_missed 1 := fun sig hs => by
  have e : parseMethodDescriptor k_Mo_missed.y.desc = some sig := hs
  have e2 : (parseMethodDescriptor k_Mo_missed.y.desc).map (fun q => q.parameters.length) = some 1 := by decide +kernel
  rw [e] at e2
  exact (Option.some.inj e2).symm
theorem kw_Mo_missed : k_Mo_missed.w ∈ tw := tx5 0 rfl rfl
def k_Mo_round : Kt := (⟨R_Mo, "round", "()V"⟩, prog_10_method_30_code, 2, none, 2, 48, [])
theorem np_Mo_round : nPar k_Mo_round 0 := fun sig hs => by
  have e : parseMethodDescriptor k_Mo_round.y.desc = some sig := hs
  have e2 : (parseMethodDescriptor k_Mo_round.y.desc).map (fun q => q.parameters.length) = some 0 := by decide +kernel
  rw [e] at e2
  exact (Option.some.inj e2).symm
theorem kw_Mo_round : k_Mo_round.w ∈ tw := tx5 4 rfl rfl
def k_Mo_move : Kt := (⟨R_Mo, "move", "(II)V"⟩, prog_10_method_28_code, 6, none, 1, 23, [])
theorem np_Mo_move : nPar k_Mo_move 2 := fun sig hs => by
  have e : parseMethodDescriptor k_Mo_move.y.desc = some sig := hs
  have e2 : (parseMethodDescriptor k_Mo_move.y.desc).map (fun q => q.parameters.length) = some 2 := by decide +kernel
  rw [e] at e2
  exact (Option.some.inj e2).symm
theorem kw_Mo_move : k_Mo_move.w ∈ tw := tx5 8 rfl rfl
def k_Mo_sum : Kt := (⟨R_Mo, "sum", "()J"⟩, prog_10_method_33_code, 1, (some .long), 3, 74, [])
theorem np_Mo_sum : nPar k_Mo_sum 0 := fun sig hs => by
  have e : parseMethodDescriptor k_Mo_sum.y.desc = some sig := hs
  have e2 : (parseMethodDescriptor k_Mo_sum.y.desc).map (fun q => q.parameters.length) = some 0 := by decide +kernel
  rw [e] at e2
  exact (Option.some.inj e2).symm
theorem kw_Mo_sum : k_Mo_sum.w ∈ tw := tx5 12 rfl rfl
def k_Mo_at : Kt := (⟨R_Mo, "at", "(II)I"⟩, prog_10_method_34_code, 3, (some .int), 2, 43, [])
theorem np_Mo_at : nPar k_Mo_at 2 := fun sig hs => by
  have e : parseMethodDescriptor k_Mo_at.y.desc = some sig := hs
  have e2 : (parseMethodDescriptor k_Mo_at.y.desc).map (fun q => q.parameters.length) = some 2 := by decide +kernel
  rw [e] at e2
  exact (Option.some.inj e2).symm
theorem kw_Mo_at : k_Mo_at.w ∈ tw := tx5 16 rfl rfl
def k_Mo_offset : Kt := (⟨R_Mo, "offset", "(II)I"⟩, prog_10_method_35_code, 3, (some .int), 2, 42, [])
theorem np_Mo_offset : nPar k_Mo_offset 2 := fun sig hs => by
  have e : parseMethodDescriptor k_Mo_offset.y.desc = some sig := hs
  have e2 : (parseMethodDescriptor k_Mo_offset.y.desc).map (fun q => q.parameters.length) = some 2 := by decide +kernel
  rw [e] at e2
  exact (Option.some.inj e2).symm
theorem kw_Mo_offset : k_Mo_offset.w ∈ tw := tx5 20 rfl rfl
def k_Mo_miss : Kt := (⟨R_Mo, "miss", "(I)J"⟩, prog_10_method_36_code, 2, (some .long), 2, 51, [])
theorem np_Mo_miss : nPar k_Mo_miss 1 := fun sig hs => by
  have e : parseMethodDescriptor k_Mo_miss.y.desc = some sig := hs
  have e2 : (parseMethodDescriptor k_Mo_miss.y.desc).map (fun q => q.parameters.length) = some 1 := by decide +kernel
  rw [e] at e2
  exact (Option.some.inj e2).symm
theorem kw_Mo_miss : k_Mo_miss.w ∈ tw := tx5 24 rfl rfl
def k_Mo_known : Kt := (⟨R_Mo, "known", "(III)I"⟩, prog_10_method_37_code, 4, (some .int), 2, 43, [])
theorem np_Mo_known : nPar k_Mo_known 3 := fun sig hs => by
  have e : parseMethodDescriptor k_Mo_known.y.desc = some sig := hs
  have e2 : (parseMethodDescriptor k_Mo_known.y.desc).map (fun q => q.parameters.length) = some 3 := by decide +kernel
  rw [e] at e2
  exact (Option.some.inj e2).symm
theorem kw_Mo_known : k_Mo_known.w ∈ tw := tx5 28 rfl rfl
def k_Mo_scale : Kt := (⟨R_Mo, "scale", "(I)J"⟩, prog_10_method_40_code, 13, (some .long), 1, 29, [])
theorem np_Mo_scale : nPar k_Mo_scale 1 := fun sig hs => by
  have e : parseMethodDescriptor k_Mo_scale.y.desc = some sig := hs
  have e2 : (parseMethodDescriptor k_Mo_scale.y.desc).map (fun q => q.parameters.length) = some 1 := by decide +kernel
  rw [e] at e2
  exact (Option.some.inj e2).symm
theorem kw_Mo_scale : k_Mo_scale.w ∈ tw := tx5 32 rfl rfl
def k_Mo_root : Kt := (⟨R_Mo, "root", "(J)J"⟩, prog_10_method_38_code, 9, (some .long), 0, 0, [])
theorem np_Mo_root : nPar k_Mo_root 1 := fun sig hs => by
  have e : parseMethodDescriptor k_Mo_root.y.desc = some sig := hs
  have e2 : (parseMethodDescriptor k_Mo_root.y.desc).map (fun q => q.parameters.length) = some 1 := by decide +kernel
  rw [e] at e2
  exact (Option.some.inj e2).symm
theorem kw_Mo_root : k_Mo_root.w ∈ tw := tx5 35 rfl rfl
def k_Mo_divisor : Kt := (⟨R_Mo, "divisor", "(JJ)J"⟩, prog_10_method_39_code, 10, (some .long), 0, 0, [])
theorem np_Mo_divisor : nPar k_Mo_divisor 2 := fun sig hs => by
  have e : parseMethodDescriptor k_Mo_divisor.y.desc = some sig := hs
  have e2 : (parseMethodDescriptor k_Mo_divisor.y.desc).map (fun q => q.parameters.length) = some 2 := by decide +kernel
  rw [e] at e2
  exact (Option.some.inj e2).symm
theorem kw_Mo_divisor : k_Mo_divisor.w ∈ tw := tx5 40 rfl rfl
def k_Mo_heights : Kt := (⟨R_Mo, "heights", "(III)I"⟩, prog_10_method_44_code, 6, (some .int), 3, 79, [])
theorem np_Mo_heights : nPar k_Mo_heights 3 := fun sig hs => by
  have e : parseMethodDescriptor k_Mo_heights.y.desc = some sig := hs
  have e2 : (parseMethodDescriptor k_Mo_heights.y.desc).map (fun q => q.parameters.length) = some 3 := by decide +kernel
  rw [e] at e2
  exact (Option.some.inj e2).symm
theorem kw_Mo_heights : k_Mo_heights.w ∈ tw := tx5 44 rfl rfl
def k_Mo_costRow : Kt := (⟨R_Mo, "costRow", "(IIII)V"⟩, prog_10_method_42_code, 12, none, 2, 48, [])
theorem np_Mo_costRow : nPar k_Mo_costRow 4 := fun sig hs => by
  have e : parseMethodDescriptor k_Mo_costRow.y.desc = some sig := hs
  have e2 : (parseMethodDescriptor k_Mo_costRow.y.desc).map (fun q => q.parameters.length) = some 4 := by decide +kernel
  rw [e] at e2
  exact (Option.some.inj e2).symm
theorem kw_Mo_costRow : k_Mo_costRow.w ∈ tw := tx5 48 rfl rfl
def k_Mo_gap : Kt := (⟨R_Mo, "gap", "(IIIII)I"⟩, prog_10_method_41_code, 6, (some .int), 1, 23, [])
theorem np_Mo_gap : nPar k_Mo_gap 5 := fun sig hs => by
  have e : parseMethodDescriptor k_Mo_gap.y.desc = some sig := hs
  have e2 : (parseMethodDescriptor k_Mo_gap.y.desc).map (fun q => q.parameters.length) = some 5 := by decide +kernel
  rw [e] at e2
  exact (Option.some.inj e2).symm
theorem kw_Mo_gap : k_Mo_gap.w ∈ tw := tx5 52 rfl rfl
def k_Mo_trace : Kt := (⟨R_Mo, "trace", "(IIII)I"⟩, prog_10_method_43_code, 10, (some .int), 2, 48, [])
theorem np_Mo_trace : nPar k_Mo_trace 4 := fun sig hs => by
  have e : parseMethodDescriptor k_Mo_trace.y.desc = some sig := hs
  have e2 : (parseMethodDescriptor k_Mo_trace.y.desc).map (fun q => q.parameters.length) = some 4 := by decide +kernel
  rw [e] at e2
  exact (Option.some.inj e2).symm
theorem kw_Mo_trace : k_Mo_trace.w ∈ tw := tx5 56 rfl rfl
def k_Mo_depth : Kt := (⟨R_Mo, "depth", "(II)I"⟩, prog_10_method_45_code, 3, (some .int), 2, 44, [])
theorem np_Mo_depth : nPar k_Mo_depth 2 := fun sig hs => by
  have e : parseMethodDescriptor k_Mo_depth.y.desc = some sig := hs
  have e2 : (parseMethodDescriptor k_Mo_depth.y.desc).map (fun q => q.parameters.length) = some 2 := by decide +kernel
  rw [e] at e2
  exact (Option.some.inj e2).symm
theorem kw_Mo_depth : k_Mo_depth.w ∈ tw := tx5 60 rfl rfl
def k_Mo_holes : Kt := (⟨R_Mo, "holes", "(I)I"⟩, prog_10_method_49_code, 4, (some .int), 5, 113, [])
theorem np_Mo_holes : nPar k_Mo_holes 1 := fun sig hs => by
  have e : parseMethodDescriptor k_Mo_holes.y.desc = some sig := hs
  have e2 : (parseMethodDescriptor k_Mo_holes.y.desc).map (fun q => q.parameters.length) = some 1 := by decide +kernel
  rw [e] at e2
  exact (Option.some.inj e2).symm
theorem kw_Mo_holes : k_Mo_holes.w ∈ tw := tx5 64 rfl rfl
def k_Mo_close : Kt := (⟨R_Mo, "close", "(I)V"⟩, prog_10_method_47_code, 6, none, 4, 88, [])
theorem np_Mo_close : nPar k_Mo_close 1 := fun sig hs => by
  have e : parseMethodDescriptor k_Mo_close.y.desc = some sig := hs
  have e2 : (parseMethodDescriptor k_Mo_close.y.desc).map (fun q => q.parameters.length) = some 1 := by decide +kernel
  rw [e] at e2
  exact (Option.some.inj e2).symm
theorem kw_Mo_close : k_Mo_close.w ∈ tw := tx5 68 rfl rfl
def k_Mo_isOpen : Kt := (⟨R_Mo, "isOpen", "(II)Z"⟩, prog_10_method_46_code, 3, (some .boolean), 2, 44, [])
theorem np_Mo_isOpen : nPar k_Mo_isOpen 2 := fun sig hs => by
  have e : parseMethodDescriptor k_Mo_isOpen.y.desc = some sig := hs
  have e2 : (parseMethodDescriptor k_Mo_isOpen.y.desc).map (fun q => q.parameters.length) = some 2 := by decide +kernel
  rw [e] at e2
  exact (Option.some.inj e2).symm
theorem kw_Mo_isOpen : k_Mo_isOpen.w ∈ tw := tx5 72 rfl rfl
def k_Mo_mark : Kt := (⟨R_Mo, "mark", "(II)V"⟩, prog_10_method_48_code, 3, none, 3, 66, [])
theorem np_Mo_mark : nPar k_Mo_mark 2 := fun sig hs => by
  have e : parseMethodDescriptor k_Mo_mark.y.desc = some sig := hs
  have e2 : (parseMethodDescriptor k_Mo_mark.y.desc).map (fun q => q.parameters.length) = some 2 := by decide +kernel
  rw [e] at e2
  exact (Option.some.inj e2).symm
theorem kw_Mo_mark : k_Mo_mark.w ∈ tw := tx5 76 rfl rfl
def k_Mo_count : Kt := (⟨R_Mo, "count", "(I)I"⟩, prog_10_method_50_code, 4, (some .int), 1, 23, [])
theorem np_Mo_count : nPar k_Mo_count 1 := fun sig hs => by
  have e : parseMethodDescriptor k_Mo_count.y.desc = some sig := hs
  have e2 : (parseMethodDescriptor k_Mo_count.y.desc).map (fun q => q.parameters.length) = some 1 := by decide +kernel
  rw [e] at e2
  exact (Option.some.inj e2).symm
theorem kw_Mo_count : k_Mo_count.w ∈ tw := tx5 80 rfl rfl
def k_La_law : Kt := (⟨R_La, "law", "([I)Z"⟩, code, 8, (some .boolean), 9, 192, [])
theorem np_La_law : nPar k_La_law 1 := fun sig hs => by
  have e : parseMethodDescriptor k_La_law.y.desc = some sig := hs
  have e2 : (parseMethodDescriptor k_La_law.y.desc).map (fun q => q.parameters.length) = some 1 := by decide +kernel
  rw [e] at e2
  exact (Option.some.inj e2).symm
theorem tw_ai : Cond.arrayClass .int ∈ tw := tx1 52 rfl rfl
theorem tw_az : Cond.arrayClass .boolean ∈ tw := tx1 103 rfl rfl
theorem tw_al : Cond.arrayClass .long ∈ tw := tx5 81 rfl rfl
end
section
theorem d_Ph_init_0 : decode k_Ph_init.code 0 = .ok (.aload_n 0, 1) := by decide +kernel
theorem s_Ph_init_1 : SiteO k_Ph_init 1 := ⟨3, by decide +kernel, tx1 41 rfl rfl, tx1 25 rfl rfl, tx1 26 rfl rfl, by decide, by decide⟩
theorem d_Ph_init_4 : decode k_Ph_init.code 4 = .ok (.aload_n 0, 1) := by decide +kernel
theorem d_Ph_init_5 : decode k_Ph_init.code 5 = .ok (.iload_n 1, 1) := by decide +kernel
theorem p_Ph_init_6 : SiteP k_Ph_init 6 3 0 .int := ⟨9, 3, R_Ph, "PhotoModels$Photos", F_Ph, t_Ph, t_Ph_ok, n_Ph, by decide +kernel, tx1 42 rfl rfl, i_Ph, rfl, Or.inr ⟨rfl, rfl, rfl⟩, rfl, by decide, rfl⟩
theorem d_Ph_init_9 : decode k_Ph_init.code 9 = .ok (.aload_n 0, 1) := by decide +kernel
theorem d_Ph_init_10 : decode k_Ph_init.code 10 = .ok (.iload_n 2, 1) := by decide +kernel
theorem p_Ph_init_11 : SiteP k_Ph_init 11 3 1 .int := ⟨15, 3, R_Ph, "PhotoModels$Photos", F_Ph, t_Ph, t_Ph_ok, n_Ph, by decide +kernel, tx1 43 rfl rfl, i_Ph, rfl, Or.inr ⟨rfl, rfl, rfl⟩, rfl, by decide, rfl⟩
theorem d_Ph_init_14 : decode k_Ph_init.code 14 = .ok (.aload_n 0, 1) := by decide +kernel
theorem d_Ph_init_15 : decode k_Ph_init.code 15 = .ok (.iconst 4, 1) := by decide +kernel
theorem d_Ph_init_16 : decode k_Ph_init.code 16 = .ok (.iload_n 1, 1) := by decide +kernel
theorem d_Ph_init_17 : decode k_Ph_init.code 17 = .ok (.imul, 1) := by decide +kernel
theorem d_Ph_init_18 : decode k_Ph_init.code 18 = .ok (.iload_n 2, 1) := by decide +kernel
theorem d_Ph_init_19 : decode k_Ph_init.code 19 = .ok (.imul, 1) := by decide +kernel
theorem d_Ph_init_20 : decode k_Ph_init.code 20 = .ok (.newarray .int, 2) := by decide +kernel
theorem p_Ph_init_22 : SiteP k_Ph_init 22 3 2 (.array .int) := ⟨18, 3, R_Ph, "PhotoModels$Photos", F_Ph, t_Ph, t_Ph_ok, n_Ph, by decide +kernel, tx1 44 rfl rfl, i_Ph, rfl, Or.inr ⟨rfl, rfl, rfl⟩, rfl, by decide, rfl⟩
theorem d_Ph_init_25 : decode k_Ph_init.code 25 = .ok (.return_, 1) := by decide +kernel
theorem d_Se_init_0 : decode k_Se_init.code 0 = .ok (.aload_n 0, 1) := by decide +kernel
theorem s_Se_init_1 : SiteO k_Se_init 1 := ⟨3, by decide +kernel, tx1 58 rfl rfl, tx1 25 rfl rfl, tx1 26 rfl rfl, by decide, by decide⟩
theorem d_Se_init_4 : decode k_Se_init.code 4 = .ok (.aload_n 0, 1) := by decide +kernel
theorem d_Se_init_5 : decode k_Se_init.code 5 = .ok (.iload_n 1, 1) := by decide +kernel
theorem p_Se_init_6 : SiteP k_Se_init 6 6 0 .int := ⟨9, 7, R_Se, "PhotoModels$Search", F_Se, t_Se, t_Se_ok, n_Se, by decide +kernel, tx1 59 rfl rfl, i_Se, rfl, Or.inr ⟨rfl, rfl, rfl⟩, rfl, by decide, rfl⟩
theorem d_Se_init_9 : decode k_Se_init.code 9 = .ok (.aload_n 0, 1) := by decide +kernel
theorem d_Se_init_10 : decode k_Se_init.code 10 = .ok (.iload_n 2, 1) := by decide +kernel
theorem p_Se_init_11 : SiteP k_Se_init 11 6 1 .int := ⟨15, 7, R_Se, "PhotoModels$Search", F_Se, t_Se, t_Se_ok, n_Se, by decide +kernel, tx1 60 rfl rfl, i_Se, rfl, Or.inr ⟨rfl, rfl, rfl⟩, rfl, by decide, rfl⟩
theorem d_Se_init_14 : decode k_Se_init.code 14 = .ok (.aload_n 0, 1) := by decide +kernel
theorem d_Se_init_15 : decode k_Se_init.code 15 = .ok (.iload_n 1, 1) := by decide +kernel
theorem d_Se_init_16 : decode k_Se_init.code 16 = .ok (.iload_n 2, 1) := by decide +kernel
theorem d_Se_init_17 : decode k_Se_init.code 17 = .ok (.imul, 1) := by decide +kernel
theorem d_Se_init_18 : decode k_Se_init.code 18 = .ok (.newarray .int, 2) := by decide +kernel
theorem p_Se_init_20 : SiteP k_Se_init 20 6 2 (.array .int) := ⟨18, 7, R_Se, "PhotoModels$Search", F_Se, t_Se, t_Se_ok, n_Se, by decide +kernel, tx1 61 rfl rfl, i_Se, rfl, Or.inr ⟨rfl, rfl, rfl⟩, rfl, by decide, rfl⟩
theorem d_Se_init_23 : decode k_Se_init.code 23 = .ok (.return_, 1) := by decide +kernel
theorem d_Pl_init_0 : decode k_Pl_init.code 0 = .ok (.aload_n 0, 1) := by decide +kernel
theorem s_Pl_init_1 : SiteO k_Pl_init 1 := ⟨3, by decide +kernel, tx1 86 rfl rfl, tx1 25 rfl rfl, tx1 26 rfl rfl, by decide, by decide⟩
theorem d_Pl_init_4 : decode k_Pl_init.code 4 = .ok (.aload_n 0, 1) := by decide +kernel
theorem d_Pl_init_5 : decode k_Pl_init.code 5 = .ok (.bipush 12, 2) := by decide +kernel
theorem d_Pl_init_7 : decode k_Pl_init.code 7 = .ok (.newarray .boolean, 2) := by decide +kernel
theorem p_Pl_init_9 : SiteP k_Pl_init 9 4 0 (.array .boolean) := ⟨9, 5, R_Pl, "PhotoModels$Places", F_Pl, t_Pl, t_Pl_ok, n_Pl, by decide +kernel, tx1 87 rfl rfl, i_Pl, rfl, Or.inr ⟨rfl, rfl, rfl⟩, rfl, by decide, rfl⟩
theorem d_Pl_init_12 : decode k_Pl_init.code 12 = .ok (.aload_n 0, 1) := by decide +kernel
theorem d_Pl_init_13 : decode k_Pl_init.code 13 = .ok (.bipush 48, 2) := by decide +kernel
theorem d_Pl_init_15 : decode k_Pl_init.code 15 = .ok (.newarray .boolean, 2) := by decide +kernel
theorem p_Pl_init_17 : SiteP k_Pl_init 17 4 1 (.array .boolean) := ⟨15, 5, R_Pl, "PhotoModels$Places", F_Pl, t_Pl, t_Pl_ok, n_Pl, by decide +kernel, tx1 88 rfl rfl, i_Pl, rfl, Or.inr ⟨rfl, rfl, rfl⟩, rfl, by decide, rfl⟩
theorem d_Pl_init_20 : decode k_Pl_init.code 20 = .ok (.aload_n 0, 1) := by decide +kernel
theorem d_Pl_init_21 : decode k_Pl_init.code 21 = .ok (.bipush 96, 2) := by decide +kernel
theorem d_Pl_init_23 : decode k_Pl_init.code 23 = .ok (.newarray .int, 2) := by decide +kernel
theorem p_Pl_init_25 : SiteP k_Pl_init 25 4 2 (.array .int) := ⟨18, 5, R_Pl, "PhotoModels$Places", F_Pl, t_Pl, t_Pl_ok, n_Pl, by decide +kernel, tx1 89 rfl rfl, i_Pl, rfl, Or.inr ⟨rfl, rfl, rfl⟩, rfl, by decide, rfl⟩
theorem d_Pl_init_28 : decode k_Pl_init.code 28 = .ok (.return_, 1) := by decide +kernel
theorem d_Le_init_0 : decode k_Le_init.code 0 = .ok (.aload_n 0, 1) := by decide +kernel
theorem s_Le_init_1 : SiteO k_Le_init 1 := ⟨3, by decide +kernel, tx1 157 rfl rfl, tx1 25 rfl rfl, tx1 26 rfl rfl, by decide, by decide⟩
theorem d_Le_init_4 : decode k_Le_init.code 4 = .ok (.aload_n 0, 1) := by decide +kernel
theorem d_Le_init_5 : decode k_Le_init.code 5 = .ok (.bipush 10, 2) := by decide +kernel
theorem d_Le_init_7 : decode k_Le_init.code 7 = .ok (.newarray .int, 2) := by decide +kernel
theorem p_Le_init_9 : SiteP k_Le_init 9 2 0 (.array .int) := ⟨9, 4, R_Le, "PhotoModels$Lengths", F_Le, t_Le, t_Le_ok, n_Le, by decide +kernel, tx1 158 rfl rfl, i_Le, rfl, Or.inr ⟨rfl, rfl, rfl⟩, rfl, by decide, rfl⟩
theorem d_Le_init_12 : decode k_Le_init.code 12 = .ok (.aload_n 0, 1) := by decide +kernel
theorem d_Le_init_13 : decode k_Le_init.code 13 = .ok (.bipush 10, 2) := by decide +kernel
theorem d_Le_init_15 : decode k_Le_init.code 15 = .ok (.newarray .int, 2) := by decide +kernel
theorem p_Le_init_17 : SiteP k_Le_init 17 2 1 (.array .int) := ⟨15, 4, R_Le, "PhotoModels$Lengths", F_Le, t_Le, t_Le_ok, n_Le, by decide +kernel, tx1 159 rfl rfl, i_Le, rfl, Or.inr ⟨rfl, rfl, rfl⟩, rfl, by decide, rfl⟩
theorem d_Le_init_20 : decode k_Le_init.code 20 = .ok (.aload_n 0, 1) := by decide +kernel
theorem d_Le_init_21 : decode k_Le_init.code 21 = .ok (.bipush 10, 2) := by decide +kernel
theorem d_Le_init_23 : decode k_Le_init.code 23 = .ok (.newarray .int, 2) := by decide +kernel
theorem p_Le_init_25 : SiteP k_Le_init 25 2 2 (.array .int) := ⟨18, 4, R_Le, "PhotoModels$Lengths", F_Le, t_Le, t_Le_ok, n_Le, by decide +kernel, tx1 160 rfl rfl, i_Le, rfl, Or.inr ⟨rfl, rfl, rfl⟩, rfl, by decide, rfl⟩
theorem d_Le_init_28 : decode k_Le_init.code 28 = .ok (.return_, 1) := by decide +kernel
theorem d_Pl_number_0 : decode k_Pl_number.code 0 = .ok (.aload_n 0, 1) := by decide +kernel
theorem g_Pl_number_1 : SiteG k_Pl_number 1 4 3 := ⟨22, 5, R_Pl, "PhotoModels$Places", F_Pl, by decide +kernel, tx1 90 rfl rfl, i_Pl, rfl, rfl, by decide⟩
theorem d_Pl_number_4 : decode k_Pl_number.code 4 = .ok (.ireturn, 1) := by decide +kernel
theorem d_Pl_isSpare_0 : decode k_Pl_isSpare.code 0 = .ok (.aload_n 0, 1) := by decide +kernel
theorem g_Pl_isSpare_1 : SiteG k_Pl_isSpare 1 4 0 := ⟨9, 5, R_Pl, "PhotoModels$Places", F_Pl, by decide +kernel, tx1 87 rfl rfl, i_Pl, rfl, rfl, by decide⟩
theorem d_Pl_isSpare_4 : decode k_Pl_isSpare.code 4 = .ok (.iload_n 1, 1) := by decide +kernel
theorem d_Pl_isSpare_5 : decode k_Pl_isSpare.code 5 = .ok (.baload, 1) := by decide +kernel
theorem d_Pl_isSpare_6 : decode k_Pl_isSpare.code 6 = .ok (.ireturn, 1) := by decide +kernel
theorem d_Pl_isNoted_0 : decode k_Pl_isNoted.code 0 = .ok (.aload_n 0, 1) := by decide +kernel
theorem g_Pl_isNoted_1 : SiteG k_Pl_isNoted 1 4 1 := ⟨15, 5, R_Pl, "PhotoModels$Places", F_Pl, by decide +kernel, tx1 88 rfl rfl, i_Pl, rfl, rfl, by decide⟩
theorem d_Pl_isNoted_4 : decode k_Pl_isNoted.code 4 = .ok (.iload_n 1, 1) := by decide +kernel
theorem d_Pl_isNoted_5 : decode k_Pl_isNoted.code 5 = .ok (.iconst 4, 1) := by decide +kernel
theorem d_Pl_isNoted_6 : decode k_Pl_isNoted.code 6 = .ok (.imul, 1) := by decide +kernel
theorem d_Pl_isNoted_7 : decode k_Pl_isNoted.code 7 = .ok (.iload_n 2, 1) := by decide +kernel
theorem d_Pl_isNoted_8 : decode k_Pl_isNoted.code 8 = .ok (.iadd, 1) := by decide +kernel
theorem d_Pl_isNoted_9 : decode k_Pl_isNoted.code 9 = .ok (.baload, 1) := by decide +kernel
theorem d_Pl_isNoted_10 : decode k_Pl_isNoted.code 10 = .ok (.ireturn, 1) := by decide +kernel
theorem d_Pl_where_0 : decode k_Pl_where.code 0 = .ok (.aload_n 0, 1) := by decide +kernel
theorem g_Pl_where_1 : SiteG k_Pl_where 1 4 2 := ⟨18, 5, R_Pl, "PhotoModels$Places", F_Pl, by decide +kernel, tx1 89 rfl rfl, i_Pl, rfl, rfl, by decide⟩
theorem d_Pl_where_4 : decode k_Pl_where.code 4 = .ok (.iload_n 1, 1) := by decide +kernel
theorem d_Pl_where_5 : decode k_Pl_where.code 5 = .ok (.iconst 4, 1) := by decide +kernel
theorem d_Pl_where_6 : decode k_Pl_where.code 6 = .ok (.imul, 1) := by decide +kernel
theorem d_Pl_where_7 : decode k_Pl_where.code 7 = .ok (.iload_n 2, 1) := by decide +kernel
theorem d_Pl_where_8 : decode k_Pl_where.code 8 = .ok (.iadd, 1) := by decide +kernel
theorem d_Pl_where_9 : decode k_Pl_where.code 9 = .ok (.iconst 2, 1) := by decide +kernel
theorem d_Pl_where_10 : decode k_Pl_where.code 10 = .ok (.imul, 1) := by decide +kernel
theorem d_Pl_where_11 : decode k_Pl_where.code 11 = .ok (.iload_n 3, 1) := by decide +kernel
theorem d_Pl_where_12 : decode k_Pl_where.code 12 = .ok (.iadd, 1) := by decide +kernel
theorem d_Pl_where_13 : decode k_Pl_where.code 13 = .ok (.iaload, 1) := by decide +kernel
theorem d_Pl_where_14 : decode k_Pl_where.code 14 = .ok (.ireturn, 1) := by decide +kernel
theorem d_Ph_hasCell_0 : decode k_Ph_hasCell.code 0 = .ok (.iload_n 1, 1) := by decide +kernel
theorem d_Ph_hasCell_1 : decode k_Ph_hasCell.code 1 = .ok (.iconst 0, 1) := by decide +kernel
theorem d_Ph_hasCell_2 : decode k_Ph_hasCell.code 2 = .ok (.aload_n 0, 1) := by decide +kernel
theorem g_Ph_hasCell_3 : SiteG k_Ph_hasCell 3 3 0 := ⟨9, 3, R_Ph, "PhotoModels$Photos", F_Ph, by decide +kernel, tx1 42 rfl rfl, i_Ph, rfl, rfl, by decide⟩
theorem d_Ph_hasCell_6 : decode k_Ph_hasCell.code 6 = .ok (.iconst 1, 1) := by decide +kernel
theorem d_Ph_hasCell_7 : decode k_Ph_hasCell.code 7 = .ok (.isub, 1) := by decide +kernel
theorem s_Ph_hasCell_8 : SiteS k_Ph_hasCell k_Pm_isWithin 8 3 := ⟨22, by decide +kernel, ⟨kw_Pm_isWithin, tx1 1 rfl rfl, by decide, by decide⟩, Or.inr ⟨"PhotoModels", tx2 49 rfl rfl⟩, tx2 43 rfl rfl, ⟨by decide +kernel, by decide +kernel⟩, np_Pm_isWithin⟩
theorem d_Ph_hasCell_11 : decode k_Ph_hasCell.code 11 = .ok (.ifCond .eq 21, 3) := by decide +kernel
theorem d_Ph_hasCell_14 : decode k_Ph_hasCell.code 14 = .ok (.iload_n 2, 1) := by decide +kernel
theorem d_Ph_hasCell_15 : decode k_Ph_hasCell.code 15 = .ok (.iconst 0, 1) := by decide +kernel
theorem d_Ph_hasCell_16 : decode k_Ph_hasCell.code 16 = .ok (.aload_n 0, 1) := by decide +kernel
theorem g_Ph_hasCell_17 : SiteG k_Ph_hasCell 17 3 1 := ⟨15, 3, R_Ph, "PhotoModels$Photos", F_Ph, by decide +kernel, tx1 43 rfl rfl, i_Ph, rfl, rfl, by decide⟩
theorem d_Ph_hasCell_20 : decode k_Ph_hasCell.code 20 = .ok (.iconst 1, 1) := by decide +kernel
theorem d_Ph_hasCell_21 : decode k_Ph_hasCell.code 21 = .ok (.isub, 1) := by decide +kernel
theorem s_Ph_hasCell_22 : SiteS k_Ph_hasCell k_Pm_isWithin 22 3 := ⟨22, by decide +kernel, ⟨kw_Pm_isWithin, tx1 1 rfl rfl, by decide, by decide⟩, Or.inr ⟨"PhotoModels", tx2 49 rfl rfl⟩, tx2 43 rfl rfl, ⟨by decide +kernel, by decide +kernel⟩, np_Pm_isWithin⟩
theorem d_Ph_hasCell_25 : decode k_Ph_hasCell.code 25 = .ok (.ifCond .eq 7, 3) := by decide +kernel
theorem d_Ph_hasCell_28 : decode k_Ph_hasCell.code 28 = .ok (.iconst 1, 1) := by decide +kernel
theorem d_Ph_hasCell_29 : decode k_Ph_hasCell.code 29 = .ok (.goto 4, 3) := by decide +kernel
theorem d_Ph_hasCell_32 : decode k_Ph_hasCell.code 32 = .ok (.iconst 0, 1) := by decide +kernel
theorem d_Ph_hasCell_33 : decode k_Ph_hasCell.code 33 = .ok (.ireturn, 1) := by decide +kernel
theorem d_Ph_change_0 : decode k_Ph_change.code 0 = .ok (.aload_n 0, 1) := by decide +kernel
theorem d_Ph_change_1 : decode k_Ph_change.code 1 = .ok (.iload_n 1, 1) := by decide +kernel
theorem d_Ph_change_2 : decode k_Ph_change.code 2 = .ok (.iload_n 2, 1) := by decide +kernel
theorem d_Ph_change_3 : decode k_Ph_change.code 3 = .ok (.iload_n 3, 1) := by decide +kernel
theorem s_Ph_change_4 : SiteV k_Ph_change k_Ph_index 4 3 3 := ⟨26, (R_Ph, F_Ph, 3), by decide +kernel, ⟨kw_Ph_index, tx1 3 rfl rfl, by decide, by decide⟩, tx2 144 rfl rfl, tx2 146 rfl rfl, twp 1 rfl rfl, rfl, ⟨by decide +kernel, by decide +kernel⟩, np_Ph_index⟩
theorem d_Ph_change_7 : decode k_Ph_change.code 7 = .ok (.istore 5, 2) := by decide +kernel
theorem d_Ph_change_9 : decode k_Ph_change.code 9 = .ok (.aload_n 0, 1) := by decide +kernel
theorem g_Ph_change_10 : SiteG k_Ph_change 10 3 2 := ⟨18, 3, R_Ph, "PhotoModels$Photos", F_Ph, by decide +kernel, tx1 44 rfl rfl, i_Ph, rfl, rfl, by decide⟩
theorem d_Ph_change_13 : decode k_Ph_change.code 13 = .ok (.iload 5, 2) := by decide +kernel
theorem d_Ph_change_15 : decode k_Ph_change.code 15 = .ok (.iaload, 1) := by decide +kernel
theorem d_Ph_change_16 : decode k_Ph_change.code 16 = .ok (.istore 6, 2) := by decide +kernel
theorem d_Ph_change_18 : decode k_Ph_change.code 18 = .ok (.aload_n 0, 1) := by decide +kernel
theorem g_Ph_change_19 : SiteG k_Ph_change 19 3 2 := ⟨18, 3, R_Ph, "PhotoModels$Photos", F_Ph, by decide +kernel, tx1 44 rfl rfl, i_Ph, rfl, rfl, by decide⟩
theorem d_Ph_change_22 : decode k_Ph_change.code 22 = .ok (.iload 5, 2) := by decide +kernel
theorem d_Ph_change_24 : decode k_Ph_change.code 24 = .ok (.iload 4, 2) := by decide +kernel
theorem d_Ph_change_26 : decode k_Ph_change.code 26 = .ok (.iastore, 1) := by decide +kernel
theorem d_Ph_change_27 : decode k_Ph_change.code 27 = .ok (.iload 6, 2) := by decide +kernel
theorem d_Ph_change_29 : decode k_Ph_change.code 29 = .ok (.ireturn, 1) := by decide +kernel
theorem d_Ph_index_0 : decode k_Ph_index.code 0 = .ok (.iload_n 1, 1) := by decide +kernel
theorem d_Ph_index_1 : decode k_Ph_index.code 1 = .ok (.aload_n 0, 1) := by decide +kernel
theorem g_Ph_index_2 : SiteG k_Ph_index 2 3 1 := ⟨15, 3, R_Ph, "PhotoModels$Photos", F_Ph, by decide +kernel, tx1 43 rfl rfl, i_Ph, rfl, rfl, by decide⟩
theorem d_Ph_index_5 : decode k_Ph_index.code 5 = .ok (.imul, 1) := by decide +kernel
theorem d_Ph_index_6 : decode k_Ph_index.code 6 = .ok (.iload_n 3, 1) := by decide +kernel
theorem d_Ph_index_7 : decode k_Ph_index.code 7 = .ok (.iadd, 1) := by decide +kernel
theorem d_Ph_index_8 : decode k_Ph_index.code 8 = .ok (.aload_n 0, 1) := by decide +kernel
theorem g_Ph_index_9 : SiteG k_Ph_index 9 3 0 := ⟨9, 3, R_Ph, "PhotoModels$Photos", F_Ph, by decide +kernel, tx1 42 rfl rfl, i_Ph, rfl, rfl, by decide⟩
theorem d_Ph_index_12 : decode k_Ph_index.code 12 = .ok (.imul, 1) := by decide +kernel
theorem d_Ph_index_13 : decode k_Ph_index.code 13 = .ok (.iload_n 2, 1) := by decide +kernel
theorem d_Ph_index_14 : decode k_Ph_index.code 14 = .ok (.iadd, 1) := by decide +kernel
theorem d_Ph_index_15 : decode k_Ph_index.code 15 = .ok (.ireturn, 1) := by decide +kernel
theorem d_Ph_hasWindow_0 : decode k_Ph_hasWindow.code 0 = .ok (.iload_n 1, 1) := by decide +kernel
theorem d_Ph_hasWindow_1 : decode k_Ph_hasWindow.code 1 = .ok (.iconst 1, 1) := by decide +kernel
theorem d_Ph_hasWindow_2 : decode k_Ph_hasWindow.code 2 = .ok (.aload_n 0, 1) := by decide +kernel
theorem g_Ph_hasWindow_3 : SiteG k_Ph_hasWindow 3 3 0 := ⟨9, 3, R_Ph, "PhotoModels$Photos", F_Ph, by decide +kernel, tx1 42 rfl rfl, i_Ph, rfl, rfl, by decide⟩
theorem d_Ph_hasWindow_6 : decode k_Ph_hasWindow.code 6 = .ok (.iconst 2, 1) := by decide +kernel
theorem d_Ph_hasWindow_7 : decode k_Ph_hasWindow.code 7 = .ok (.isub, 1) := by decide +kernel
theorem s_Ph_hasWindow_8 : SiteS k_Ph_hasWindow k_Pm_isWithin 8 3 := ⟨22, by decide +kernel, ⟨kw_Pm_isWithin, tx1 1 rfl rfl, by decide, by decide⟩, Or.inr ⟨"PhotoModels", tx2 49 rfl rfl⟩, tx2 43 rfl rfl, ⟨by decide +kernel, by decide +kernel⟩, np_Pm_isWithin⟩
theorem d_Ph_hasWindow_11 : decode k_Ph_hasWindow.code 11 = .ok (.ifCond .eq 21, 3) := by decide +kernel
theorem d_Ph_hasWindow_14 : decode k_Ph_hasWindow.code 14 = .ok (.iload_n 2, 1) := by decide +kernel
theorem d_Ph_hasWindow_15 : decode k_Ph_hasWindow.code 15 = .ok (.iconst 1, 1) := by decide +kernel
theorem d_Ph_hasWindow_16 : decode k_Ph_hasWindow.code 16 = .ok (.aload_n 0, 1) := by decide +kernel
theorem g_Ph_hasWindow_17 : SiteG k_Ph_hasWindow 17 3 1 := ⟨15, 3, R_Ph, "PhotoModels$Photos", F_Ph, by decide +kernel, tx1 43 rfl rfl, i_Ph, rfl, rfl, by decide⟩
theorem d_Ph_hasWindow_20 : decode k_Ph_hasWindow.code 20 = .ok (.iconst 2, 1) := by decide +kernel
theorem d_Ph_hasWindow_21 : decode k_Ph_hasWindow.code 21 = .ok (.isub, 1) := by decide +kernel
theorem s_Ph_hasWindow_22 : SiteS k_Ph_hasWindow k_Pm_isWithin 22 3 := ⟨22, by decide +kernel, ⟨kw_Pm_isWithin, tx1 1 rfl rfl, by decide, by decide⟩, Or.inr ⟨"PhotoModels", tx2 49 rfl rfl⟩, tx2 43 rfl rfl, ⟨by decide +kernel, by decide +kernel⟩, np_Pm_isWithin⟩
theorem d_Ph_hasWindow_25 : decode k_Ph_hasWindow.code 25 = .ok (.ifCond .eq 7, 3) := by decide +kernel
theorem d_Ph_hasWindow_28 : decode k_Ph_hasWindow.code 28 = .ok (.iconst 1, 1) := by decide +kernel
theorem d_Ph_hasWindow_29 : decode k_Ph_hasWindow.code 29 = .ok (.goto 4, 3) := by decide +kernel
theorem d_Ph_hasWindow_32 : decode k_Ph_hasWindow.code 32 = .ok (.iconst 0, 1) := by decide +kernel
theorem d_Ph_hasWindow_33 : decode k_Ph_hasWindow.code 33 = .ok (.ireturn, 1) := by decide +kernel
theorem d_Se_look_0 : decode k_Se_look.code 0 = .ok (.ldc 37, 2) := by decide +kernel
theorem c_Se_look_0 : Cond.constant k_Se_look.y.cls 37 2147483647 ∈ tw := tx2 163 rfl rfl
theorem d_Se_look_2 : decode k_Se_look.code 2 = .ok (.istore 6, 2) := by decide +kernel
theorem d_Se_look_4 : decode k_Se_look.code 4 = .ok (.iconst 1, 1) := by decide +kernel
theorem d_Se_look_5 : decode k_Se_look.code 5 = .ok (.istore 7, 2) := by decide +kernel
theorem d_Se_look_7 : decode k_Se_look.code 7 = .ok (.iload 7, 2) := by decide +kernel
theorem d_Se_look_9 : decode k_Se_look.code 9 = .ok (.aload_n 0, 1) := by decide +kernel
theorem g_Se_look_10 : SiteG k_Se_look 10 6 1 := ⟨15, 7, R_Se, "PhotoModels$Search", F_Se, by decide +kernel, tx1 60 rfl rfl, i_Se, rfl, rfl, by decide⟩
theorem d_Se_look_13 : decode k_Se_look.code 13 = .ok (.iconst 1, 1) := by decide +kernel
theorem d_Se_look_14 : decode k_Se_look.code 14 = .ok (.isub, 1) := by decide +kernel
theorem d_Se_look_15 : decode k_Se_look.code 15 = .ok (.if_icmp .ge 85, 3) := by decide +kernel
theorem d_Se_look_18 : decode k_Se_look.code 18 = .ok (.iconst 1, 1) := by decide +kernel
theorem d_Se_look_19 : decode k_Se_look.code 19 = .ok (.istore 8, 2) := by decide +kernel
theorem d_Se_look_21 : decode k_Se_look.code 21 = .ok (.iload 8, 2) := by decide +kernel
theorem d_Se_look_23 : decode k_Se_look.code 23 = .ok (.aload_n 0, 1) := by decide +kernel
theorem g_Se_look_24 : SiteG k_Se_look 24 6 0 := ⟨9, 7, R_Se, "PhotoModels$Search", F_Se, by decide +kernel, tx1 59 rfl rfl, i_Se, rfl, rfl, by decide⟩
theorem d_Se_look_27 : decode k_Se_look.code 27 = .ok (.iconst 1, 1) := by decide +kernel
theorem d_Se_look_28 : decode k_Se_look.code 28 = .ok (.isub, 1) := by decide +kernel
theorem d_Se_look_29 : decode k_Se_look.code 29 = .ok (.if_icmp .ge 65, 3) := by decide +kernel
theorem d_Se_look_32 : decode k_Se_look.code 32 = .ok (.aload_n 1, 1) := by decide +kernel
theorem d_Se_look_33 : decode k_Se_look.code 33 = .ok (.iload_n 2, 1) := by decide +kernel
theorem d_Se_look_34 : decode k_Se_look.code 34 = .ok (.iload 4, 2) := by decide +kernel
theorem d_Se_look_36 : decode k_Se_look.code 36 = .ok (.iload 5, 2) := by decide +kernel
theorem d_Se_look_38 : decode k_Se_look.code 38 = .ok (.iload_n 3, 1) := by decide +kernel
theorem d_Se_look_39 : decode k_Se_look.code 39 = .ok (.iload 8, 2) := by decide +kernel
theorem d_Se_look_41 : decode k_Se_look.code 41 = .ok (.iload 7, 2) := by decide +kernel
theorem s_Se_look_43 : SiteV k_Se_look k_Ph_windowMiss 43 3 6 := ⟨38, (R_Ph, F_Ph, 3), by decide +kernel, ⟨kw_Ph_windowMiss, tx1 3 rfl rfl, by decide, by decide⟩, tx2 164 rfl rfl, tx2 165 rfl rfl, tx2 166 rfl rfl, rfl, ⟨by decide +kernel, by decide +kernel⟩, np_Ph_windowMiss⟩
theorem d_Se_look_46 : decode k_Se_look.code 46 = .ok (.istore 9, 2) := by decide +kernel
theorem d_Se_look_48 : decode k_Se_look.code 48 = .ok (.aload_n 0, 1) := by decide +kernel
theorem g_Se_look_49 : SiteG k_Se_look 49 6 2 := ⟨18, 7, R_Se, "PhotoModels$Search", F_Se, by decide +kernel, tx1 61 rfl rfl, i_Se, rfl, rfl, by decide⟩
theorem d_Se_look_52 : decode k_Se_look.code 52 = .ok (.iload 7, 2) := by decide +kernel
theorem d_Se_look_54 : decode k_Se_look.code 54 = .ok (.aload_n 0, 1) := by decide +kernel
theorem g_Se_look_55 : SiteG k_Se_look 55 6 0 := ⟨9, 7, R_Se, "PhotoModels$Search", F_Se, by decide +kernel, tx1 59 rfl rfl, i_Se, rfl, rfl, by decide⟩
theorem d_Se_look_58 : decode k_Se_look.code 58 = .ok (.imul, 1) := by decide +kernel
theorem d_Se_look_59 : decode k_Se_look.code 59 = .ok (.iload 8, 2) := by decide +kernel
theorem d_Se_look_61 : decode k_Se_look.code 61 = .ok (.iadd, 1) := by decide +kernel
theorem d_Se_look_62 : decode k_Se_look.code 62 = .ok (.iload 9, 2) := by decide +kernel
theorem d_Se_look_64 : decode k_Se_look.code 64 = .ok (.iastore, 1) := by decide +kernel
theorem d_Se_look_65 : decode k_Se_look.code 65 = .ok (.iload 9, 2) := by decide +kernel
theorem d_Se_look_67 : decode k_Se_look.code 67 = .ok (.iload 6, 2) := by decide +kernel
theorem d_Se_look_69 : decode k_Se_look.code 69 = .ok (.if_icmp .ge 19, 3) := by decide +kernel
theorem d_Se_look_72 : decode k_Se_look.code 72 = .ok (.iload 9, 2) := by decide +kernel
theorem d_Se_look_74 : decode k_Se_look.code 74 = .ok (.istore 6, 2) := by decide +kernel
theorem d_Se_look_76 : decode k_Se_look.code 76 = .ok (.aload_n 0, 1) := by decide +kernel
theorem d_Se_look_77 : decode k_Se_look.code 77 = .ok (.iload 8, 2) := by decide +kernel
theorem p_Se_look_79 : SiteP k_Se_look 79 6 4 .int := ⟨29, 7, R_Se, "PhotoModels$Search", F_Se, t_Se, t_Se_ok, n_Se, by decide +kernel, tx1 63 rfl rfl, i_Se, rfl, Or.inl rfl, rfl, by decide, rfl⟩
theorem d_Se_look_82 : decode k_Se_look.code 82 = .ok (.aload_n 0, 1) := by decide +kernel
theorem d_Se_look_83 : decode k_Se_look.code 83 = .ok (.iload 7, 2) := by decide +kernel
theorem p_Se_look_85 : SiteP k_Se_look 85 6 5 .int := ⟨32, 7, R_Se, "PhotoModels$Search", F_Se, t_Se, t_Se_ok, n_Se, by decide +kernel, tx1 64 rfl rfl, i_Se, rfl, Or.inl rfl, rfl, by decide, rfl⟩
theorem d_Se_look_88 : decode k_Se_look.code 88 = .ok (.iinc 8 1, 3) := by decide +kernel
theorem d_Se_look_91 : decode k_Se_look.code 91 = .ok (.goto (-70), 3) := by decide +kernel
theorem d_Se_look_94 : decode k_Se_look.code 94 = .ok (.iinc 7 1, 3) := by decide +kernel
theorem d_Se_look_97 : decode k_Se_look.code 97 = .ok (.goto (-90), 3) := by decide +kernel
theorem d_Se_look_100 : decode k_Se_look.code 100 = .ok (.aload_n 0, 1) := by decide +kernel
theorem d_Se_look_101 : decode k_Se_look.code 101 = .ok (.aload_n 0, 1) := by decide +kernel
theorem s_Se_look_102 : SiteV k_Se_look k_Se_leastFarFromFound 102 6 0 := ⟨44, (R_Se, F_Se, 7), by decide +kernel, ⟨kw_Se_leastFarFromFound, tx1 4 rfl rfl, by decide, by decide⟩, tx2 168 rfl rfl, tx2 170 rfl rfl, twp 2 rfl rfl, rfl, ⟨by decide +kernel, by decide +kernel⟩, np_Se_leastFarFromFound⟩
theorem p_Se_look_105 : SiteP k_Se_look 105 6 6 .int := ⟨26, 7, R_Se, "PhotoModels$Search", F_Se, t_Se, t_Se_ok, n_Se, by decide +kernel, tx1 65 rfl rfl, i_Se, rfl, Or.inl rfl, rfl, by decide, rfl⟩
theorem d_Se_look_108 : decode k_Se_look.code 108 = .ok (.aload_n 0, 1) := by decide +kernel
theorem d_Se_look_109 : decode k_Se_look.code 109 = .ok (.iconst 1, 1) := by decide +kernel
theorem p_Se_look_110 : SiteP k_Se_look 110 6 3 .boolean := ⟨22, 7, R_Se, "PhotoModels$Search", F_Se, t_Se, t_Se_ok, n_Se, by decide +kernel, tx1 62 rfl rfl, i_Se, rfl, Or.inl rfl, rfl, by decide, rfl⟩
theorem d_Se_look_113 : decode k_Se_look.code 113 = .ok (.iload 6, 2) := by decide +kernel
theorem d_Se_look_115 : decode k_Se_look.code 115 = .ok (.ireturn, 1) := by decide +kernel
theorem d_Ph_windowMiss_0 : decode k_Ph_windowMiss.code 0 = .ok (.iconst 0, 1) := by decide +kernel
theorem d_Ph_windowMiss_1 : decode k_Ph_windowMiss.code 1 = .ok (.istore 7, 2) := by decide +kernel
theorem d_Ph_windowMiss_3 : decode k_Ph_windowMiss.code 3 = .ok (.iconst (-1), 1) := by decide +kernel
theorem d_Ph_windowMiss_4 : decode k_Ph_windowMiss.code 4 = .ok (.istore 8, 2) := by decide +kernel
theorem d_Ph_windowMiss_6 : decode k_Ph_windowMiss.code 6 = .ok (.iload 8, 2) := by decide +kernel
theorem d_Ph_windowMiss_8 : decode k_Ph_windowMiss.code 8 = .ok (.iconst 1, 1) := by decide +kernel
theorem d_Ph_windowMiss_9 : decode k_Ph_windowMiss.code 9 = .ok (.if_icmp .gt 84, 3) := by decide +kernel
theorem d_Ph_windowMiss_12 : decode k_Ph_windowMiss.code 12 = .ok (.aload_n 0, 1) := by decide +kernel
theorem d_Ph_windowMiss_13 : decode k_Ph_windowMiss.code 13 = .ok (.iload_n 1, 1) := by decide +kernel
theorem d_Ph_windowMiss_14 : decode k_Ph_windowMiss.code 14 = .ok (.iload_n 2, 1) := by decide +kernel
theorem d_Ph_windowMiss_15 : decode k_Ph_windowMiss.code 15 = .ok (.iload_n 3, 1) := by decide +kernel
theorem d_Ph_windowMiss_16 : decode k_Ph_windowMiss.code 16 = .ok (.iload 8, 2) := by decide +kernel
theorem d_Ph_windowMiss_18 : decode k_Ph_windowMiss.code 18 = .ok (.iadd, 1) := by decide +kernel
theorem s_Ph_windowMiss_19 : SiteV k_Ph_windowMiss k_Ph_index 19 3 3 := ⟨26, (R_Ph, F_Ph, 3), by decide +kernel, ⟨kw_Ph_index, tx1 3 rfl rfl, by decide, by decide⟩, tx2 144 rfl rfl, tx2 146 rfl rfl, twp 1 rfl rfl, rfl, ⟨by decide +kernel, by decide +kernel⟩, np_Ph_index⟩
theorem d_Ph_windowMiss_22 : decode k_Ph_windowMiss.code 22 = .ok (.istore 9, 2) := by decide +kernel
theorem d_Ph_windowMiss_24 : decode k_Ph_windowMiss.code 24 = .ok (.aload_n 0, 1) := by decide +kernel
theorem d_Ph_windowMiss_25 : decode k_Ph_windowMiss.code 25 = .ok (.iload 4, 2) := by decide +kernel
theorem d_Ph_windowMiss_27 : decode k_Ph_windowMiss.code 27 = .ok (.iload 5, 2) := by decide +kernel
theorem d_Ph_windowMiss_29 : decode k_Ph_windowMiss.code 29 = .ok (.iload 6, 2) := by decide +kernel
theorem d_Ph_windowMiss_31 : decode k_Ph_windowMiss.code 31 = .ok (.iload 8, 2) := by decide +kernel
theorem d_Ph_windowMiss_33 : decode k_Ph_windowMiss.code 33 = .ok (.iadd, 1) := by decide +kernel
theorem s_Ph_windowMiss_34 : SiteV k_Ph_windowMiss k_Ph_index 34 3 3 := ⟨26, (R_Ph, F_Ph, 3), by decide +kernel, ⟨kw_Ph_index, tx1 3 rfl rfl, by decide, by decide⟩, tx2 144 rfl rfl, tx2 146 rfl rfl, twp 1 rfl rfl, rfl, ⟨by decide +kernel, by decide +kernel⟩, np_Ph_index⟩
theorem d_Ph_windowMiss_37 : decode k_Ph_windowMiss.code 37 = .ok (.istore 10, 2) := by decide +kernel
theorem d_Ph_windowMiss_39 : decode k_Ph_windowMiss.code 39 = .ok (.iconst (-1), 1) := by decide +kernel
theorem d_Ph_windowMiss_40 : decode k_Ph_windowMiss.code 40 = .ok (.istore 11, 2) := by decide +kernel
theorem d_Ph_windowMiss_42 : decode k_Ph_windowMiss.code 42 = .ok (.iload 11, 2) := by decide +kernel
theorem d_Ph_windowMiss_44 : decode k_Ph_windowMiss.code 44 = .ok (.iconst 1, 1) := by decide +kernel
theorem d_Ph_windowMiss_45 : decode k_Ph_windowMiss.code 45 = .ok (.if_icmp .gt 42, 3) := by decide +kernel
theorem d_Ph_windowMiss_48 : decode k_Ph_windowMiss.code 48 = .ok (.aload_n 0, 1) := by decide +kernel
theorem g_Ph_windowMiss_49 : SiteG k_Ph_windowMiss 49 3 2 := ⟨18, 3, R_Ph, "PhotoModels$Photos", F_Ph, by decide +kernel, tx1 44 rfl rfl, i_Ph, rfl, rfl, by decide⟩
theorem d_Ph_windowMiss_52 : decode k_Ph_windowMiss.code 52 = .ok (.iload 9, 2) := by decide +kernel
theorem d_Ph_windowMiss_54 : decode k_Ph_windowMiss.code 54 = .ok (.iload 11, 2) := by decide +kernel
theorem d_Ph_windowMiss_56 : decode k_Ph_windowMiss.code 56 = .ok (.iadd, 1) := by decide +kernel
theorem d_Ph_windowMiss_57 : decode k_Ph_windowMiss.code 57 = .ok (.iaload, 1) := by decide +kernel
theorem d_Ph_windowMiss_58 : decode k_Ph_windowMiss.code 58 = .ok (.aload_n 0, 1) := by decide +kernel
theorem g_Ph_windowMiss_59 : SiteG k_Ph_windowMiss 59 3 2 := ⟨18, 3, R_Ph, "PhotoModels$Photos", F_Ph, by decide +kernel, tx1 44 rfl rfl, i_Ph, rfl, rfl, by decide⟩
theorem d_Ph_windowMiss_62 : decode k_Ph_windowMiss.code 62 = .ok (.iload 10, 2) := by decide +kernel
theorem d_Ph_windowMiss_64 : decode k_Ph_windowMiss.code 64 = .ok (.iload 11, 2) := by decide +kernel
theorem d_Ph_windowMiss_66 : decode k_Ph_windowMiss.code 66 = .ok (.iadd, 1) := by decide +kernel
theorem d_Ph_windowMiss_67 : decode k_Ph_windowMiss.code 67 = .ok (.iaload, 1) := by decide +kernel
theorem d_Ph_windowMiss_68 : decode k_Ph_windowMiss.code 68 = .ok (.isub, 1) := by decide +kernel
theorem d_Ph_windowMiss_69 : decode k_Ph_windowMiss.code 69 = .ok (.istore 12, 2) := by decide +kernel
theorem d_Ph_windowMiss_71 : decode k_Ph_windowMiss.code 71 = .ok (.iload 7, 2) := by decide +kernel
theorem d_Ph_windowMiss_73 : decode k_Ph_windowMiss.code 73 = .ok (.iload 12, 2) := by decide +kernel
theorem d_Ph_windowMiss_75 : decode k_Ph_windowMiss.code 75 = .ok (.iload 12, 2) := by decide +kernel
theorem d_Ph_windowMiss_77 : decode k_Ph_windowMiss.code 77 = .ok (.imul, 1) := by decide +kernel
theorem d_Ph_windowMiss_78 : decode k_Ph_windowMiss.code 78 = .ok (.iadd, 1) := by decide +kernel
theorem d_Ph_windowMiss_79 : decode k_Ph_windowMiss.code 79 = .ok (.istore 7, 2) := by decide +kernel
theorem d_Ph_windowMiss_81 : decode k_Ph_windowMiss.code 81 = .ok (.iinc 11 1, 3) := by decide +kernel
theorem d_Ph_windowMiss_84 : decode k_Ph_windowMiss.code 84 = .ok (.goto (-42), 3) := by decide +kernel
theorem d_Ph_windowMiss_87 : decode k_Ph_windowMiss.code 87 = .ok (.iinc 8 1, 3) := by decide +kernel
theorem d_Ph_windowMiss_90 : decode k_Ph_windowMiss.code 90 = .ok (.goto (-84), 3) := by decide +kernel
theorem d_Ph_windowMiss_93 : decode k_Ph_windowMiss.code 93 = .ok (.iload 7, 2) := by decide +kernel
theorem d_Ph_windowMiss_95 : decode k_Ph_windowMiss.code 95 = .ok (.ireturn, 1) := by decide +kernel
theorem d_Se_leastFarFromFound_0 : decode k_Se_leastFarFromFound.code 0 = .ok (.iconst (-1), 1) := by decide +kernel
theorem d_Se_leastFarFromFound_1 : decode k_Se_leastFarFromFound.code 1 = .ok (.istore_n 1, 1) := by decide +kernel
theorem d_Se_leastFarFromFound_2 : decode k_Se_leastFarFromFound.code 2 = .ok (.iconst 1, 1) := by decide +kernel
theorem d_Se_leastFarFromFound_3 : decode k_Se_leastFarFromFound.code 3 = .ok (.istore_n 2, 1) := by decide +kernel
theorem d_Se_leastFarFromFound_4 : decode k_Se_leastFarFromFound.code 4 = .ok (.iload_n 2, 1) := by decide +kernel
theorem d_Se_leastFarFromFound_5 : decode k_Se_leastFarFromFound.code 5 = .ok (.aload_n 0, 1) := by decide +kernel
theorem g_Se_leastFarFromFound_6 : SiteG k_Se_leastFarFromFound 6 6 1 := ⟨15, 7, R_Se, "PhotoModels$Search", F_Se, by decide +kernel, tx1 60 rfl rfl, i_Se, rfl, rfl, by decide⟩
theorem d_Se_leastFarFromFound_9 : decode k_Se_leastFarFromFound.code 9 = .ok (.iconst 1, 1) := by decide +kernel
theorem d_Se_leastFarFromFound_10 : decode k_Se_leastFarFromFound.code 10 = .ok (.isub, 1) := by decide +kernel
theorem d_Se_leastFarFromFound_11 : decode k_Se_leastFarFromFound.code 11 = .ok (.if_icmp .ge 65, 3) := by decide +kernel
theorem d_Se_leastFarFromFound_14 : decode k_Se_leastFarFromFound.code 14 = .ok (.iconst 1, 1) := by decide +kernel
theorem d_Se_leastFarFromFound_15 : decode k_Se_leastFarFromFound.code 15 = .ok (.istore_n 3, 1) := by decide +kernel
theorem d_Se_leastFarFromFound_16 : decode k_Se_leastFarFromFound.code 16 = .ok (.iload_n 3, 1) := by decide +kernel
theorem d_Se_leastFarFromFound_17 : decode k_Se_leastFarFromFound.code 17 = .ok (.aload_n 0, 1) := by decide +kernel
theorem g_Se_leastFarFromFound_18 : SiteG k_Se_leastFarFromFound 18 6 0 := ⟨9, 7, R_Se, "PhotoModels$Search", F_Se, by decide +kernel, tx1 59 rfl rfl, i_Se, rfl, rfl, by decide⟩
theorem d_Se_leastFarFromFound_21 : decode k_Se_leastFarFromFound.code 21 = .ok (.iconst 1, 1) := by decide +kernel
theorem d_Se_leastFarFromFound_22 : decode k_Se_leastFarFromFound.code 22 = .ok (.isub, 1) := by decide +kernel
theorem d_Se_leastFarFromFound_23 : decode k_Se_leastFarFromFound.code 23 = .ok (.if_icmp .ge 47, 3) := by decide +kernel
theorem d_Se_leastFarFromFound_26 : decode k_Se_leastFarFromFound.code 26 = .ok (.aload_n 0, 1) := by decide +kernel
theorem g_Se_leastFarFromFound_27 : SiteG k_Se_leastFarFromFound 27 6 2 := ⟨18, 7, R_Se, "PhotoModels$Search", F_Se, by decide +kernel, tx1 61 rfl rfl, i_Se, rfl, rfl, by decide⟩
theorem d_Se_leastFarFromFound_30 : decode k_Se_leastFarFromFound.code 30 = .ok (.iload_n 2, 1) := by decide +kernel
theorem d_Se_leastFarFromFound_31 : decode k_Se_leastFarFromFound.code 31 = .ok (.aload_n 0, 1) := by decide +kernel
theorem g_Se_leastFarFromFound_32 : SiteG k_Se_leastFarFromFound 32 6 0 := ⟨9, 7, R_Se, "PhotoModels$Search", F_Se, by decide +kernel, tx1 59 rfl rfl, i_Se, rfl, rfl, by decide⟩
theorem d_Se_leastFarFromFound_35 : decode k_Se_leastFarFromFound.code 35 = .ok (.imul, 1) := by decide +kernel
theorem d_Se_leastFarFromFound_36 : decode k_Se_leastFarFromFound.code 36 = .ok (.iload_n 3, 1) := by decide +kernel
theorem d_Se_leastFarFromFound_37 : decode k_Se_leastFarFromFound.code 37 = .ok (.iadd, 1) := by decide +kernel
theorem d_Se_leastFarFromFound_38 : decode k_Se_leastFarFromFound.code 38 = .ok (.iaload, 1) := by decide +kernel
theorem d_Se_leastFarFromFound_39 : decode k_Se_leastFarFromFound.code 39 = .ok (.istore 4, 2) := by decide +kernel
theorem d_Se_leastFarFromFound_41 : decode k_Se_leastFarFromFound.code 41 = .ok (.aload_n 0, 1) := by decide +kernel
theorem d_Se_leastFarFromFound_42 : decode k_Se_leastFarFromFound.code 42 = .ok (.iload_n 3, 1) := by decide +kernel
theorem d_Se_leastFarFromFound_43 : decode k_Se_leastFarFromFound.code 43 = .ok (.iload_n 2, 1) := by decide +kernel
theorem s_Se_leastFarFromFound_44 : SiteV k_Se_leastFarFromFound k_Se_isFarFromFound 44 6 2 := ⟨48, (R_Se, F_Se, 7), by decide +kernel, ⟨kw_Se_isFarFromFound, tx1 4 rfl rfl, by decide, by decide⟩, tx2 172 rfl rfl, tx2 174 rfl rfl, twp 3 rfl rfl, rfl, ⟨by decide +kernel, by decide +kernel⟩, np_Se_isFarFromFound⟩
theorem d_Se_leastFarFromFound_47 : decode k_Se_leastFarFromFound.code 47 = .ok (.ifCond .eq 17, 3) := by decide +kernel
theorem d_Se_leastFarFromFound_50 : decode k_Se_leastFarFromFound.code 50 = .ok (.iload_n 1, 1) := by decide +kernel
theorem d_Se_leastFarFromFound_51 : decode k_Se_leastFarFromFound.code 51 = .ok (.iconst (-1), 1) := by decide +kernel
theorem d_Se_leastFarFromFound_52 : decode k_Se_leastFarFromFound.code 52 = .ok (.if_icmp .eq 9, 3) := by decide +kernel
theorem d_Se_leastFarFromFound_55 : decode k_Se_leastFarFromFound.code 55 = .ok (.iload 4, 2) := by decide +kernel
theorem d_Se_leastFarFromFound_57 : decode k_Se_leastFarFromFound.code 57 = .ok (.iload_n 1, 1) := by decide +kernel
theorem d_Se_leastFarFromFound_58 : decode k_Se_leastFarFromFound.code 58 = .ok (.if_icmp .ge 6, 3) := by decide +kernel
theorem d_Se_leastFarFromFound_61 : decode k_Se_leastFarFromFound.code 61 = .ok (.iload 4, 2) := by decide +kernel
theorem d_Se_leastFarFromFound_63 : decode k_Se_leastFarFromFound.code 63 = .ok (.istore_n 1, 1) := by decide +kernel
theorem d_Se_leastFarFromFound_64 : decode k_Se_leastFarFromFound.code 64 = .ok (.iinc 3 1, 3) := by decide +kernel
theorem d_Se_leastFarFromFound_67 : decode k_Se_leastFarFromFound.code 67 = .ok (.goto (-51), 3) := by decide +kernel
theorem d_Se_leastFarFromFound_70 : decode k_Se_leastFarFromFound.code 70 = .ok (.iinc 2 1, 3) := by decide +kernel
theorem d_Se_leastFarFromFound_73 : decode k_Se_leastFarFromFound.code 73 = .ok (.goto (-69), 3) := by decide +kernel
theorem d_Se_leastFarFromFound_76 : decode k_Se_leastFarFromFound.code 76 = .ok (.iload_n 1, 1) := by decide +kernel
theorem d_Se_leastFarFromFound_77 : decode k_Se_leastFarFromFound.code 77 = .ok (.ireturn, 1) := by decide +kernel
theorem d_Se_isFarFromFound_0 : decode k_Se_isFarFromFound.code 0 = .ok (.iload_n 1, 1) := by decide +kernel
theorem d_Se_isFarFromFound_1 : decode k_Se_isFarFromFound.code 1 = .ok (.aload_n 0, 1) := by decide +kernel
theorem g_Se_isFarFromFound_2 : SiteG k_Se_isFarFromFound 2 6 4 := ⟨29, 7, R_Se, "PhotoModels$Search", F_Se, by decide +kernel, tx1 63 rfl rfl, i_Se, rfl, rfl, by decide⟩
theorem d_Se_isFarFromFound_5 : decode k_Se_isFarFromFound.code 5 = .ok (.isub, 1) := by decide +kernel
theorem s_Se_isFarFromFound_6 : SiteM k_Se_isFarFromFound 6 Lib.Math.abs.name Lib.Math.abs.code 1 := ⟨52, by decide +kernel, tx2 176 rfl rfl, tx2 177 rfl rfl, tx1 2 rfl rfl, tx2 178 rfl rfl, by decide, by decide⟩
theorem d_Se_isFarFromFound_9 : decode k_Se_isFarFromFound.code 9 = .ok (.iconst 1, 1) := by decide +kernel
theorem d_Se_isFarFromFound_10 : decode k_Se_isFarFromFound.code 10 = .ok (.if_icmp .gt 16, 3) := by decide +kernel
theorem d_Se_isFarFromFound_13 : decode k_Se_isFarFromFound.code 13 = .ok (.iload_n 2, 1) := by decide +kernel
theorem d_Se_isFarFromFound_14 : decode k_Se_isFarFromFound.code 14 = .ok (.aload_n 0, 1) := by decide +kernel
theorem g_Se_isFarFromFound_15 : SiteG k_Se_isFarFromFound 15 6 5 := ⟨32, 7, R_Se, "PhotoModels$Search", F_Se, by decide +kernel, tx1 64 rfl rfl, i_Se, rfl, rfl, by decide⟩
theorem d_Se_isFarFromFound_18 : decode k_Se_isFarFromFound.code 18 = .ok (.isub, 1) := by decide +kernel
theorem s_Se_isFarFromFound_19 : SiteM k_Se_isFarFromFound 19 Lib.Math.abs.name Lib.Math.abs.code 1 := ⟨52, by decide +kernel, tx2 176 rfl rfl, tx2 177 rfl rfl, tx1 2 rfl rfl, tx2 178 rfl rfl, by decide, by decide⟩
theorem d_Se_isFarFromFound_22 : decode k_Se_isFarFromFound.code 22 = .ok (.iconst 1, 1) := by decide +kernel
theorem d_Se_isFarFromFound_23 : decode k_Se_isFarFromFound.code 23 = .ok (.if_icmp .le 7, 3) := by decide +kernel
theorem d_Se_isFarFromFound_26 : decode k_Se_isFarFromFound.code 26 = .ok (.iconst 1, 1) := by decide +kernel
theorem d_Se_isFarFromFound_27 : decode k_Se_isFarFromFound.code 27 = .ok (.goto 4, 3) := by decide +kernel
theorem d_Se_isFarFromFound_30 : decode k_Se_isFarFromFound.code 30 = .ok (.iconst 0, 1) := by decide +kernel
theorem d_Se_isFarFromFound_31 : decode k_Se_isFarFromFound.code 31 = .ok (.ireturn, 1) := by decide +kernel
theorem d_Se_isDone_0 : decode k_Se_isDone.code 0 = .ok (.aload_n 0, 1) := by decide +kernel
theorem g_Se_isDone_1 : SiteG k_Se_isDone 1 6 3 := ⟨22, 7, R_Se, "PhotoModels$Search", F_Se, by decide +kernel, tx1 62 rfl rfl, i_Se, rfl, rfl, by decide⟩
theorem d_Se_isDone_4 : decode k_Se_isDone.code 4 = .ok (.ireturn, 1) := by decide +kernel
theorem d_Se_answer_0 : decode k_Se_answer.code 0 = .ok (.iload_n 1, 1) := by decide +kernel
theorem d_Se_answer_1 : decode k_Se_answer.code 1 = .ok (.iconst 2, 1) := by decide +kernel
theorem d_Se_answer_2 : decode k_Se_answer.code 2 = .ok (.if_icmp .ne 8, 3) := by decide +kernel
theorem d_Se_answer_5 : decode k_Se_answer.code 5 = .ok (.aload_n 0, 1) := by decide +kernel
theorem g_Se_answer_6 : SiteG k_Se_answer 6 6 6 := ⟨26, 7, R_Se, "PhotoModels$Search", F_Se, by decide +kernel, tx1 65 rfl rfl, i_Se, rfl, rfl, by decide⟩
theorem d_Se_answer_9 : decode k_Se_answer.code 9 = .ok (.ireturn, 1) := by decide +kernel
theorem d_Se_answer_10 : decode k_Se_answer.code 10 = .ok (.iload_n 1, 1) := by decide +kernel
theorem d_Se_answer_11 : decode k_Se_answer.code 11 = .ok (.ifCond .ne 10, 3) := by decide +kernel
theorem d_Se_answer_14 : decode k_Se_answer.code 14 = .ok (.aload_n 0, 1) := by decide +kernel
theorem g_Se_answer_15 : SiteG k_Se_answer 15 6 4 := ⟨29, 7, R_Se, "PhotoModels$Search", F_Se, by decide +kernel, tx1 63 rfl rfl, i_Se, rfl, rfl, by decide⟩
theorem d_Se_answer_18 : decode k_Se_answer.code 18 = .ok (.goto 7, 3) := by decide +kernel
theorem d_Se_answer_21 : decode k_Se_answer.code 21 = .ok (.aload_n 0, 1) := by decide +kernel
theorem g_Se_answer_22 : SiteG k_Se_answer 22 6 5 := ⟨32, 7, R_Se, "PhotoModels$Search", F_Se, by decide +kernel, tx1 64 rfl rfl, i_Se, rfl, rfl, by decide⟩
theorem d_Se_answer_25 : decode k_Se_answer.code 25 = .ok (.ireturn, 1) := by decide +kernel
theorem d_Pl_add_0 : decode k_Pl_add.code 0 = .ok (.aload_n 0, 1) := by decide +kernel
theorem g_Pl_add_1 : SiteG k_Pl_add 1 4 3 := ⟨22, 5, R_Pl, "PhotoModels$Places", F_Pl, by decide +kernel, tx1 90 rfl rfl, i_Pl, rfl, rfl, by decide⟩
theorem d_Pl_add_4 : decode k_Pl_add.code 4 = .ok (.istore_n 1, 1) := by decide +kernel
theorem d_Pl_add_5 : decode k_Pl_add.code 5 = .ok (.aload_n 0, 1) := by decide +kernel
theorem d_Pl_add_6 : decode k_Pl_add.code 6 = .ok (.dup, 1) := by decide +kernel
theorem g_Pl_add_7 : SiteG k_Pl_add 7 4 3 := ⟨22, 5, R_Pl, "PhotoModels$Places", F_Pl, by decide +kernel, tx1 90 rfl rfl, i_Pl, rfl, rfl, by decide⟩
theorem d_Pl_add_10 : decode k_Pl_add.code 10 = .ok (.iconst 1, 1) := by decide +kernel
theorem d_Pl_add_11 : decode k_Pl_add.code 11 = .ok (.iadd, 1) := by decide +kernel
theorem p_Pl_add_12 : SiteP k_Pl_add 12 4 3 .int := ⟨22, 5, R_Pl, "PhotoModels$Places", F_Pl, t_Pl, t_Pl_ok, n_Pl, by decide +kernel, tx1 90 rfl rfl, i_Pl, rfl, Or.inl rfl, rfl, by decide, rfl⟩
theorem d_Pl_add_15 : decode k_Pl_add.code 15 = .ok (.iload_n 1, 1) := by decide +kernel
theorem d_Pl_add_16 : decode k_Pl_add.code 16 = .ok (.ireturn, 1) := by decide +kernel
theorem d_Pl_has_0 : decode k_Pl_has.code 0 = .ok (.iload_n 1, 1) := by decide +kernel
theorem d_Pl_has_1 : decode k_Pl_has.code 1 = .ok (.ifCond .lt 15, 3) := by decide +kernel
theorem d_Pl_has_4 : decode k_Pl_has.code 4 = .ok (.iload_n 1, 1) := by decide +kernel
theorem d_Pl_has_5 : decode k_Pl_has.code 5 = .ok (.aload_n 0, 1) := by decide +kernel
theorem g_Pl_has_6 : SiteG k_Pl_has 6 4 3 := ⟨22, 5, R_Pl, "PhotoModels$Places", F_Pl, by decide +kernel, tx1 90 rfl rfl, i_Pl, rfl, rfl, by decide⟩
theorem d_Pl_has_9 : decode k_Pl_has.code 9 = .ok (.if_icmp .ge 7, 3) := by decide +kernel
theorem d_Pl_has_12 : decode k_Pl_has.code 12 = .ok (.iconst 1, 1) := by decide +kernel
theorem d_Pl_has_13 : decode k_Pl_has.code 13 = .ok (.goto 4, 3) := by decide +kernel
theorem d_Pl_has_16 : decode k_Pl_has.code 16 = .ok (.iconst 0, 1) := by decide +kernel
theorem d_Pl_has_17 : decode k_Pl_has.code 17 = .ok (.ireturn, 1) := by decide +kernel
theorem d_Pl_forget_0 : decode k_Pl_forget.code 0 = .ok (.aload_n 0, 1) := by decide +kernel
theorem d_Pl_forget_1 : decode k_Pl_forget.code 1 = .ok (.iload_n 1, 1) := by decide +kernel
theorem d_Pl_forget_2 : decode k_Pl_forget.code 2 = .ok (.iload_n 2, 1) := by decide +kernel
theorem s_Pl_forget_3 : SiteV k_Pl_forget k_Pl_isNoted 3 4 2 := ⟨29, (R_Pl, F_Pl, 5), by decide +kernel, ⟨kw_Pl_isNoted, tx1 5 rfl rfl, by decide, by decide⟩, tx3 1 rfl rfl, tx2 11 rfl rfl, tx2 12 rfl rfl, rfl, ⟨by decide +kernel, by decide +kernel⟩, np_Pl_isNoted⟩
theorem d_Pl_forget_6 : decode k_Pl_forget.code 6 = .ok (.istore_n 3, 1) := by decide +kernel
theorem d_Pl_forget_7 : decode k_Pl_forget.code 7 = .ok (.aload_n 0, 1) := by decide +kernel
theorem g_Pl_forget_8 : SiteG k_Pl_forget 8 4 1 := ⟨15, 5, R_Pl, "PhotoModels$Places", F_Pl, by decide +kernel, tx1 88 rfl rfl, i_Pl, rfl, rfl, by decide⟩
theorem d_Pl_forget_11 : decode k_Pl_forget.code 11 = .ok (.iload_n 1, 1) := by decide +kernel
theorem d_Pl_forget_12 : decode k_Pl_forget.code 12 = .ok (.iconst 4, 1) := by decide +kernel
theorem d_Pl_forget_13 : decode k_Pl_forget.code 13 = .ok (.imul, 1) := by decide +kernel
theorem d_Pl_forget_14 : decode k_Pl_forget.code 14 = .ok (.iload_n 2, 1) := by decide +kernel
theorem d_Pl_forget_15 : decode k_Pl_forget.code 15 = .ok (.iadd, 1) := by decide +kernel
theorem d_Pl_forget_16 : decode k_Pl_forget.code 16 = .ok (.iconst 0, 1) := by decide +kernel
theorem d_Pl_forget_17 : decode k_Pl_forget.code 17 = .ok (.bastore, 1) := by decide +kernel
theorem d_Pl_forget_18 : decode k_Pl_forget.code 18 = .ok (.iload_n 3, 1) := by decide +kernel
theorem d_Pl_forget_19 : decode k_Pl_forget.code 19 = .ok (.ireturn, 1) := by decide +kernel
theorem d_Pl_note_0 : decode k_Pl_note.code 0 = .ok (.iload_n 1, 1) := by decide +kernel
theorem d_Pl_note_1 : decode k_Pl_note.code 1 = .ok (.iconst 4, 1) := by decide +kernel
theorem d_Pl_note_2 : decode k_Pl_note.code 2 = .ok (.imul, 1) := by decide +kernel
theorem d_Pl_note_3 : decode k_Pl_note.code 3 = .ok (.iload_n 2, 1) := by decide +kernel
theorem d_Pl_note_4 : decode k_Pl_note.code 4 = .ok (.iadd, 1) := by decide +kernel
theorem d_Pl_note_5 : decode k_Pl_note.code 5 = .ok (.istore 5, 2) := by decide +kernel
theorem d_Pl_note_7 : decode k_Pl_note.code 7 = .ok (.aload_n 0, 1) := by decide +kernel
theorem g_Pl_note_8 : SiteG k_Pl_note 8 4 1 := ⟨15, 5, R_Pl, "PhotoModels$Places", F_Pl, by decide +kernel, tx1 88 rfl rfl, i_Pl, rfl, rfl, by decide⟩
theorem d_Pl_note_11 : decode k_Pl_note.code 11 = .ok (.iload 5, 2) := by decide +kernel
theorem d_Pl_note_13 : decode k_Pl_note.code 13 = .ok (.baload, 1) := by decide +kernel
theorem d_Pl_note_14 : decode k_Pl_note.code 14 = .ok (.istore 6, 2) := by decide +kernel
theorem d_Pl_note_16 : decode k_Pl_note.code 16 = .ok (.aload_n 0, 1) := by decide +kernel
theorem g_Pl_note_17 : SiteG k_Pl_note 17 4 1 := ⟨15, 5, R_Pl, "PhotoModels$Places", F_Pl, by decide +kernel, tx1 88 rfl rfl, i_Pl, rfl, rfl, by decide⟩
theorem d_Pl_note_20 : decode k_Pl_note.code 20 = .ok (.iload 5, 2) := by decide +kernel
theorem d_Pl_note_22 : decode k_Pl_note.code 22 = .ok (.iconst 1, 1) := by decide +kernel
theorem d_Pl_note_23 : decode k_Pl_note.code 23 = .ok (.bastore, 1) := by decide +kernel
theorem d_Pl_note_24 : decode k_Pl_note.code 24 = .ok (.aload_n 0, 1) := by decide +kernel
theorem g_Pl_note_25 : SiteG k_Pl_note 25 4 2 := ⟨18, 5, R_Pl, "PhotoModels$Places", F_Pl, by decide +kernel, tx1 89 rfl rfl, i_Pl, rfl, rfl, by decide⟩
theorem d_Pl_note_28 : decode k_Pl_note.code 28 = .ok (.iload 5, 2) := by decide +kernel
theorem d_Pl_note_30 : decode k_Pl_note.code 30 = .ok (.iconst 2, 1) := by decide +kernel
theorem d_Pl_note_31 : decode k_Pl_note.code 31 = .ok (.imul, 1) := by decide +kernel
theorem d_Pl_note_32 : decode k_Pl_note.code 32 = .ok (.iload_n 3, 1) := by decide +kernel
theorem d_Pl_note_33 : decode k_Pl_note.code 33 = .ok (.iastore, 1) := by decide +kernel
theorem d_Pl_note_34 : decode k_Pl_note.code 34 = .ok (.aload_n 0, 1) := by decide +kernel
theorem g_Pl_note_35 : SiteG k_Pl_note 35 4 2 := ⟨18, 5, R_Pl, "PhotoModels$Places", F_Pl, by decide +kernel, tx1 89 rfl rfl, i_Pl, rfl, rfl, by decide⟩
theorem d_Pl_note_38 : decode k_Pl_note.code 38 = .ok (.iload 5, 2) := by decide +kernel
theorem d_Pl_note_40 : decode k_Pl_note.code 40 = .ok (.iconst 2, 1) := by decide +kernel
theorem d_Pl_note_41 : decode k_Pl_note.code 41 = .ok (.imul, 1) := by decide +kernel
theorem d_Pl_note_42 : decode k_Pl_note.code 42 = .ok (.iconst 1, 1) := by decide +kernel
theorem d_Pl_note_43 : decode k_Pl_note.code 43 = .ok (.iadd, 1) := by decide +kernel
theorem d_Pl_note_44 : decode k_Pl_note.code 44 = .ok (.iload 4, 2) := by decide +kernel
theorem d_Pl_note_46 : decode k_Pl_note.code 46 = .ok (.iastore, 1) := by decide +kernel
theorem d_Pl_note_47 : decode k_Pl_note.code 47 = .ok (.iload 6, 2) := by decide +kernel
theorem d_Pl_note_49 : decode k_Pl_note.code 49 = .ok (.ireturn, 1) := by decide +kernel
theorem d_Pl_setAside_0 : decode k_Pl_setAside.code 0 = .ok (.aload_n 0, 1) := by decide +kernel
theorem g_Pl_setAside_1 : SiteG k_Pl_setAside 1 4 0 := ⟨9, 5, R_Pl, "PhotoModels$Places", F_Pl, by decide +kernel, tx1 87 rfl rfl, i_Pl, rfl, rfl, by decide⟩
theorem d_Pl_setAside_4 : decode k_Pl_setAside.code 4 = .ok (.iload_n 1, 1) := by decide +kernel
theorem d_Pl_setAside_5 : decode k_Pl_setAside.code 5 = .ok (.baload, 1) := by decide +kernel
theorem d_Pl_setAside_6 : decode k_Pl_setAside.code 6 = .ok (.iload_n 2, 1) := by decide +kernel
theorem d_Pl_setAside_7 : decode k_Pl_setAside.code 7 = .ok (.if_icmp .ne 5, 3) := by decide +kernel
theorem d_Pl_setAside_10 : decode k_Pl_setAside.code 10 = .ok (.iconst 0, 1) := by decide +kernel
theorem d_Pl_setAside_11 : decode k_Pl_setAside.code 11 = .ok (.ireturn, 1) := by decide +kernel
theorem d_Pl_setAside_12 : decode k_Pl_setAside.code 12 = .ok (.aload_n 0, 1) := by decide +kernel
theorem g_Pl_setAside_13 : SiteG k_Pl_setAside 13 4 0 := ⟨9, 5, R_Pl, "PhotoModels$Places", F_Pl, by decide +kernel, tx1 87 rfl rfl, i_Pl, rfl, rfl, by decide⟩
theorem d_Pl_setAside_16 : decode k_Pl_setAside.code 16 = .ok (.iload_n 1, 1) := by decide +kernel
theorem d_Pl_setAside_17 : decode k_Pl_setAside.code 17 = .ok (.iload_n 2, 1) := by decide +kernel
theorem d_Pl_setAside_18 : decode k_Pl_setAside.code 18 = .ok (.bastore, 1) := by decide +kernel
theorem d_Pl_setAside_19 : decode k_Pl_setAside.code 19 = .ok (.aload_n 0, 1) := by decide +kernel
theorem d_Pl_setAside_20 : decode k_Pl_setAside.code 20 = .ok (.dup, 1) := by decide +kernel
theorem g_Pl_setAside_21 : SiteG k_Pl_setAside 21 4 4 := ⟨26, 5, R_Pl, "PhotoModels$Places", F_Pl, by decide +kernel, tx1 91 rfl rfl, i_Pl, rfl, rfl, by decide⟩
theorem d_Pl_setAside_24 : decode k_Pl_setAside.code 24 = .ok (.iload_n 2, 1) := by decide +kernel
theorem d_Pl_setAside_25 : decode k_Pl_setAside.code 25 = .ok (.ifCond .eq 7, 3) := by decide +kernel
theorem d_Pl_setAside_28 : decode k_Pl_setAside.code 28 = .ok (.iconst 1, 1) := by decide +kernel
theorem d_Pl_setAside_29 : decode k_Pl_setAside.code 29 = .ok (.goto 4, 3) := by decide +kernel
theorem d_Pl_setAside_32 : decode k_Pl_setAside.code 32 = .ok (.iconst (-1), 1) := by decide +kernel
theorem d_Pl_setAside_33 : decode k_Pl_setAside.code 33 = .ok (.iadd, 1) := by decide +kernel
theorem p_Pl_setAside_34 : SiteP k_Pl_setAside 34 4 4 .int := ⟨26, 5, R_Pl, "PhotoModels$Places", F_Pl, t_Pl, t_Pl_ok, n_Pl, by decide +kernel, tx1 91 rfl rfl, i_Pl, rfl, Or.inl rfl, rfl, by decide, rfl⟩
theorem d_Pl_setAside_37 : decode k_Pl_setAside.code 37 = .ok (.iconst 1, 1) := by decide +kernel
theorem d_Pl_setAside_38 : decode k_Pl_setAside.code 38 = .ok (.ireturn, 1) := by decide +kernel
theorem d_Arr_fill_0 : decode k_Arr_fill.code 0 = .ok (.iconst 0, 1) := by decide +kernel
theorem d_Arr_fill_1 : decode k_Arr_fill.code 1 = .ok (.istore_n 2, 1) := by decide +kernel
theorem d_Arr_fill_2 : decode k_Arr_fill.code 2 = .ok (.aload_n 0, 1) := by decide +kernel
theorem d_Arr_fill_3 : decode k_Arr_fill.code 3 = .ok (.arraylength, 1) := by decide +kernel
theorem d_Arr_fill_4 : decode k_Arr_fill.code 4 = .ok (.istore_n 3, 1) := by decide +kernel
theorem d_Arr_fill_5 : decode k_Arr_fill.code 5 = .ok (.iload_n 2, 1) := by decide +kernel
theorem d_Arr_fill_6 : decode k_Arr_fill.code 6 = .ok (.iload_n 3, 1) := by decide +kernel
theorem d_Arr_fill_7 : decode k_Arr_fill.code 7 = .ok (.if_icmp .ge 13, 3) := by decide +kernel
theorem d_Arr_fill_10 : decode k_Arr_fill.code 10 = .ok (.aload_n 0, 1) := by decide +kernel
theorem d_Arr_fill_11 : decode k_Arr_fill.code 11 = .ok (.iload_n 2, 1) := by decide +kernel
theorem d_Arr_fill_12 : decode k_Arr_fill.code 12 = .ok (.iload_n 1, 1) := by decide +kernel
theorem d_Arr_fill_13 : decode k_Arr_fill.code 13 = .ok (.iastore, 1) := by decide +kernel
theorem d_Arr_fill_14 : decode k_Arr_fill.code 14 = .ok (.iinc 2 1, 3) := by decide +kernel
theorem d_Arr_fill_17 : decode k_Arr_fill.code 17 = .ok (.goto (-12), 3) := by decide +kernel
theorem d_Arr_fill_20 : decode k_Arr_fill.code 20 = .ok (.return_, 1) := by decide +kernel
theorem d_Math_floorDiv_0 : decode k_Math_floorDiv.code 0 = .ok (.lload_n 0, 1) := by decide +kernel
theorem d_Math_floorDiv_1 : decode k_Math_floorDiv.code 1 = .ok (.lload_n 2, 1) := by decide +kernel
theorem d_Math_floorDiv_2 : decode k_Math_floorDiv.code 2 = .ok (.ldiv, 1) := by decide +kernel
theorem d_Math_floorDiv_3 : decode k_Math_floorDiv.code 3 = .ok (.lstore 4, 2) := by decide +kernel
theorem d_Math_floorDiv_5 : decode k_Math_floorDiv.code 5 = .ok (.lload_n 0, 1) := by decide +kernel
theorem d_Math_floorDiv_6 : decode k_Math_floorDiv.code 6 = .ok (.lload_n 2, 1) := by decide +kernel
theorem d_Math_floorDiv_7 : decode k_Math_floorDiv.code 7 = .ok (.lxor, 1) := by decide +kernel
theorem d_Math_floorDiv_8 : decode k_Math_floorDiv.code 8 = .ok (.lconst 0, 1) := by decide +kernel
theorem d_Math_floorDiv_9 : decode k_Math_floorDiv.code 9 = .ok (.lcmp, 1) := by decide +kernel
theorem d_Math_floorDiv_10 : decode k_Math_floorDiv.code 10 = .ok (.ifCond .ge 17, 3) := by decide +kernel
theorem d_Math_floorDiv_13 : decode k_Math_floorDiv.code 13 = .ok (.lload 4, 2) := by decide +kernel
theorem d_Math_floorDiv_15 : decode k_Math_floorDiv.code 15 = .ok (.lload_n 2, 1) := by decide +kernel
theorem d_Math_floorDiv_16 : decode k_Math_floorDiv.code 16 = .ok (.lmul, 1) := by decide +kernel
theorem d_Math_floorDiv_17 : decode k_Math_floorDiv.code 17 = .ok (.lload_n 0, 1) := by decide +kernel
theorem d_Math_floorDiv_18 : decode k_Math_floorDiv.code 18 = .ok (.lcmp, 1) := by decide +kernel
theorem d_Math_floorDiv_19 : decode k_Math_floorDiv.code 19 = .ok (.ifCond .eq 8, 3) := by decide +kernel
theorem d_Math_floorDiv_22 : decode k_Math_floorDiv.code 22 = .ok (.lload 4, 2) := by decide +kernel
theorem d_Math_floorDiv_24 : decode k_Math_floorDiv.code 24 = .ok (.lconst 1, 1) := by decide +kernel
theorem d_Math_floorDiv_25 : decode k_Math_floorDiv.code 25 = .ok (.lsub, 1) := by decide +kernel
theorem d_Math_floorDiv_26 : decode k_Math_floorDiv.code 26 = .ok (.lreturn, 1) := by decide +kernel
theorem d_Math_floorDiv_27 : decode k_Math_floorDiv.code 27 = .ok (.lload 4, 2) := by decide +kernel
theorem d_Math_floorDiv_29 : decode k_Math_floorDiv.code 29 = .ok (.lreturn, 1) := by decide +kernel
theorem d_Le_number_0 : decode k_Le_number.code 0 = .ok (.aload_n 0, 1) := by decide +kernel
theorem g_Le_number_1 : SiteG k_Le_number 1 2 3 := ⟨21, 4, R_Le, "PhotoModels$Lengths", F_Le, by decide +kernel, tx1 161 rfl rfl, i_Le, rfl, rfl, by decide⟩
theorem d_Le_number_4 : decode k_Le_number.code 4 = .ok (.ireturn, 1) := by decide +kernel
theorem d_Le_add_0 : decode k_Le_add.code 0 = .ok (.aload_n 0, 1) := by decide +kernel
theorem g_Le_add_1 : SiteG k_Le_add 1 2 0 := ⟨9, 4, R_Le, "PhotoModels$Lengths", F_Le, by decide +kernel, tx1 158 rfl rfl, i_Le, rfl, rfl, by decide⟩
theorem d_Le_add_4 : decode k_Le_add.code 4 = .ok (.aload_n 0, 1) := by decide +kernel
theorem g_Le_add_5 : SiteG k_Le_add 5 2 3 := ⟨21, 4, R_Le, "PhotoModels$Lengths", F_Le, by decide +kernel, tx1 161 rfl rfl, i_Le, rfl, rfl, by decide⟩
theorem d_Le_add_8 : decode k_Le_add.code 8 = .ok (.iload_n 1, 1) := by decide +kernel
theorem d_Le_add_9 : decode k_Le_add.code 9 = .ok (.iastore, 1) := by decide +kernel
theorem d_Le_add_10 : decode k_Le_add.code 10 = .ok (.aload_n 0, 1) := by decide +kernel
theorem g_Le_add_11 : SiteG k_Le_add 11 2 1 := ⟨15, 4, R_Le, "PhotoModels$Lengths", F_Le, by decide +kernel, tx1 159 rfl rfl, i_Le, rfl, rfl, by decide⟩
theorem d_Le_add_14 : decode k_Le_add.code 14 = .ok (.aload_n 0, 1) := by decide +kernel
theorem g_Le_add_15 : SiteG k_Le_add 15 2 3 := ⟨21, 4, R_Le, "PhotoModels$Lengths", F_Le, by decide +kernel, tx1 161 rfl rfl, i_Le, rfl, rfl, by decide⟩
theorem d_Le_add_18 : decode k_Le_add.code 18 = .ok (.iload_n 2, 1) := by decide +kernel
theorem d_Le_add_19 : decode k_Le_add.code 19 = .ok (.iastore, 1) := by decide +kernel
theorem d_Le_add_20 : decode k_Le_add.code 20 = .ok (.aload_n 0, 1) := by decide +kernel
theorem g_Le_add_21 : SiteG k_Le_add 21 2 2 := ⟨18, 4, R_Le, "PhotoModels$Lengths", F_Le, by decide +kernel, tx1 160 rfl rfl, i_Le, rfl, rfl, by decide⟩
theorem d_Le_add_24 : decode k_Le_add.code 24 = .ok (.aload_n 0, 1) := by decide +kernel
theorem g_Le_add_25 : SiteG k_Le_add 25 2 3 := ⟨21, 4, R_Le, "PhotoModels$Lengths", F_Le, by decide +kernel, tx1 161 rfl rfl, i_Le, rfl, rfl, by decide⟩
theorem d_Le_add_28 : decode k_Le_add.code 28 = .ok (.iload_n 3, 1) := by decide +kernel
theorem d_Le_add_29 : decode k_Le_add.code 29 = .ok (.iastore, 1) := by decide +kernel
theorem d_Le_add_30 : decode k_Le_add.code 30 = .ok (.aload_n 0, 1) := by decide +kernel
theorem d_Le_add_31 : decode k_Le_add.code 31 = .ok (.dup, 1) := by decide +kernel
theorem g_Le_add_32 : SiteG k_Le_add 32 2 3 := ⟨21, 4, R_Le, "PhotoModels$Lengths", F_Le, by decide +kernel, tx1 161 rfl rfl, i_Le, rfl, rfl, by decide⟩
theorem d_Le_add_35 : decode k_Le_add.code 35 = .ok (.iconst 1, 1) := by decide +kernel
theorem d_Le_add_36 : decode k_Le_add.code 36 = .ok (.iadd, 1) := by decide +kernel
theorem p_Le_add_37 : SiteP k_Le_add 37 2 3 .int := ⟨21, 4, R_Le, "PhotoModels$Lengths", F_Le, t_Le, t_Le_ok, n_Le, by decide +kernel, tx1 161 rfl rfl, i_Le, rfl, Or.inl rfl, rfl, by decide, rfl⟩
theorem d_Le_add_40 : decode k_Le_add.code 40 = .ok (.aload_n 0, 1) := by decide +kernel
theorem g_Le_add_41 : SiteG k_Le_add 41 2 3 := ⟨21, 4, R_Le, "PhotoModels$Lengths", F_Le, by decide +kernel, tx1 161 rfl rfl, i_Le, rfl, rfl, by decide⟩
theorem d_Le_add_44 : decode k_Le_add.code 44 = .ok (.ireturn, 1) := by decide +kernel
theorem d_Le_fraction_0 : decode k_Le_fraction.code 0 = .ok (.lconst 0, 1) := by decide +kernel
theorem d_Le_fraction_1 : decode k_Le_fraction.code 1 = .ok (.lstore_n 3, 1) := by decide +kernel
theorem d_Le_fraction_2 : decode k_Le_fraction.code 2 = .ok (.lconst 0, 1) := by decide +kernel
theorem d_Le_fraction_3 : decode k_Le_fraction.code 3 = .ok (.lstore 5, 2) := by decide +kernel
theorem d_Le_fraction_5 : decode k_Le_fraction.code 5 = .ok (.iconst 0, 1) := by decide +kernel
theorem d_Le_fraction_6 : decode k_Le_fraction.code 6 = .ok (.istore 7, 2) := by decide +kernel
theorem d_Le_fraction_8 : decode k_Le_fraction.code 8 = .ok (.iload 7, 2) := by decide +kernel
theorem d_Le_fraction_10 : decode k_Le_fraction.code 10 = .ok (.aload_n 0, 1) := by decide +kernel
theorem g_Le_fraction_11 : SiteG k_Le_fraction 11 2 3 := ⟨21, 4, R_Le, "PhotoModels$Lengths", F_Le, by decide +kernel, tx1 161 rfl rfl, i_Le, rfl, rfl, by decide⟩
theorem d_Le_fraction_14 : decode k_Le_fraction.code 14 = .ok (.if_icmp .ge 53, 3) := by decide +kernel
theorem d_Le_fraction_17 : decode k_Le_fraction.code 17 = .ok (.aload_n 1, 1) := by decide +kernel
theorem d_Le_fraction_18 : decode k_Le_fraction.code 18 = .ok (.aload_n 0, 1) := by decide +kernel
theorem g_Le_fraction_19 : SiteG k_Le_fraction 19 2 0 := ⟨9, 4, R_Le, "PhotoModels$Lengths", F_Le, by decide +kernel, tx1 158 rfl rfl, i_Le, rfl, rfl, by decide⟩
theorem d_Le_fraction_22 : decode k_Le_fraction.code 22 = .ok (.iload 7, 2) := by decide +kernel
theorem d_Le_fraction_24 : decode k_Le_fraction.code 24 = .ok (.iaload, 1) := by decide +kernel
theorem d_Le_fraction_25 : decode k_Le_fraction.code 25 = .ok (.aload_n 0, 1) := by decide +kernel
theorem g_Le_fraction_26 : SiteG k_Le_fraction 26 2 1 := ⟨15, 4, R_Le, "PhotoModels$Lengths", F_Le, by decide +kernel, tx1 159 rfl rfl, i_Le, rfl, rfl, by decide⟩
theorem d_Le_fraction_29 : decode k_Le_fraction.code 29 = .ok (.iload 7, 2) := by decide +kernel
theorem d_Le_fraction_31 : decode k_Le_fraction.code 31 = .ok (.iaload, 1) := by decide +kernel
theorem s_Le_fraction_32 : SiteS k_Le_fraction k_Le_distance 32 3 := ⟨25, by decide +kernel, ⟨kw_Le_distance, tx1 8 rfl rfl, by decide, by decide⟩, Or.inl (tx3 165 rfl rfl), tx3 166 rfl rfl, ⟨by decide +kernel, by decide +kernel⟩, np_Le_distance⟩
theorem d_Le_fraction_35 : decode k_Le_fraction.code 35 = .ok (.lstore 8, 2) := by decide +kernel
theorem d_Le_fraction_37 : decode k_Le_fraction.code 37 = .ok (.lload_n 3, 1) := by decide +kernel
theorem d_Le_fraction_38 : decode k_Le_fraction.code 38 = .ok (.aload_n 0, 1) := by decide +kernel
theorem g_Le_fraction_39 : SiteG k_Le_fraction 39 2 2 := ⟨18, 4, R_Le, "PhotoModels$Lengths", F_Le, by decide +kernel, tx1 160 rfl rfl, i_Le, rfl, rfl, by decide⟩
theorem d_Le_fraction_42 : decode k_Le_fraction.code 42 = .ok (.iload 7, 2) := by decide +kernel
theorem d_Le_fraction_44 : decode k_Le_fraction.code 44 = .ok (.iaload, 1) := by decide +kernel
theorem d_Le_fraction_45 : decode k_Le_fraction.code 45 = .ok (.i2l, 1) := by decide +kernel
theorem d_Le_fraction_46 : decode k_Le_fraction.code 46 = .ok (.lload 8, 2) := by decide +kernel
theorem d_Le_fraction_48 : decode k_Le_fraction.code 48 = .ok (.lmul, 1) := by decide +kernel
theorem d_Le_fraction_49 : decode k_Le_fraction.code 49 = .ok (.ladd, 1) := by decide +kernel
theorem d_Le_fraction_50 : decode k_Le_fraction.code 50 = .ok (.lstore_n 3, 1) := by decide +kernel
theorem d_Le_fraction_51 : decode k_Le_fraction.code 51 = .ok (.lload 5, 2) := by decide +kernel
theorem d_Le_fraction_53 : decode k_Le_fraction.code 53 = .ok (.lload 8, 2) := by decide +kernel
theorem d_Le_fraction_55 : decode k_Le_fraction.code 55 = .ok (.lload 8, 2) := by decide +kernel
theorem d_Le_fraction_57 : decode k_Le_fraction.code 57 = .ok (.lmul, 1) := by decide +kernel
theorem d_Le_fraction_58 : decode k_Le_fraction.code 58 = .ok (.ladd, 1) := by decide +kernel
theorem d_Le_fraction_59 : decode k_Le_fraction.code 59 = .ok (.lstore 5, 2) := by decide +kernel
theorem d_Le_fraction_61 : decode k_Le_fraction.code 61 = .ok (.iinc 7 1, 3) := by decide +kernel
theorem d_Le_fraction_64 : decode k_Le_fraction.code 64 = .ok (.goto (-56), 3) := by decide +kernel
theorem d_Le_fraction_67 : decode k_Le_fraction.code 67 = .ok (.lload_n 3, 1) := by decide +kernel
theorem d_Le_fraction_68 : decode k_Le_fraction.code 68 = .ok (.lload 5, 2) := by decide +kernel
theorem s_Le_fraction_70 : SiteS k_Le_fraction k_Le_commonDivisor 70 2 := ⟨29, by decide +kernel, ⟨kw_Le_commonDivisor, tx1 8 rfl rfl, by decide, by decide⟩, Or.inl (tx3 172 rfl rfl), tx3 173 rfl rfl, ⟨by decide +kernel, by decide +kernel⟩, np_Le_commonDivisor⟩
theorem d_Le_fraction_73 : decode k_Le_fraction.code 73 = .ok (.lstore 7, 2) := by decide +kernel
theorem d_Le_fraction_75 : decode k_Le_fraction.code 75 = .ok (.lload 7, 2) := by decide +kernel
theorem d_Le_fraction_77 : decode k_Le_fraction.code 77 = .ok (.lconst 0, 1) := by decide +kernel
theorem d_Le_fraction_78 : decode k_Le_fraction.code 78 = .ok (.lcmp, 1) := by decide +kernel
theorem d_Le_fraction_79 : decode k_Le_fraction.code 79 = .ok (.ifCond .ne 13, 3) := by decide +kernel
theorem d_Le_fraction_82 : decode k_Le_fraction.code 82 = .ok (.iload_n 2, 1) := by decide +kernel
theorem d_Le_fraction_83 : decode k_Le_fraction.code 83 = .ok (.ifCond .ne 7, 3) := by decide +kernel
theorem d_Le_fraction_86 : decode k_Le_fraction.code 86 = .ok (.lconst 0, 1) := by decide +kernel
theorem d_Le_fraction_87 : decode k_Le_fraction.code 87 = .ok (.goto 4, 3) := by decide +kernel
theorem d_Le_fraction_90 : decode k_Le_fraction.code 90 = .ok (.lconst 1, 1) := by decide +kernel
theorem d_Le_fraction_91 : decode k_Le_fraction.code 91 = .ok (.lreturn, 1) := by decide +kernel
theorem d_Le_fraction_92 : decode k_Le_fraction.code 92 = .ok (.iload_n 2, 1) := by decide +kernel
theorem d_Le_fraction_93 : decode k_Le_fraction.code 93 = .ok (.ifCond .ne 7, 3) := by decide +kernel
theorem d_Le_fraction_96 : decode k_Le_fraction.code 96 = .ok (.lload_n 3, 1) := by decide +kernel
theorem d_Le_fraction_97 : decode k_Le_fraction.code 97 = .ok (.goto 5, 3) := by decide +kernel
theorem d_Le_fraction_100 : decode k_Le_fraction.code 100 = .ok (.lload 5, 2) := by decide +kernel
theorem d_Le_fraction_102 : decode k_Le_fraction.code 102 = .ok (.lload 7, 2) := by decide +kernel
theorem d_Le_fraction_104 : decode k_Le_fraction.code 104 = .ok (.ldiv, 1) := by decide +kernel
theorem d_Le_fraction_105 : decode k_Le_fraction.code 105 = .ok (.lreturn, 1) := by decide +kernel
theorem d_Le_distance_0 : decode k_Le_distance.code 0 = .ok (.aload_n 0, 1) := by decide +kernel
theorem d_Le_distance_1 : decode k_Le_distance.code 1 = .ok (.iload_n 1, 1) := by decide +kernel
theorem d_Le_distance_2 : decode k_Le_distance.code 2 = .ok (.iconst 0, 1) := by decide +kernel
theorem s_Le_distance_3 : SiteV k_Le_distance k_Ad_position 3 0 2 := ⟨33, (R_Ad, F_Ad, 4), by decide +kernel, ⟨kw_Ad_position, tx1 7 rfl rfl, by decide, by decide⟩, tx3 168 rfl rfl, tx2 20 rfl rfl, tx2 21 rfl rfl, rfl, ⟨by decide +kernel, by decide +kernel⟩, np_Ad_position⟩
theorem d_Le_distance_6 : decode k_Le_distance.code 6 = .ok (.i2l, 1) := by decide +kernel
theorem d_Le_distance_7 : decode k_Le_distance.code 7 = .ok (.aload_n 0, 1) := by decide +kernel
theorem d_Le_distance_8 : decode k_Le_distance.code 8 = .ok (.iload_n 2, 1) := by decide +kernel
theorem d_Le_distance_9 : decode k_Le_distance.code 9 = .ok (.iconst 0, 1) := by decide +kernel
theorem s_Le_distance_10 : SiteV k_Le_distance k_Ad_position 10 0 2 := ⟨33, (R_Ad, F_Ad, 4), by decide +kernel, ⟨kw_Ad_position, tx1 7 rfl rfl, by decide, by decide⟩, tx3 168 rfl rfl, tx2 20 rfl rfl, tx2 21 rfl rfl, rfl, ⟨by decide +kernel, by decide +kernel⟩, np_Ad_position⟩
theorem d_Le_distance_13 : decode k_Le_distance.code 13 = .ok (.i2l, 1) := by decide +kernel
theorem d_Le_distance_14 : decode k_Le_distance.code 14 = .ok (.lsub, 1) := by decide +kernel
theorem d_Le_distance_15 : decode k_Le_distance.code 15 = .ok (.lstore_n 3, 1) := by decide +kernel
theorem d_Le_distance_16 : decode k_Le_distance.code 16 = .ok (.aload_n 0, 1) := by decide +kernel
theorem d_Le_distance_17 : decode k_Le_distance.code 17 = .ok (.iload_n 1, 1) := by decide +kernel
theorem d_Le_distance_18 : decode k_Le_distance.code 18 = .ok (.iconst 1, 1) := by decide +kernel
theorem s_Le_distance_19 : SiteV k_Le_distance k_Ad_position 19 0 2 := ⟨33, (R_Ad, F_Ad, 4), by decide +kernel, ⟨kw_Ad_position, tx1 7 rfl rfl, by decide, by decide⟩, tx3 168 rfl rfl, tx2 20 rfl rfl, tx2 21 rfl rfl, rfl, ⟨by decide +kernel, by decide +kernel⟩, np_Ad_position⟩
theorem d_Le_distance_22 : decode k_Le_distance.code 22 = .ok (.i2l, 1) := by decide +kernel
theorem d_Le_distance_23 : decode k_Le_distance.code 23 = .ok (.aload_n 0, 1) := by decide +kernel
theorem d_Le_distance_24 : decode k_Le_distance.code 24 = .ok (.iload_n 2, 1) := by decide +kernel
theorem d_Le_distance_25 : decode k_Le_distance.code 25 = .ok (.iconst 1, 1) := by decide +kernel
theorem s_Le_distance_26 : SiteV k_Le_distance k_Ad_position 26 0 2 := ⟨33, (R_Ad, F_Ad, 4), by decide +kernel, ⟨kw_Ad_position, tx1 7 rfl rfl, by decide, by decide⟩, tx3 168 rfl rfl, tx2 20 rfl rfl, tx2 21 rfl rfl, rfl, ⟨by decide +kernel, by decide +kernel⟩, np_Ad_position⟩
theorem d_Le_distance_29 : decode k_Le_distance.code 29 = .ok (.i2l, 1) := by decide +kernel
theorem d_Le_distance_30 : decode k_Le_distance.code 30 = .ok (.lsub, 1) := by decide +kernel
theorem d_Le_distance_31 : decode k_Le_distance.code 31 = .ok (.lstore 5, 2) := by decide +kernel
theorem d_Le_distance_33 : decode k_Le_distance.code 33 = .ok (.lload_n 3, 1) := by decide +kernel
theorem d_Le_distance_34 : decode k_Le_distance.code 34 = .ok (.lload_n 3, 1) := by decide +kernel
theorem d_Le_distance_35 : decode k_Le_distance.code 35 = .ok (.lmul, 1) := by decide +kernel
theorem d_Le_distance_36 : decode k_Le_distance.code 36 = .ok (.lload 5, 2) := by decide +kernel
theorem d_Le_distance_38 : decode k_Le_distance.code 38 = .ok (.lload 5, 2) := by decide +kernel
theorem d_Le_distance_40 : decode k_Le_distance.code 40 = .ok (.lmul, 1) := by decide +kernel
theorem d_Le_distance_41 : decode k_Le_distance.code 41 = .ok (.ladd, 1) := by decide +kernel
theorem s_Le_distance_42 : SiteS k_Le_distance k_Le_rootDown 42 1 := ⟨39, by decide +kernel, ⟨kw_Le_rootDown, tx1 8 rfl rfl, by decide, by decide⟩, Or.inl (tx3 169 rfl rfl), tx3 170 rfl rfl, ⟨by decide +kernel, by decide +kernel⟩, np_Le_rootDown⟩
theorem d_Le_distance_45 : decode k_Le_distance.code 45 = .ok (.lreturn, 1) := by decide +kernel
theorem d_Le_rootDown_0 : decode k_Le_rootDown.code 0 = .ok (.lconst 0, 1) := by decide +kernel
theorem d_Le_rootDown_1 : decode k_Le_rootDown.code 1 = .ok (.lstore_n 2, 1) := by decide +kernel
theorem d_Le_rootDown_2 : decode k_Le_rootDown.code 2 = .ok (.bipush 30, 2) := by decide +kernel
theorem d_Le_rootDown_4 : decode k_Le_rootDown.code 4 = .ok (.istore 4, 2) := by decide +kernel
theorem d_Le_rootDown_6 : decode k_Le_rootDown.code 6 = .ok (.iload 4, 2) := by decide +kernel
theorem d_Le_rootDown_8 : decode k_Le_rootDown.code 8 = .ok (.ifCond .lt 30, 3) := by decide +kernel
theorem d_Le_rootDown_11 : decode k_Le_rootDown.code 11 = .ok (.lload_n 2, 1) := by decide +kernel
theorem d_Le_rootDown_12 : decode k_Le_rootDown.code 12 = .ok (.lconst 1, 1) := by decide +kernel
theorem d_Le_rootDown_13 : decode k_Le_rootDown.code 13 = .ok (.iload 4, 2) := by decide +kernel
theorem d_Le_rootDown_15 : decode k_Le_rootDown.code 15 = .ok (.lshl, 1) := by decide +kernel
theorem d_Le_rootDown_16 : decode k_Le_rootDown.code 16 = .ok (.ladd, 1) := by decide +kernel
theorem d_Le_rootDown_17 : decode k_Le_rootDown.code 17 = .ok (.lstore 5, 2) := by decide +kernel
theorem d_Le_rootDown_19 : decode k_Le_rootDown.code 19 = .ok (.lload 5, 2) := by decide +kernel
theorem d_Le_rootDown_21 : decode k_Le_rootDown.code 21 = .ok (.lload 5, 2) := by decide +kernel
theorem d_Le_rootDown_23 : decode k_Le_rootDown.code 23 = .ok (.lmul, 1) := by decide +kernel
theorem d_Le_rootDown_24 : decode k_Le_rootDown.code 24 = .ok (.lload_n 0, 1) := by decide +kernel
theorem d_Le_rootDown_25 : decode k_Le_rootDown.code 25 = .ok (.lcmp, 1) := by decide +kernel
theorem d_Le_rootDown_26 : decode k_Le_rootDown.code 26 = .ok (.ifCond .gt 6, 3) := by decide +kernel
theorem d_Le_rootDown_29 : decode k_Le_rootDown.code 29 = .ok (.lload 5, 2) := by decide +kernel
theorem d_Le_rootDown_31 : decode k_Le_rootDown.code 31 = .ok (.lstore_n 2, 1) := by decide +kernel
theorem d_Le_rootDown_32 : decode k_Le_rootDown.code 32 = .ok (.iinc 4 (-1), 3) := by decide +kernel
theorem d_Le_rootDown_35 : decode k_Le_rootDown.code 35 = .ok (.goto (-29), 3) := by decide +kernel
theorem d_Le_rootDown_38 : decode k_Le_rootDown.code 38 = .ok (.lload_n 2, 1) := by decide +kernel
theorem d_Le_rootDown_39 : decode k_Le_rootDown.code 39 = .ok (.lreturn, 1) := by decide +kernel
theorem d_Le_commonDivisor_0 : decode k_Le_commonDivisor.code 0 = .ok (.lload_n 0, 1) := by decide +kernel
theorem d_Le_commonDivisor_1 : decode k_Le_commonDivisor.code 1 = .ok (.lstore 4, 2) := by decide +kernel
theorem d_Le_commonDivisor_3 : decode k_Le_commonDivisor.code 3 = .ok (.lload_n 2, 1) := by decide +kernel
theorem d_Le_commonDivisor_4 : decode k_Le_commonDivisor.code 4 = .ok (.lstore 6, 2) := by decide +kernel
theorem d_Le_commonDivisor_6 : decode k_Le_commonDivisor.code 6 = .ok (.iconst 0, 1) := by decide +kernel
theorem d_Le_commonDivisor_7 : decode k_Le_commonDivisor.code 7 = .ok (.istore 8, 2) := by decide +kernel
theorem d_Le_commonDivisor_9 : decode k_Le_commonDivisor.code 9 = .ok (.iload 8, 2) := by decide +kernel
theorem d_Le_commonDivisor_11 : decode k_Le_commonDivisor.code 11 = .ok (.bipush 100, 2) := by decide +kernel
theorem d_Le_commonDivisor_13 : decode k_Le_commonDivisor.code 13 = .ok (.if_icmp .ge 31, 3) := by decide +kernel
theorem d_Le_commonDivisor_16 : decode k_Le_commonDivisor.code 16 = .ok (.lload 6, 2) := by decide +kernel
theorem d_Le_commonDivisor_18 : decode k_Le_commonDivisor.code 18 = .ok (.lconst 0, 1) := by decide +kernel
theorem d_Le_commonDivisor_19 : decode k_Le_commonDivisor.code 19 = .ok (.lcmp, 1) := by decide +kernel
theorem d_Le_commonDivisor_20 : decode k_Le_commonDivisor.code 20 = .ok (.ifCond .eq 24, 3) := by decide +kernel
theorem d_Le_commonDivisor_23 : decode k_Le_commonDivisor.code 23 = .ok (.lload 4, 2) := by decide +kernel
theorem d_Le_commonDivisor_25 : decode k_Le_commonDivisor.code 25 = .ok (.lload 6, 2) := by decide +kernel
theorem d_Le_commonDivisor_27 : decode k_Le_commonDivisor.code 27 = .ok (.lrem, 1) := by decide +kernel
theorem d_Le_commonDivisor_28 : decode k_Le_commonDivisor.code 28 = .ok (.lstore 9, 2) := by decide +kernel
theorem d_Le_commonDivisor_30 : decode k_Le_commonDivisor.code 30 = .ok (.lload 6, 2) := by decide +kernel
theorem d_Le_commonDivisor_32 : decode k_Le_commonDivisor.code 32 = .ok (.lstore 4, 2) := by decide +kernel
theorem d_Le_commonDivisor_34 : decode k_Le_commonDivisor.code 34 = .ok (.lload 9, 2) := by decide +kernel
theorem d_Le_commonDivisor_36 : decode k_Le_commonDivisor.code 36 = .ok (.lstore 6, 2) := by decide +kernel
theorem d_Le_commonDivisor_38 : decode k_Le_commonDivisor.code 38 = .ok (.iinc 8 1, 3) := by decide +kernel
theorem d_Le_commonDivisor_41 : decode k_Le_commonDivisor.code 41 = .ok (.goto (-32), 3) := by decide +kernel
theorem d_Le_commonDivisor_44 : decode k_Le_commonDivisor.code 44 = .ok (.lload 4, 2) := by decide +kernel
theorem d_Le_commonDivisor_46 : decode k_Le_commonDivisor.code 46 = .ok (.lreturn, 1) := by decide +kernel
theorem d_Ph_value_0 : decode k_Ph_value.code 0 = .ok (.aload_n 0, 1) := by decide +kernel
theorem g_Ph_value_1 : SiteG k_Ph_value 1 3 2 := ⟨18, 3, R_Ph, "PhotoModels$Photos", F_Ph, by decide +kernel, tx1 44 rfl rfl, i_Ph, rfl, rfl, by decide⟩
theorem d_Ph_value_4 : decode k_Ph_value.code 4 = .ok (.aload_n 0, 1) := by decide +kernel
theorem d_Ph_value_5 : decode k_Ph_value.code 5 = .ok (.iload_n 1, 1) := by decide +kernel
theorem d_Ph_value_6 : decode k_Ph_value.code 6 = .ok (.iload_n 2, 1) := by decide +kernel
theorem d_Ph_value_7 : decode k_Ph_value.code 7 = .ok (.iload_n 3, 1) := by decide +kernel
theorem s_Ph_value_8 : SiteV k_Ph_value k_Ph_index 8 3 3 := ⟨26, (R_Ph, F_Ph, 3), by decide +kernel, ⟨kw_Ph_index, tx1 3 rfl rfl, by decide, by decide⟩, tx2 144 rfl rfl, tx2 146 rfl rfl, twp 1 rfl rfl, rfl, ⟨by decide +kernel, by decide +kernel⟩, np_Ph_index⟩
theorem d_Ph_value_11 : decode k_Ph_value.code 11 = .ok (.iaload, 1) := by decide +kernel
theorem d_Ph_value_12 : decode k_Ph_value.code 12 = .ok (.ireturn, 1) := by decide +kernel
theorem d_Ph_width_0 : decode k_Ph_width.code 0 = .ok (.aload_n 0, 1) := by decide +kernel
theorem g_Ph_width_1 : SiteG k_Ph_width 1 3 0 := ⟨9, 3, R_Ph, "PhotoModels$Photos", F_Ph, by decide +kernel, tx1 42 rfl rfl, i_Ph, rfl, rfl, by decide⟩
theorem d_Ph_width_4 : decode k_Ph_width.code 4 = .ok (.ireturn, 1) := by decide +kernel
theorem d_Ph_height_0 : decode k_Ph_height.code 0 = .ok (.aload_n 0, 1) := by decide +kernel
theorem g_Ph_height_1 : SiteG k_Ph_height 1 3 1 := ⟨15, 3, R_Ph, "PhotoModels$Photos", F_Ph, by decide +kernel, tx1 43 rfl rfl, i_Ph, rfl, rfl, by decide⟩
theorem d_Ph_height_4 : decode k_Ph_height.code 4 = .ok (.ireturn, 1) := by decide +kernel
theorem d_Pl_spares_0 : decode k_Pl_spares.code 0 = .ok (.aload_n 0, 1) := by decide +kernel
theorem g_Pl_spares_1 : SiteG k_Pl_spares 1 4 4 := ⟨26, 5, R_Pl, "PhotoModels$Places", F_Pl, by decide +kernel, tx1 91 rfl rfl, i_Pl, rfl, rfl, by decide⟩
theorem d_Pl_spares_4 : decode k_Pl_spares.code 4 = .ok (.ireturn, 1) := by decide +kernel
end
section
theorem d_Ag_init_0 : decode k_Ag_init.code 0 = .ok (.aload_n 0, 1) := by decide +kernel
theorem s_Ag_init_1 : SiteO k_Ag_init 1 := ⟨3, by decide +kernel, tx1 110 rfl rfl, tx1 25 rfl rfl, tx1 26 rfl rfl, by decide, by decide⟩
theorem d_Ag_init_4 : decode k_Ag_init.code 4 = .ok (.aload_n 0, 1) := by decide +kernel
theorem d_Ag_init_5 : decode k_Ag_init.code 5 = .ok (.bipush 12, 2) := by decide +kernel
theorem d_Ag_init_7 : decode k_Ag_init.code 7 = .ok (.newarray .int, 2) := by decide +kernel
theorem p_Ag_init_9 : SiteP k_Ag_init 9 1 1 (.array .int) := ⟨9, 7, R_Ag, "PhotoModels$Agreement", F_Ag, t_Ag, t_Ag_ok, n_Ag, by decide +kernel, tx1 112 rfl rfl, i_Ag, rfl, Or.inr ⟨rfl, rfl, rfl⟩, rfl, by decide, rfl⟩
theorem d_Ag_init_12 : decode k_Ag_init.code 12 = .ok (.aload_n 0, 1) := by decide +kernel
theorem d_Ag_init_13 : decode k_Ag_init.code 13 = .ok (.bipush 12, 2) := by decide +kernel
theorem d_Ag_init_15 : decode k_Ag_init.code 15 = .ok (.newarray .int, 2) := by decide +kernel
theorem p_Ag_init_17 : SiteP k_Ag_init 17 1 2 (.array .int) := ⟨15, 7, R_Ag, "PhotoModels$Agreement", F_Ag, t_Ag, t_Ag_ok, n_Ag, by decide +kernel, tx1 113 rfl rfl, i_Ag, rfl, Or.inr ⟨rfl, rfl, rfl⟩, rfl, by decide, rfl⟩
theorem d_Ag_init_20 : decode k_Ag_init.code 20 = .ok (.aload_n 0, 1) := by decide +kernel
theorem d_Ag_init_21 : decode k_Ag_init.code 21 = .ok (.iload_n 1, 1) := by decide +kernel
theorem p_Ag_init_22 : SiteP k_Ag_init 22 1 0 .int := ⟨18, 7, R_Ag, "PhotoModels$Agreement", F_Ag, t_Ag, t_Ag_ok, n_Ag, by decide +kernel, tx1 111 rfl rfl, i_Ag, rfl, Or.inr ⟨rfl, rfl, rfl⟩, rfl, by decide, rfl⟩
theorem d_Ag_init_25 : decode k_Ag_init.code 25 = .ok (.return_, 1) := by decide +kernel
theorem d_Ad_init_0 : decode k_Ad_init.code 0 = .ok (.aload_n 0, 1) := by decide +kernel
theorem s_Ad_init_1 : SiteO k_Ad_init 1 := ⟨3, by decide +kernel, tx1 138 rfl rfl, tx1 25 rfl rfl, tx1 26 rfl rfl, by decide, by decide⟩
theorem d_Ad_init_4 : decode k_Ad_init.code 4 = .ok (.aload_n 0, 1) := by decide +kernel
theorem d_Ad_init_5 : decode k_Ad_init.code 5 = .ok (.bipush 24, 2) := by decide +kernel
theorem d_Ad_init_7 : decode k_Ad_init.code 7 = .ok (.newarray .int, 2) := by decide +kernel
theorem p_Ad_init_9 : SiteP k_Ad_init 9 0 0 (.array .int) := ⟨9, 4, R_Ad, "PhotoModels$Adjustment", F_Ad, t_Ad, t_Ad_ok, n_Ad, by decide +kernel, tx1 139 rfl rfl, i_Ad, rfl, Or.inr ⟨rfl, rfl, rfl⟩, rfl, by decide, rfl⟩
theorem d_Ad_init_12 : decode k_Ad_init.code 12 = .ok (.aload_n 0, 1) := by decide +kernel
theorem d_Ad_init_13 : decode k_Ad_init.code 13 = .ok (.bipush 8, 2) := by decide +kernel
theorem d_Ad_init_15 : decode k_Ad_init.code 15 = .ok (.newarray .int, 2) := by decide +kernel
theorem p_Ad_init_17 : SiteP k_Ad_init 17 0 1 (.array .int) := ⟨15, 4, R_Ad, "PhotoModels$Adjustment", F_Ad, t_Ad, t_Ad_ok, n_Ad, by decide +kernel, tx1 140 rfl rfl, i_Ad, rfl, Or.inr ⟨rfl, rfl, rfl⟩, rfl, by decide, rfl⟩
theorem d_Ad_init_20 : decode k_Ad_init.code 20 = .ok (.aload_n 0, 1) := by decide +kernel
theorem d_Ad_init_21 : decode k_Ad_init.code 21 = .ok (.bipush 24, 2) := by decide +kernel
theorem d_Ad_init_23 : decode k_Ad_init.code 23 = .ok (.newarray .int, 2) := by decide +kernel
theorem p_Ad_init_25 : SiteP k_Ad_init 25 0 2 (.array .int) := ⟨18, 4, R_Ad, "PhotoModels$Adjustment", F_Ad, t_Ad, t_Ad_ok, n_Ad, by decide +kernel, tx1 141 rfl rfl, i_Ad, rfl, Or.inr ⟨rfl, rfl, rfl⟩, rfl, by decide, rfl⟩
theorem d_Ad_init_28 : decode k_Ad_init.code 28 = .ok (.aload_n 0, 1) := by decide +kernel
theorem d_Ad_init_29 : decode k_Ad_init.code 29 = .ok (.bipush 8, 2) := by decide +kernel
theorem d_Ad_init_31 : decode k_Ad_init.code 31 = .ok (.newarray .int, 2) := by decide +kernel
theorem p_Ad_init_33 : SiteP k_Ad_init 33 0 3 (.array .int) := ⟨21, 4, R_Ad, "PhotoModels$Adjustment", F_Ad, t_Ad, t_Ad_ok, n_Ad, by decide +kernel, tx1 142 rfl rfl, i_Ad, rfl, Or.inr ⟨rfl, rfl, rfl⟩, rfl, by decide, rfl⟩
theorem d_Ad_init_36 : decode k_Ad_init.code 36 = .ok (.return_, 1) := by decide +kernel
theorem d_Re_init_0 : decode k_Re_init.code 0 = .ok (.aload_n 0, 1) := by decide +kernel
theorem s_Re_init_1 : SiteO k_Re_init 1 := ⟨3, by decide +kernel, tx1 176 rfl rfl, tx1 25 rfl rfl, tx1 26 rfl rfl, by decide, by decide⟩
theorem d_Re_init_4 : decode k_Re_init.code 4 = .ok (.aload_n 0, 1) := by decide +kernel
theorem d_Re_init_5 : decode k_Re_init.code 5 = .ok (.iload_n 1, 1) := by decide +kernel
theorem p_Re_init_6 : SiteP k_Re_init 6 5 0 .int := ⟨9, 10, R_Re, "PhotoModels$Relief", F_Re, t_Re, t_Re_ok, n_Re, by decide +kernel, tx1 177 rfl rfl, i_Re, rfl, Or.inr ⟨rfl, rfl, rfl⟩, rfl, by decide, rfl⟩
theorem d_Re_init_9 : decode k_Re_init.code 9 = .ok (.aload_n 0, 1) := by decide +kernel
theorem d_Re_init_10 : decode k_Re_init.code 10 = .ok (.iload_n 2, 1) := by decide +kernel
theorem p_Re_init_11 : SiteP k_Re_init 11 5 1 .int := ⟨15, 10, R_Re, "PhotoModels$Relief", F_Re, t_Re, t_Re_ok, n_Re, by decide +kernel, tx1 178 rfl rfl, i_Re, rfl, Or.inr ⟨rfl, rfl, rfl⟩, rfl, by decide, rfl⟩
theorem d_Re_init_14 : decode k_Re_init.code 14 = .ok (.aload_n 0, 1) := by decide +kernel
theorem d_Re_init_15 : decode k_Re_init.code 15 = .ok (.iload_n 1, 1) := by decide +kernel
theorem d_Re_init_16 : decode k_Re_init.code 16 = .ok (.iload_n 2, 1) := by decide +kernel
theorem d_Re_init_17 : decode k_Re_init.code 17 = .ok (.imul, 1) := by decide +kernel
theorem d_Re_init_18 : decode k_Re_init.code 18 = .ok (.newarray .int, 2) := by decide +kernel
theorem p_Re_init_20 : SiteP k_Re_init 20 5 2 (.array .int) := ⟨18, 10, R_Re, "PhotoModels$Relief", F_Re, t_Re, t_Re_ok, n_Re, by decide +kernel, tx1 179 rfl rfl, i_Re, rfl, Or.inr ⟨rfl, rfl, rfl⟩, rfl, by decide, rfl⟩
theorem d_Re_init_23 : decode k_Re_init.code 23 = .ok (.aload_n 0, 1) := by decide +kernel
theorem d_Re_init_24 : decode k_Re_init.code 24 = .ok (.iload_n 1, 1) := by decide +kernel
theorem d_Re_init_25 : decode k_Re_init.code 25 = .ok (.iload_n 2, 1) := by decide +kernel
theorem d_Re_init_26 : decode k_Re_init.code 26 = .ok (.imul, 1) := by decide +kernel
theorem d_Re_init_27 : decode k_Re_init.code 27 = .ok (.newarray .int, 2) := by decide +kernel
theorem p_Re_init_29 : SiteP k_Re_init 29 5 3 (.array .int) := ⟨22, 10, R_Re, "PhotoModels$Relief", F_Re, t_Re, t_Re_ok, n_Re, by decide +kernel, tx1 180 rfl rfl, i_Re, rfl, Or.inr ⟨rfl, rfl, rfl⟩, rfl, by decide, rfl⟩
theorem d_Re_init_32 : decode k_Re_init.code 32 = .ok (.aload_n 0, 1) := by decide +kernel
theorem d_Re_init_33 : decode k_Re_init.code 33 = .ok (.iload_n 1, 1) := by decide +kernel
theorem d_Re_init_34 : decode k_Re_init.code 34 = .ok (.bipush 6, 2) := by decide +kernel
theorem d_Re_init_36 : decode k_Re_init.code 36 = .ok (.imul, 1) := by decide +kernel
theorem d_Re_init_37 : decode k_Re_init.code 37 = .ok (.newarray .int, 2) := by decide +kernel
theorem p_Re_init_39 : SiteP k_Re_init 39 5 4 (.array .int) := ⟨25, 10, R_Re, "PhotoModels$Relief", F_Re, t_Re, t_Re_ok, n_Re, by decide +kernel, tx1 181 rfl rfl, i_Re, rfl, Or.inr ⟨rfl, rfl, rfl⟩, rfl, by decide, rfl⟩
theorem d_Re_init_42 : decode k_Re_init.code 42 = .ok (.aload_n 0, 1) := by decide +kernel
theorem d_Re_init_43 : decode k_Re_init.code 43 = .ok (.iload_n 1, 1) := by decide +kernel
theorem d_Re_init_44 : decode k_Re_init.code 44 = .ok (.iconst 2, 1) := by decide +kernel
theorem d_Re_init_45 : decode k_Re_init.code 45 = .ok (.iadd, 1) := by decide +kernel
theorem p_Re_init_46 : SiteP k_Re_init 46 5 5 .int := ⟨28, 10, R_Re, "PhotoModels$Relief", F_Re, t_Re, t_Re_ok, n_Re, by decide +kernel, tx1 182 rfl rfl, i_Re, rfl, Or.inr ⟨rfl, rfl, rfl⟩, rfl, by decide, rfl⟩
theorem d_Re_init_49 : decode k_Re_init.code 49 = .ok (.aload_n 0, 1) := by decide +kernel
theorem d_Re_init_50 : decode k_Re_init.code 50 = .ok (.aload_n 0, 1) := by decide +kernel
theorem g_Re_init_51 : SiteG k_Re_init 51 5 5 := ⟨28, 10, R_Re, "PhotoModels$Relief", F_Re, by decide +kernel, tx1 182 rfl rfl, i_Re, rfl, rfl, by decide⟩
theorem d_Re_init_54 : decode k_Re_init.code 54 = .ok (.iload_n 2, 1) := by decide +kernel
theorem d_Re_init_55 : decode k_Re_init.code 55 = .ok (.iconst 2, 1) := by decide +kernel
theorem d_Re_init_56 : decode k_Re_init.code 56 = .ok (.iadd, 1) := by decide +kernel
theorem d_Re_init_57 : decode k_Re_init.code 57 = .ok (.imul, 1) := by decide +kernel
theorem d_Re_init_58 : decode k_Re_init.code 58 = .ok (.newarray .boolean, 2) := by decide +kernel
theorem p_Re_init_60 : SiteP k_Re_init 60 5 6 (.array .boolean) := ⟨31, 10, R_Re, "PhotoModels$Relief", F_Re, t_Re, t_Re_ok, n_Re, by decide +kernel, tx1 183 rfl rfl, i_Re, rfl, Or.inr ⟨rfl, rfl, rfl⟩, rfl, by decide, rfl⟩
theorem d_Re_init_63 : decode k_Re_init.code 63 = .ok (.aload_n 0, 1) := by decide +kernel
theorem d_Re_init_64 : decode k_Re_init.code 64 = .ok (.iload_n 1, 1) := by decide +kernel
theorem d_Re_init_65 : decode k_Re_init.code 65 = .ok (.iload_n 2, 1) := by decide +kernel
theorem d_Re_init_66 : decode k_Re_init.code 66 = .ok (.imul, 1) := by decide +kernel
theorem d_Re_init_67 : decode k_Re_init.code 67 = .ok (.newarray .int, 2) := by decide +kernel
theorem p_Re_init_69 : SiteP k_Re_init 69 5 7 (.array .int) := ⟨35, 10, R_Re, "PhotoModels$Relief", F_Re, t_Re, t_Re_ok, n_Re, by decide +kernel, tx1 184 rfl rfl, i_Re, rfl, Or.inr ⟨rfl, rfl, rfl⟩, rfl, by decide, rfl⟩
theorem d_Re_init_72 : decode k_Re_init.code 72 = .ok (.return_, 1) := by decide +kernel
theorem d_Ad_total_0 : decode k_Ad_total.code 0 = .ok (.lconst 0, 1) := by decide +kernel
theorem d_Ad_total_1 : decode k_Ad_total.code 1 = .ok (.lstore_n 2, 1) := by decide +kernel
theorem d_Ad_total_2 : decode k_Ad_total.code 2 = .ok (.iconst 0, 1) := by decide +kernel
theorem d_Ad_total_3 : decode k_Ad_total.code 3 = .ok (.istore 4, 2) := by decide +kernel
theorem d_Ad_total_5 : decode k_Ad_total.code 5 = .ok (.iload 4, 2) := by decide +kernel
theorem d_Ad_total_7 : decode k_Ad_total.code 7 = .ok (.aload_n 1, 1) := by decide +kernel
theorem s_Ad_total_8 : SiteV k_Ad_total k_Pl_number 8 4 0 := ⟨41, (R_Pl, F_Pl, 5), by decide +kernel, ⟨kw_Pl_number, tx1 5 rfl rfl, by decide, by decide⟩, tx1 238 rfl rfl, tx1 239 rfl rfl, tx2 0 rfl rfl, rfl, ⟨by decide +kernel, by decide +kernel⟩, np_Pl_number⟩
theorem d_Ad_total_11 : decode k_Ad_total.code 11 = .ok (.if_icmp .ge 28, 3) := by decide +kernel
theorem d_Ad_total_14 : decode k_Ad_total.code 14 = .ok (.aload_n 1, 1) := by decide +kernel
theorem d_Ad_total_15 : decode k_Ad_total.code 15 = .ok (.iload 4, 2) := by decide +kernel
theorem s_Ad_total_17 : SiteV k_Ad_total k_Pl_isSpare 17 4 1 := ⟨47, (R_Pl, F_Pl, 5), by decide +kernel, ⟨kw_Pl_isSpare, tx1 5 rfl rfl, by decide, by decide⟩, tx2 2 rfl rfl, tx2 3 rfl rfl, tx2 4 rfl rfl, rfl, ⟨by decide +kernel, by decide +kernel⟩, np_Pl_isSpare⟩
theorem d_Ad_total_20 : decode k_Ad_total.code 20 = .ok (.ifCond .ne 13, 3) := by decide +kernel
theorem d_Ad_total_23 : decode k_Ad_total.code 23 = .ok (.lload_n 2, 1) := by decide +kernel
theorem d_Ad_total_24 : decode k_Ad_total.code 24 = .ok (.aload_n 0, 1) := by decide +kernel
theorem d_Ad_total_25 : decode k_Ad_total.code 25 = .ok (.aload_n 1, 1) := by decide +kernel
theorem d_Ad_total_26 : decode k_Ad_total.code 26 = .ok (.iload 4, 2) := by decide +kernel
theorem s_Ad_total_28 : SiteV k_Ad_total k_Ad_share 28 0 2 := ⟨51, (R_Ad, F_Ad, 4), by decide +kernel, ⟨kw_Ad_share, tx1 7 rfl rfl, by decide, by decide⟩, tx2 6 rfl rfl, tx2 7 rfl rfl, tx2 8 rfl rfl, rfl, ⟨by decide +kernel, by decide +kernel⟩, np_Ad_share⟩
theorem d_Ad_total_31 : decode k_Ad_total.code 31 = .ok (.ladd, 1) := by decide +kernel
theorem d_Ad_total_32 : decode k_Ad_total.code 32 = .ok (.lstore_n 2, 1) := by decide +kernel
theorem d_Ad_total_33 : decode k_Ad_total.code 33 = .ok (.iinc 4 1, 3) := by decide +kernel
theorem d_Ad_total_36 : decode k_Ad_total.code 36 = .ok (.goto (-31), 3) := by decide +kernel
theorem d_Ad_total_39 : decode k_Ad_total.code 39 = .ok (.lload_n 2, 1) := by decide +kernel
theorem d_Ad_total_40 : decode k_Ad_total.code 40 = .ok (.lreturn, 1) := by decide +kernel
theorem d_Ad_share_0 : decode k_Ad_share.code 0 = .ok (.lconst 0, 1) := by decide +kernel
theorem d_Ad_share_1 : decode k_Ad_share.code 1 = .ok (.lstore_n 3, 1) := by decide +kernel
theorem d_Ad_share_2 : decode k_Ad_share.code 2 = .ok (.iconst 0, 1) := by decide +kernel
theorem d_Ad_share_3 : decode k_Ad_share.code 3 = .ok (.istore 5, 2) := by decide +kernel
theorem d_Ad_share_5 : decode k_Ad_share.code 5 = .ok (.iload 5, 2) := by decide +kernel
theorem d_Ad_share_7 : decode k_Ad_share.code 7 = .ok (.iconst 4, 1) := by decide +kernel
theorem d_Ad_share_8 : decode k_Ad_share.code 8 = .ok (.if_icmp .ge 77, 3) := by decide +kernel
theorem d_Ad_share_11 : decode k_Ad_share.code 11 = .ok (.aload_n 1, 1) := by decide +kernel
theorem d_Ad_share_12 : decode k_Ad_share.code 12 = .ok (.iload_n 2, 1) := by decide +kernel
theorem d_Ad_share_13 : decode k_Ad_share.code 13 = .ok (.iload 5, 2) := by decide +kernel
theorem s_Ad_share_15 : SiteV k_Ad_share k_Pl_isNoted 15 4 2 := ⟨55, (R_Pl, F_Pl, 5), by decide +kernel, ⟨kw_Pl_isNoted, tx1 5 rfl rfl, by decide, by decide⟩, tx2 10 rfl rfl, tx2 11 rfl rfl, tx2 12 rfl rfl, rfl, ⟨by decide +kernel, by decide +kernel⟩, np_Pl_isNoted⟩
theorem d_Ad_share_18 : decode k_Ad_share.code 18 = .ok (.ifCond .eq 61, 3) := by decide +kernel
theorem d_Ad_share_21 : decode k_Ad_share.code 21 = .ok (.iconst 0, 1) := by decide +kernel
theorem d_Ad_share_22 : decode k_Ad_share.code 22 = .ok (.istore 6, 2) := by decide +kernel
theorem d_Ad_share_24 : decode k_Ad_share.code 24 = .ok (.iload 6, 2) := by decide +kernel
theorem d_Ad_share_26 : decode k_Ad_share.code 26 = .ok (.iconst 2, 1) := by decide +kernel
theorem d_Ad_share_27 : decode k_Ad_share.code 27 = .ok (.if_icmp .ge 52, 3) := by decide +kernel
theorem d_Ad_share_30 : decode k_Ad_share.code 30 = .ok (.ldc2_w 59, 3) := by decide +kernel
theorem c_Ad_share_30 : Cond.constantLong k_Ad_share.y.cls 59 1000 ∈ tw := tx2 14 rfl rfl
theorem d_Ad_share_33 : decode k_Ad_share.code 33 = .ok (.aload_n 1, 1) := by decide +kernel
theorem d_Ad_share_34 : decode k_Ad_share.code 34 = .ok (.iload_n 2, 1) := by decide +kernel
theorem d_Ad_share_35 : decode k_Ad_share.code 35 = .ok (.iload 5, 2) := by decide +kernel
theorem d_Ad_share_37 : decode k_Ad_share.code 37 = .ok (.iload 6, 2) := by decide +kernel
theorem s_Ad_share_39 : SiteV k_Ad_share k_Pl_where 39 4 3 := ⟨61, (R_Pl, F_Pl, 5), by decide +kernel, ⟨kw_Pl_where, tx1 5 rfl rfl, by decide, by decide⟩, tx2 15 rfl rfl, tx2 16 rfl rfl, tx2 17 rfl rfl, rfl, ⟨by decide +kernel, by decide +kernel⟩, np_Pl_where⟩
theorem d_Ad_share_42 : decode k_Ad_share.code 42 = .ok (.i2l, 1) := by decide +kernel
theorem d_Ad_share_43 : decode k_Ad_share.code 43 = .ok (.lmul, 1) := by decide +kernel
theorem d_Ad_share_44 : decode k_Ad_share.code 44 = .ok (.aload_n 0, 1) := by decide +kernel
theorem d_Ad_share_45 : decode k_Ad_share.code 45 = .ok (.iload_n 2, 1) := by decide +kernel
theorem d_Ad_share_46 : decode k_Ad_share.code 46 = .ok (.iload 6, 2) := by decide +kernel
theorem s_Ad_share_48 : SiteV k_Ad_share k_Ad_position 48 0 2 := ⟨65, (R_Ad, F_Ad, 4), by decide +kernel, ⟨kw_Ad_position, tx1 7 rfl rfl, by decide, by decide⟩, tx2 19 rfl rfl, tx2 20 rfl rfl, tx2 21 rfl rfl, rfl, ⟨by decide +kernel, by decide +kernel⟩, np_Ad_position⟩
theorem d_Ad_share_51 : decode k_Ad_share.code 51 = .ok (.i2l, 1) := by decide +kernel
theorem d_Ad_share_52 : decode k_Ad_share.code 52 = .ok (.lsub, 1) := by decide +kernel
theorem d_Ad_share_53 : decode k_Ad_share.code 53 = .ok (.aload_n 0, 1) := by decide +kernel
theorem d_Ad_share_54 : decode k_Ad_share.code 54 = .ok (.iload 5, 2) := by decide +kernel
theorem d_Ad_share_56 : decode k_Ad_share.code 56 = .ok (.iload 6, 2) := by decide +kernel
theorem s_Ad_share_58 : SiteV k_Ad_share k_Ad_moved 58 0 2 := ⟨69, (R_Ad, F_Ad, 4), by decide +kernel, ⟨kw_Ad_moved, tx1 7 rfl rfl, by decide, by decide⟩, tx2 23 rfl rfl, tx2 24 rfl rfl, tx2 25 rfl rfl, rfl, ⟨by decide +kernel, by decide +kernel⟩, np_Ad_moved⟩
theorem d_Ad_share_61 : decode k_Ad_share.code 61 = .ok (.i2l, 1) := by decide +kernel
theorem d_Ad_share_62 : decode k_Ad_share.code 62 = .ok (.lsub, 1) := by decide +kernel
theorem d_Ad_share_63 : decode k_Ad_share.code 63 = .ok (.lstore 7, 2) := by decide +kernel
theorem d_Ad_share_65 : decode k_Ad_share.code 65 = .ok (.lload_n 3, 1) := by decide +kernel
theorem d_Ad_share_66 : decode k_Ad_share.code 66 = .ok (.lload 7, 2) := by decide +kernel
theorem d_Ad_share_68 : decode k_Ad_share.code 68 = .ok (.lload 7, 2) := by decide +kernel
theorem d_Ad_share_70 : decode k_Ad_share.code 70 = .ok (.lmul, 1) := by decide +kernel
theorem d_Ad_share_71 : decode k_Ad_share.code 71 = .ok (.ladd, 1) := by decide +kernel
theorem d_Ad_share_72 : decode k_Ad_share.code 72 = .ok (.lstore_n 3, 1) := by decide +kernel
theorem d_Ad_share_73 : decode k_Ad_share.code 73 = .ok (.iinc 6 1, 3) := by decide +kernel
theorem d_Ad_share_76 : decode k_Ad_share.code 76 = .ok (.goto (-52), 3) := by decide +kernel
theorem d_Ad_share_79 : decode k_Ad_share.code 79 = .ok (.iinc 5 1, 3) := by decide +kernel
theorem d_Ad_share_82 : decode k_Ad_share.code 82 = .ok (.goto (-77), 3) := by decide +kernel
theorem d_Ad_share_85 : decode k_Ad_share.code 85 = .ok (.lload_n 3, 1) := by decide +kernel
theorem d_Ad_share_86 : decode k_Ad_share.code 86 = .ok (.lreturn, 1) := by decide +kernel
theorem d_Ad_position_0 : decode k_Ad_position.code 0 = .ok (.aload_n 0, 1) := by decide +kernel
theorem g_Ad_position_1 : SiteG k_Ad_position 1 0 0 := ⟨9, 4, R_Ad, "PhotoModels$Adjustment", F_Ad, by decide +kernel, tx1 139 rfl rfl, i_Ad, rfl, rfl, by decide⟩
theorem d_Ad_position_4 : decode k_Ad_position.code 4 = .ok (.iload_n 1, 1) := by decide +kernel
theorem d_Ad_position_5 : decode k_Ad_position.code 5 = .ok (.iconst 2, 1) := by decide +kernel
theorem d_Ad_position_6 : decode k_Ad_position.code 6 = .ok (.imul, 1) := by decide +kernel
theorem d_Ad_position_7 : decode k_Ad_position.code 7 = .ok (.iload_n 2, 1) := by decide +kernel
theorem d_Ad_position_8 : decode k_Ad_position.code 8 = .ok (.iadd, 1) := by decide +kernel
theorem d_Ad_position_9 : decode k_Ad_position.code 9 = .ok (.iaload, 1) := by decide +kernel
theorem d_Ad_position_10 : decode k_Ad_position.code 10 = .ok (.ireturn, 1) := by decide +kernel
theorem d_Ad_moved_0 : decode k_Ad_moved.code 0 = .ok (.aload_n 0, 1) := by decide +kernel
theorem g_Ad_moved_1 : SiteG k_Ad_moved 1 0 1 := ⟨15, 4, R_Ad, "PhotoModels$Adjustment", F_Ad, by decide +kernel, tx1 140 rfl rfl, i_Ad, rfl, rfl, by decide⟩
theorem d_Ad_moved_4 : decode k_Ad_moved.code 4 = .ok (.iload_n 1, 1) := by decide +kernel
theorem d_Ad_moved_5 : decode k_Ad_moved.code 5 = .ok (.iconst 2, 1) := by decide +kernel
theorem d_Ad_moved_6 : decode k_Ad_moved.code 6 = .ok (.imul, 1) := by decide +kernel
theorem d_Ad_moved_7 : decode k_Ad_moved.code 7 = .ok (.iload_n 2, 1) := by decide +kernel
theorem d_Ad_moved_8 : decode k_Ad_moved.code 8 = .ok (.iadd, 1) := by decide +kernel
theorem d_Ad_moved_9 : decode k_Ad_moved.code 9 = .ok (.iaload, 1) := by decide +kernel
theorem d_Ad_moved_10 : decode k_Ad_moved.code 10 = .ok (.ireturn, 1) := by decide +kernel
theorem d_Ag_draw_0 : decode k_Ag_draw.code 0 = .ok (.aload_n 0, 1) := by decide +kernel
theorem d_Ag_draw_1 : decode k_Ag_draw.code 1 = .ok (.aload_n 1, 1) := by decide +kernel
theorem d_Ag_draw_2 : decode k_Ag_draw.code 2 = .ok (.iload_n 2, 1) := by decide +kernel
theorem d_Ag_draw_3 : decode k_Ag_draw.code 3 = .ok (.iload_n 3, 1) := by decide +kernel
theorem s_Ag_draw_4 : SiteV k_Ag_draw k_Ag_gatherShifts 4 1 3 := ⟨32, (R_Ag, F_Ag, 7), by decide +kernel, ⟨kw_Ag_gatherShifts, tx1 6 rfl rfl, by decide, by decide⟩, tx3 17 rfl rfl, tx3 19 rfl rfl, twp 4 rfl rfl, rfl, ⟨by decide +kernel, by decide +kernel⟩, np_Ag_gatherShifts⟩
theorem d_Ag_draw_7 : decode k_Ag_draw.code 7 = .ok (.aload_n 0, 1) := by decide +kernel
theorem d_Ag_draw_8 : decode k_Ag_draw.code 8 = .ok (.aload_n 0, 1) := by decide +kernel
theorem g_Ag_draw_9 : SiteG k_Ag_draw 9 1 3 := ⟨36, 7, R_Ag, "PhotoModels$Agreement", F_Ag, by decide +kernel, tx1 114 rfl rfl, i_Ag, rfl, rfl, by decide⟩
theorem d_Ag_draw_12 : decode k_Ag_draw.code 12 = .ok (.ifCond .le 7, 3) := by decide +kernel
theorem d_Ag_draw_15 : decode k_Ag_draw.code 15 = .ok (.iconst 1, 1) := by decide +kernel
theorem d_Ag_draw_16 : decode k_Ag_draw.code 16 = .ok (.goto 4, 3) := by decide +kernel
theorem d_Ag_draw_19 : decode k_Ag_draw.code 19 = .ok (.iconst 0, 1) := by decide +kernel
theorem p_Ag_draw_20 : SiteP k_Ag_draw 20 1 4 .boolean := ⟨22, 7, R_Ag, "PhotoModels$Agreement", F_Ag, t_Ag, t_Ag_ok, n_Ag, by decide +kernel, tx1 115 rfl rfl, i_Ag, rfl, Or.inl rfl, rfl, by decide, rfl⟩
theorem d_Ag_draw_23 : decode k_Ag_draw.code 23 = .ok (.iconst 0, 1) := by decide +kernel
theorem d_Ag_draw_24 : decode k_Ag_draw.code 24 = .ok (.istore 6, 2) := by decide +kernel
theorem d_Ag_draw_26 : decode k_Ag_draw.code 26 = .ok (.iconst 0, 1) := by decide +kernel
theorem d_Ag_draw_27 : decode k_Ag_draw.code 27 = .ok (.istore 7, 2) := by decide +kernel
theorem d_Ag_draw_29 : decode k_Ag_draw.code 29 = .ok (.iload 7, 2) := by decide +kernel
theorem d_Ag_draw_31 : decode k_Ag_draw.code 31 = .ok (.iload 4, 2) := by decide +kernel
theorem d_Ag_draw_33 : decode k_Ag_draw.code 33 = .ok (.if_icmp .ge 72, 3) := by decide +kernel
theorem d_Ag_draw_36 : decode k_Ag_draw.code 36 = .ok (.aload_n 0, 1) := by decide +kernel
theorem g_Ag_draw_37 : SiteG k_Ag_draw 37 1 3 := ⟨36, 7, R_Ag, "PhotoModels$Agreement", F_Ag, by decide +kernel, tx1 114 rfl rfl, i_Ag, rfl, rfl, by decide⟩
theorem d_Ag_draw_40 : decode k_Ag_draw.code 40 = .ok (.ifCond .le 65, 3) := by decide +kernel
theorem d_Ag_draw_43 : decode k_Ag_draw.code 43 = .ok (.aload_n 0, 1) := by decide +kernel
theorem d_Ag_draw_44 : decode k_Ag_draw.code 44 = .ok (.iload 7, 2) := by decide +kernel
theorem s_Ag_draw_46 : SiteV k_Ag_draw k_Ag_drawnNumber 46 1 1 := ⟨39, (R_Ag, F_Ag, 7), by decide +kernel, ⟨kw_Ag_drawnNumber, tx1 6 rfl rfl, by decide, by decide⟩, tx3 24 rfl rfl, tx3 26 rfl rfl, twp 5 rfl rfl, rfl, ⟨by decide +kernel, by decide +kernel⟩, np_Ag_drawnNumber⟩
theorem d_Ag_draw_49 : decode k_Ag_draw.code 49 = .ok (.aload_n 0, 1) := by decide +kernel
theorem g_Ag_draw_50 : SiteG k_Ag_draw 50 1 3 := ⟨36, 7, R_Ag, "PhotoModels$Agreement", F_Ag, by decide +kernel, tx1 114 rfl rfl, i_Ag, rfl, rfl, by decide⟩
theorem d_Ag_draw_53 : decode k_Ag_draw.code 53 = .ok (.irem, 1) := by decide +kernel
theorem d_Ag_draw_54 : decode k_Ag_draw.code 54 = .ok (.istore 8, 2) := by decide +kernel
theorem d_Ag_draw_56 : decode k_Ag_draw.code 56 = .ok (.aload_n 0, 1) := by decide +kernel
theorem d_Ag_draw_57 : decode k_Ag_draw.code 57 = .ok (.iload 8, 2) := by decide +kernel
theorem d_Ag_draw_59 : decode k_Ag_draw.code 59 = .ok (.iload 5, 2) := by decide +kernel
theorem s_Ag_draw_61 : SiteV k_Ag_draw k_Ag_agreeingWith 61 1 2 := ⟨43, (R_Ag, F_Ag, 7), by decide +kernel, ⟨kw_Ag_agreeingWith, tx1 6 rfl rfl, by decide, by decide⟩, tx3 29 rfl rfl, tx3 31 rfl rfl, twp 6 rfl rfl, rfl, ⟨by decide +kernel, by decide +kernel⟩, np_Ag_agreeingWith⟩
theorem d_Ag_draw_64 : decode k_Ag_draw.code 64 = .ok (.istore 9, 2) := by decide +kernel
theorem d_Ag_draw_66 : decode k_Ag_draw.code 66 = .ok (.iload 9, 2) := by decide +kernel
theorem d_Ag_draw_68 : decode k_Ag_draw.code 68 = .ok (.iload 6, 2) := by decide +kernel
theorem d_Ag_draw_70 : decode k_Ag_draw.code 70 = .ok (.if_icmp .le 29, 3) := by decide +kernel
theorem d_Ag_draw_73 : decode k_Ag_draw.code 73 = .ok (.iload 9, 2) := by decide +kernel
theorem d_Ag_draw_75 : decode k_Ag_draw.code 75 = .ok (.istore 6, 2) := by decide +kernel
theorem d_Ag_draw_77 : decode k_Ag_draw.code 77 = .ok (.aload_n 0, 1) := by decide +kernel
theorem d_Ag_draw_78 : decode k_Ag_draw.code 78 = .ok (.aload_n 0, 1) := by decide +kernel
theorem g_Ag_draw_79 : SiteG k_Ag_draw 79 1 1 := ⟨9, 7, R_Ag, "PhotoModels$Agreement", F_Ag, by decide +kernel, tx1 112 rfl rfl, i_Ag, rfl, rfl, by decide⟩
theorem d_Ag_draw_82 : decode k_Ag_draw.code 82 = .ok (.iload 8, 2) := by decide +kernel
theorem d_Ag_draw_84 : decode k_Ag_draw.code 84 = .ok (.iaload, 1) := by decide +kernel
theorem p_Ag_draw_85 : SiteP k_Ag_draw 85 1 5 .int := ⟨26, 7, R_Ag, "PhotoModels$Agreement", F_Ag, t_Ag, t_Ag_ok, n_Ag, by decide +kernel, tx1 116 rfl rfl, i_Ag, rfl, Or.inl rfl, rfl, by decide, rfl⟩
theorem d_Ag_draw_88 : decode k_Ag_draw.code 88 = .ok (.aload_n 0, 1) := by decide +kernel
theorem d_Ag_draw_89 : decode k_Ag_draw.code 89 = .ok (.aload_n 0, 1) := by decide +kernel
theorem g_Ag_draw_90 : SiteG k_Ag_draw 90 1 2 := ⟨15, 7, R_Ag, "PhotoModels$Agreement", F_Ag, by decide +kernel, tx1 113 rfl rfl, i_Ag, rfl, rfl, by decide⟩
theorem d_Ag_draw_93 : decode k_Ag_draw.code 93 = .ok (.iload 8, 2) := by decide +kernel
theorem d_Ag_draw_95 : decode k_Ag_draw.code 95 = .ok (.iaload, 1) := by decide +kernel
theorem p_Ag_draw_96 : SiteP k_Ag_draw 96 1 6 .int := ⟨29, 7, R_Ag, "PhotoModels$Agreement", F_Ag, t_Ag, t_Ag_ok, n_Ag, by decide +kernel, tx1 117 rfl rfl, i_Ag, rfl, Or.inl rfl, rfl, by decide, rfl⟩
theorem d_Ag_draw_99 : decode k_Ag_draw.code 99 = .ok (.iinc 7 1, 3) := by decide +kernel
theorem d_Ag_draw_102 : decode k_Ag_draw.code 102 = .ok (.goto (-73), 3) := by decide +kernel
theorem d_Ag_draw_105 : decode k_Ag_draw.code 105 = .ok (.iload 6, 2) := by decide +kernel
theorem d_Ag_draw_107 : decode k_Ag_draw.code 107 = .ok (.ireturn, 1) := by decide +kernel
theorem d_Ag_gatherShifts_0 : decode k_Ag_gatherShifts.code 0 = .ok (.aload_n 0, 1) := by decide +kernel
theorem d_Ag_gatherShifts_1 : decode k_Ag_gatherShifts.code 1 = .ok (.iconst 0, 1) := by decide +kernel
theorem p_Ag_gatherShifts_2 : SiteP k_Ag_gatherShifts 2 1 3 .int := ⟨36, 7, R_Ag, "PhotoModels$Agreement", F_Ag, t_Ag, t_Ag_ok, n_Ag, by decide +kernel, tx1 114 rfl rfl, i_Ag, rfl, Or.inl rfl, rfl, by decide, rfl⟩
theorem d_Ag_gatherShifts_5 : decode k_Ag_gatherShifts.code 5 = .ok (.iconst 0, 1) := by decide +kernel
theorem d_Ag_gatherShifts_6 : decode k_Ag_gatherShifts.code 6 = .ok (.istore 4, 2) := by decide +kernel
theorem d_Ag_gatherShifts_8 : decode k_Ag_gatherShifts.code 8 = .ok (.iload 4, 2) := by decide +kernel
theorem d_Ag_gatherShifts_10 : decode k_Ag_gatherShifts.code 10 = .ok (.aload_n 1, 1) := by decide +kernel
theorem s_Ag_gatherShifts_11 : SiteV k_Ag_gatherShifts k_Pl_number 11 4 0 := ⟨47, (R_Pl, F_Pl, 5), by decide +kernel, ⟨kw_Pl_number, tx1 5 rfl rfl, by decide, by decide⟩, tx3 21 rfl rfl, tx1 239 rfl rfl, tx2 0 rfl rfl, rfl, ⟨by decide +kernel, by decide +kernel⟩, np_Pl_number⟩
theorem d_Ag_gatherShifts_14 : decode k_Ag_gatherShifts.code 14 = .ok (.if_icmp .ge 91, 3) := by decide +kernel
theorem d_Ag_gatherShifts_17 : decode k_Ag_gatherShifts.code 17 = .ok (.aload_n 1, 1) := by decide +kernel
theorem d_Ag_gatherShifts_18 : decode k_Ag_gatherShifts.code 18 = .ok (.iload 4, 2) := by decide +kernel
theorem d_Ag_gatherShifts_20 : decode k_Ag_gatherShifts.code 20 = .ok (.iload_n 2, 1) := by decide +kernel
theorem s_Ag_gatherShifts_21 : SiteV k_Ag_gatherShifts k_Pl_isNoted 21 4 2 := ⟨52, (R_Pl, F_Pl, 5), by decide +kernel, ⟨kw_Pl_isNoted, tx1 5 rfl rfl, by decide, by decide⟩, tx3 22 rfl rfl, tx2 11 rfl rfl, tx2 12 rfl rfl, rfl, ⟨by decide +kernel, by decide +kernel⟩, np_Pl_isNoted⟩
theorem d_Ag_gatherShifts_24 : decode k_Ag_gatherShifts.code 24 = .ok (.ifCond .eq 75, 3) := by decide +kernel
theorem d_Ag_gatherShifts_27 : decode k_Ag_gatherShifts.code 27 = .ok (.aload_n 1, 1) := by decide +kernel
theorem d_Ag_gatherShifts_28 : decode k_Ag_gatherShifts.code 28 = .ok (.iload 4, 2) := by decide +kernel
theorem d_Ag_gatherShifts_30 : decode k_Ag_gatherShifts.code 30 = .ok (.iload_n 3, 1) := by decide +kernel
theorem s_Ag_gatherShifts_31 : SiteV k_Ag_gatherShifts k_Pl_isNoted 31 4 2 := ⟨52, (R_Pl, F_Pl, 5), by decide +kernel, ⟨kw_Pl_isNoted, tx1 5 rfl rfl, by decide, by decide⟩, tx3 22 rfl rfl, tx2 11 rfl rfl, tx2 12 rfl rfl, rfl, ⟨by decide +kernel, by decide +kernel⟩, np_Pl_isNoted⟩
theorem d_Ag_gatherShifts_34 : decode k_Ag_gatherShifts.code 34 = .ok (.ifCond .eq 65, 3) := by decide +kernel
theorem d_Ag_gatherShifts_37 : decode k_Ag_gatherShifts.code 37 = .ok (.aload_n 0, 1) := by decide +kernel
theorem g_Ag_gatherShifts_38 : SiteG k_Ag_gatherShifts 38 1 1 := ⟨9, 7, R_Ag, "PhotoModels$Agreement", F_Ag, by decide +kernel, tx1 112 rfl rfl, i_Ag, rfl, rfl, by decide⟩
theorem d_Ag_gatherShifts_41 : decode k_Ag_gatherShifts.code 41 = .ok (.aload_n 0, 1) := by decide +kernel
theorem g_Ag_gatherShifts_42 : SiteG k_Ag_gatherShifts 42 1 3 := ⟨36, 7, R_Ag, "PhotoModels$Agreement", F_Ag, by decide +kernel, tx1 114 rfl rfl, i_Ag, rfl, rfl, by decide⟩
theorem d_Ag_gatherShifts_45 : decode k_Ag_gatherShifts.code 45 = .ok (.aload_n 1, 1) := by decide +kernel
theorem d_Ag_gatherShifts_46 : decode k_Ag_gatherShifts.code 46 = .ok (.iload 4, 2) := by decide +kernel
theorem d_Ag_gatherShifts_48 : decode k_Ag_gatherShifts.code 48 = .ok (.iload_n 3, 1) := by decide +kernel
theorem d_Ag_gatherShifts_49 : decode k_Ag_gatherShifts.code 49 = .ok (.iconst 0, 1) := by decide +kernel
theorem s_Ag_gatherShifts_50 : SiteV k_Ag_gatherShifts k_Pl_where 50 4 3 := ⟨56, (R_Pl, F_Pl, 5), by decide +kernel, ⟨kw_Pl_where, tx1 5 rfl rfl, by decide, by decide⟩, tx3 23 rfl rfl, tx2 16 rfl rfl, tx2 17 rfl rfl, rfl, ⟨by decide +kernel, by decide +kernel⟩, np_Pl_where⟩
theorem d_Ag_gatherShifts_53 : decode k_Ag_gatherShifts.code 53 = .ok (.aload_n 1, 1) := by decide +kernel
theorem d_Ag_gatherShifts_54 : decode k_Ag_gatherShifts.code 54 = .ok (.iload 4, 2) := by decide +kernel
theorem d_Ag_gatherShifts_56 : decode k_Ag_gatherShifts.code 56 = .ok (.iload_n 2, 1) := by decide +kernel
theorem d_Ag_gatherShifts_57 : decode k_Ag_gatherShifts.code 57 = .ok (.iconst 0, 1) := by decide +kernel
theorem s_Ag_gatherShifts_58 : SiteV k_Ag_gatherShifts k_Pl_where 58 4 3 := ⟨56, (R_Pl, F_Pl, 5), by decide +kernel, ⟨kw_Pl_where, tx1 5 rfl rfl, by decide, by decide⟩, tx3 23 rfl rfl, tx2 16 rfl rfl, tx2 17 rfl rfl, rfl, ⟨by decide +kernel, by decide +kernel⟩, np_Pl_where⟩
theorem d_Ag_gatherShifts_61 : decode k_Ag_gatherShifts.code 61 = .ok (.isub, 1) := by decide +kernel
theorem d_Ag_gatherShifts_62 : decode k_Ag_gatherShifts.code 62 = .ok (.iastore, 1) := by decide +kernel
theorem d_Ag_gatherShifts_63 : decode k_Ag_gatherShifts.code 63 = .ok (.aload_n 0, 1) := by decide +kernel
theorem g_Ag_gatherShifts_64 : SiteG k_Ag_gatherShifts 64 1 2 := ⟨15, 7, R_Ag, "PhotoModels$Agreement", F_Ag, by decide +kernel, tx1 113 rfl rfl, i_Ag, rfl, rfl, by decide⟩
theorem d_Ag_gatherShifts_67 : decode k_Ag_gatherShifts.code 67 = .ok (.aload_n 0, 1) := by decide +kernel
theorem g_Ag_gatherShifts_68 : SiteG k_Ag_gatherShifts 68 1 3 := ⟨36, 7, R_Ag, "PhotoModels$Agreement", F_Ag, by decide +kernel, tx1 114 rfl rfl, i_Ag, rfl, rfl, by decide⟩
theorem d_Ag_gatherShifts_71 : decode k_Ag_gatherShifts.code 71 = .ok (.aload_n 1, 1) := by decide +kernel
theorem d_Ag_gatherShifts_72 : decode k_Ag_gatherShifts.code 72 = .ok (.iload 4, 2) := by decide +kernel
theorem d_Ag_gatherShifts_74 : decode k_Ag_gatherShifts.code 74 = .ok (.iload_n 3, 1) := by decide +kernel
theorem d_Ag_gatherShifts_75 : decode k_Ag_gatherShifts.code 75 = .ok (.iconst 1, 1) := by decide +kernel
theorem s_Ag_gatherShifts_76 : SiteV k_Ag_gatherShifts k_Pl_where 76 4 3 := ⟨56, (R_Pl, F_Pl, 5), by decide +kernel, ⟨kw_Pl_where, tx1 5 rfl rfl, by decide, by decide⟩, tx3 23 rfl rfl, tx2 16 rfl rfl, tx2 17 rfl rfl, rfl, ⟨by decide +kernel, by decide +kernel⟩, np_Pl_where⟩
theorem d_Ag_gatherShifts_79 : decode k_Ag_gatherShifts.code 79 = .ok (.aload_n 1, 1) := by decide +kernel
theorem d_Ag_gatherShifts_80 : decode k_Ag_gatherShifts.code 80 = .ok (.iload 4, 2) := by decide +kernel
theorem d_Ag_gatherShifts_82 : decode k_Ag_gatherShifts.code 82 = .ok (.iload_n 2, 1) := by decide +kernel
theorem d_Ag_gatherShifts_83 : decode k_Ag_gatherShifts.code 83 = .ok (.iconst 1, 1) := by decide +kernel
theorem s_Ag_gatherShifts_84 : SiteV k_Ag_gatherShifts k_Pl_where 84 4 3 := ⟨56, (R_Pl, F_Pl, 5), by decide +kernel, ⟨kw_Pl_where, tx1 5 rfl rfl, by decide, by decide⟩, tx3 23 rfl rfl, tx2 16 rfl rfl, tx2 17 rfl rfl, rfl, ⟨by decide +kernel, by decide +kernel⟩, np_Pl_where⟩
theorem d_Ag_gatherShifts_87 : decode k_Ag_gatherShifts.code 87 = .ok (.isub, 1) := by decide +kernel
theorem d_Ag_gatherShifts_88 : decode k_Ag_gatherShifts.code 88 = .ok (.iastore, 1) := by decide +kernel
theorem d_Ag_gatherShifts_89 : decode k_Ag_gatherShifts.code 89 = .ok (.aload_n 0, 1) := by decide +kernel
theorem d_Ag_gatherShifts_90 : decode k_Ag_gatherShifts.code 90 = .ok (.dup, 1) := by decide +kernel
theorem g_Ag_gatherShifts_91 : SiteG k_Ag_gatherShifts 91 1 3 := ⟨36, 7, R_Ag, "PhotoModels$Agreement", F_Ag, by decide +kernel, tx1 114 rfl rfl, i_Ag, rfl, rfl, by decide⟩
theorem d_Ag_gatherShifts_94 : decode k_Ag_gatherShifts.code 94 = .ok (.iconst 1, 1) := by decide +kernel
theorem d_Ag_gatherShifts_95 : decode k_Ag_gatherShifts.code 95 = .ok (.iadd, 1) := by decide +kernel
theorem p_Ag_gatherShifts_96 : SiteP k_Ag_gatherShifts 96 1 3 .int := ⟨36, 7, R_Ag, "PhotoModels$Agreement", F_Ag, t_Ag, t_Ag_ok, n_Ag, by decide +kernel, tx1 114 rfl rfl, i_Ag, rfl, Or.inl rfl, rfl, by decide, rfl⟩
theorem d_Ag_gatherShifts_99 : decode k_Ag_gatherShifts.code 99 = .ok (.iinc 4 1, 3) := by decide +kernel
theorem d_Ag_gatherShifts_102 : decode k_Ag_gatherShifts.code 102 = .ok (.goto (-94), 3) := by decide +kernel
theorem d_Ag_gatherShifts_105 : decode k_Ag_gatherShifts.code 105 = .ok (.return_, 1) := by decide +kernel
theorem d_Ag_drawnNumber_0 : decode k_Ag_drawnNumber.code 0 = .ok (.aload_n 0, 1) := by decide +kernel
theorem g_Ag_drawnNumber_1 : SiteG k_Ag_drawnNumber 1 1 0 := ⟨18, 7, R_Ag, "PhotoModels$Agreement", F_Ag, by decide +kernel, tx1 111 rfl rfl, i_Ag, rfl, rfl, by decide⟩
theorem d_Ag_drawnNumber_4 : decode k_Ag_drawnNumber.code 4 = .ok (.bipush 101, 2) := by decide +kernel
theorem d_Ag_drawnNumber_6 : decode k_Ag_drawnNumber.code 6 = .ok (.iload_n 1, 1) := by decide +kernel
theorem d_Ag_drawnNumber_7 : decode k_Ag_drawnNumber.code 7 = .ok (.imul, 1) := by decide +kernel
theorem d_Ag_drawnNumber_8 : decode k_Ag_drawnNumber.code 8 = .ok (.iadd, 1) := by decide +kernel
theorem d_Ag_drawnNumber_9 : decode k_Ag_drawnNumber.code 9 = .ok (.ldc 65, 2) := by decide +kernel
theorem c_Ag_drawnNumber_9 : Cond.constant k_Ag_drawnNumber.y.cls 65 65537 ∈ tw := tx3 28 rfl rfl
theorem d_Ag_drawnNumber_11 : decode k_Ag_drawnNumber.code 11 = .ok (.irem, 1) := by decide +kernel
theorem d_Ag_drawnNumber_12 : decode k_Ag_drawnNumber.code 12 = .ok (.istore_n 2, 1) := by decide +kernel
theorem d_Ag_drawnNumber_13 : decode k_Ag_drawnNumber.code 13 = .ok (.iconst 0, 1) := by decide +kernel
theorem d_Ag_drawnNumber_14 : decode k_Ag_drawnNumber.code 14 = .ok (.istore_n 3, 1) := by decide +kernel
theorem d_Ag_drawnNumber_15 : decode k_Ag_drawnNumber.code 15 = .ok (.iload_n 3, 1) := by decide +kernel
theorem d_Ag_drawnNumber_16 : decode k_Ag_drawnNumber.code 16 = .ok (.iconst 3, 1) := by decide +kernel
theorem d_Ag_drawnNumber_17 : decode k_Ag_drawnNumber.code 17 = .ok (.if_icmp .ge 20, 3) := by decide +kernel
theorem d_Ag_drawnNumber_20 : decode k_Ag_drawnNumber.code 20 = .ok (.bipush 75, 2) := by decide +kernel
theorem d_Ag_drawnNumber_22 : decode k_Ag_drawnNumber.code 22 = .ok (.iload_n 2, 1) := by decide +kernel
theorem d_Ag_drawnNumber_23 : decode k_Ag_drawnNumber.code 23 = .ok (.imul, 1) := by decide +kernel
theorem d_Ag_drawnNumber_24 : decode k_Ag_drawnNumber.code 24 = .ok (.bipush 74, 2) := by decide +kernel
theorem d_Ag_drawnNumber_26 : decode k_Ag_drawnNumber.code 26 = .ok (.iadd, 1) := by decide +kernel
theorem d_Ag_drawnNumber_27 : decode k_Ag_drawnNumber.code 27 = .ok (.ldc 65, 2) := by decide +kernel
theorem c_Ag_drawnNumber_27 : Cond.constant k_Ag_drawnNumber.y.cls 65 65537 ∈ tw := tx3 28 rfl rfl
theorem d_Ag_drawnNumber_29 : decode k_Ag_drawnNumber.code 29 = .ok (.irem, 1) := by decide +kernel
theorem d_Ag_drawnNumber_30 : decode k_Ag_drawnNumber.code 30 = .ok (.istore_n 2, 1) := by decide +kernel
theorem d_Ag_drawnNumber_31 : decode k_Ag_drawnNumber.code 31 = .ok (.iinc 3 1, 3) := by decide +kernel
theorem d_Ag_drawnNumber_34 : decode k_Ag_drawnNumber.code 34 = .ok (.goto (-19), 3) := by decide +kernel
theorem d_Ag_drawnNumber_37 : decode k_Ag_drawnNumber.code 37 = .ok (.iload_n 2, 1) := by decide +kernel
theorem d_Ag_drawnNumber_38 : decode k_Ag_drawnNumber.code 38 = .ok (.ireturn, 1) := by decide +kernel
theorem d_Ag_agreeingWith_0 : decode k_Ag_agreeingWith.code 0 = .ok (.iconst 0, 1) := by decide +kernel
theorem d_Ag_agreeingWith_1 : decode k_Ag_agreeingWith.code 1 = .ok (.istore_n 3, 1) := by decide +kernel
theorem d_Ag_agreeingWith_2 : decode k_Ag_agreeingWith.code 2 = .ok (.iconst 0, 1) := by decide +kernel
theorem d_Ag_agreeingWith_3 : decode k_Ag_agreeingWith.code 3 = .ok (.istore 4, 2) := by decide +kernel
theorem d_Ag_agreeingWith_5 : decode k_Ag_agreeingWith.code 5 = .ok (.iload 4, 2) := by decide +kernel
theorem d_Ag_agreeingWith_7 : decode k_Ag_agreeingWith.code 7 = .ok (.aload_n 0, 1) := by decide +kernel
theorem g_Ag_agreeingWith_8 : SiteG k_Ag_agreeingWith 8 1 3 := ⟨36, 7, R_Ag, "PhotoModels$Agreement", F_Ag, by decide +kernel, tx1 114 rfl rfl, i_Ag, rfl, rfl, by decide⟩
theorem d_Ag_agreeingWith_11 : decode k_Ag_agreeingWith.code 11 = .ok (.if_icmp .ge 54, 3) := by decide +kernel
theorem d_Ag_agreeingWith_14 : decode k_Ag_agreeingWith.code 14 = .ok (.aload_n 0, 1) := by decide +kernel
theorem g_Ag_agreeingWith_15 : SiteG k_Ag_agreeingWith 15 1 1 := ⟨9, 7, R_Ag, "PhotoModels$Agreement", F_Ag, by decide +kernel, tx1 112 rfl rfl, i_Ag, rfl, rfl, by decide⟩
theorem d_Ag_agreeingWith_18 : decode k_Ag_agreeingWith.code 18 = .ok (.iload 4, 2) := by decide +kernel
theorem d_Ag_agreeingWith_20 : decode k_Ag_agreeingWith.code 20 = .ok (.iaload, 1) := by decide +kernel
theorem d_Ag_agreeingWith_21 : decode k_Ag_agreeingWith.code 21 = .ok (.aload_n 0, 1) := by decide +kernel
theorem g_Ag_agreeingWith_22 : SiteG k_Ag_agreeingWith 22 1 1 := ⟨9, 7, R_Ag, "PhotoModels$Agreement", F_Ag, by decide +kernel, tx1 112 rfl rfl, i_Ag, rfl, rfl, by decide⟩
theorem d_Ag_agreeingWith_25 : decode k_Ag_agreeingWith.code 25 = .ok (.iload_n 1, 1) := by decide +kernel
theorem d_Ag_agreeingWith_26 : decode k_Ag_agreeingWith.code 26 = .ok (.iaload, 1) := by decide +kernel
theorem d_Ag_agreeingWith_27 : decode k_Ag_agreeingWith.code 27 = .ok (.isub, 1) := by decide +kernel
theorem s_Ag_agreeingWith_28 : SiteM k_Ag_agreeingWith 28 Lib.Math.abs.name Lib.Math.abs.code 1 := ⟨60, by decide +kernel, tx3 33 rfl rfl, tx2 177 rfl rfl, tx1 2 rfl rfl, tx2 178 rfl rfl, by decide, by decide⟩
theorem d_Ag_agreeingWith_31 : decode k_Ag_agreeingWith.code 31 = .ok (.iload_n 2, 1) := by decide +kernel
theorem d_Ag_agreeingWith_32 : decode k_Ag_agreeingWith.code 32 = .ok (.if_icmp .gt 27, 3) := by decide +kernel
theorem d_Ag_agreeingWith_35 : decode k_Ag_agreeingWith.code 35 = .ok (.aload_n 0, 1) := by decide +kernel
theorem g_Ag_agreeingWith_36 : SiteG k_Ag_agreeingWith 36 1 2 := ⟨15, 7, R_Ag, "PhotoModels$Agreement", F_Ag, by decide +kernel, tx1 113 rfl rfl, i_Ag, rfl, rfl, by decide⟩
theorem d_Ag_agreeingWith_39 : decode k_Ag_agreeingWith.code 39 = .ok (.iload 4, 2) := by decide +kernel
theorem d_Ag_agreeingWith_41 : decode k_Ag_agreeingWith.code 41 = .ok (.iaload, 1) := by decide +kernel
theorem d_Ag_agreeingWith_42 : decode k_Ag_agreeingWith.code 42 = .ok (.aload_n 0, 1) := by decide +kernel
theorem g_Ag_agreeingWith_43 : SiteG k_Ag_agreeingWith 43 1 2 := ⟨15, 7, R_Ag, "PhotoModels$Agreement", F_Ag, by decide +kernel, tx1 113 rfl rfl, i_Ag, rfl, rfl, by decide⟩
theorem d_Ag_agreeingWith_46 : decode k_Ag_agreeingWith.code 46 = .ok (.iload_n 1, 1) := by decide +kernel
theorem d_Ag_agreeingWith_47 : decode k_Ag_agreeingWith.code 47 = .ok (.iaload, 1) := by decide +kernel
theorem d_Ag_agreeingWith_48 : decode k_Ag_agreeingWith.code 48 = .ok (.isub, 1) := by decide +kernel
theorem s_Ag_agreeingWith_49 : SiteM k_Ag_agreeingWith 49 Lib.Math.abs.name Lib.Math.abs.code 1 := ⟨60, by decide +kernel, tx3 33 rfl rfl, tx2 177 rfl rfl, tx1 2 rfl rfl, tx2 178 rfl rfl, by decide, by decide⟩
theorem d_Ag_agreeingWith_52 : decode k_Ag_agreeingWith.code 52 = .ok (.iload_n 2, 1) := by decide +kernel
theorem d_Ag_agreeingWith_53 : decode k_Ag_agreeingWith.code 53 = .ok (.if_icmp .gt 6, 3) := by decide +kernel
theorem d_Ag_agreeingWith_56 : decode k_Ag_agreeingWith.code 56 = .ok (.iinc 3 1, 3) := by decide +kernel
theorem d_Ag_agreeingWith_59 : decode k_Ag_agreeingWith.code 59 = .ok (.iinc 4 1, 3) := by decide +kernel
theorem d_Ag_agreeingWith_62 : decode k_Ag_agreeingWith.code 62 = .ok (.goto (-57), 3) := by decide +kernel
theorem d_Ag_agreeingWith_65 : decode k_Ag_agreeingWith.code 65 = .ok (.iload_n 3, 1) := by decide +kernel
theorem d_Ag_agreeingWith_66 : decode k_Ag_agreeingWith.code 66 = .ok (.ireturn, 1) := by decide +kernel
theorem d_Ag_isReached_0 : decode k_Ag_isReached.code 0 = .ok (.aload_n 0, 1) := by decide +kernel
theorem g_Ag_isReached_1 : SiteG k_Ag_isReached 1 1 4 := ⟨22, 7, R_Ag, "PhotoModels$Agreement", F_Ag, by decide +kernel, tx1 115 rfl rfl, i_Ag, rfl, rfl, by decide⟩
theorem d_Ag_isReached_4 : decode k_Ag_isReached.code 4 = .ok (.ireturn, 1) := by decide +kernel
theorem d_Ag_along_0 : decode k_Ag_along.code 0 = .ok (.iload_n 1, 1) := by decide +kernel
theorem d_Ag_along_1 : decode k_Ag_along.code 1 = .ok (.ifCond .ne 10, 3) := by decide +kernel
theorem d_Ag_along_4 : decode k_Ag_along.code 4 = .ok (.aload_n 0, 1) := by decide +kernel
theorem g_Ag_along_5 : SiteG k_Ag_along 5 1 5 := ⟨26, 7, R_Ag, "PhotoModels$Agreement", F_Ag, by decide +kernel, tx1 116 rfl rfl, i_Ag, rfl, rfl, by decide⟩
theorem d_Ag_along_8 : decode k_Ag_along.code 8 = .ok (.goto 7, 3) := by decide +kernel
theorem d_Ag_along_11 : decode k_Ag_along.code 11 = .ok (.aload_n 0, 1) := by decide +kernel
theorem g_Ag_along_12 : SiteG k_Ag_along 12 1 6 := ⟨29, 7, R_Ag, "PhotoModels$Agreement", F_Ag, by decide +kernel, tx1 117 rfl rfl, i_Ag, rfl, rfl, by decide⟩
theorem d_Ag_along_15 : decode k_Ag_along.code 15 = .ok (.ireturn, 1) := by decide +kernel
theorem d_Ad_adjust_0 : decode k_Ad_adjust.code 0 = .ok (.aload_n 0, 1) := by decide +kernel
theorem d_Ad_adjust_1 : decode k_Ad_adjust.code 1 = .ok (.aload_n 1, 1) := by decide +kernel
theorem s_Ad_adjust_2 : SiteV k_Ad_adjust k_Ad_begin 2 0 1 := ⟨24, (R_Ad, F_Ad, 4), by decide +kernel, ⟨kw_Ad_begin, tx1 7 rfl rfl, by decide, by decide⟩, tx3 74 rfl rfl, tx3 76 rfl rfl, twp 7 rfl rfl, rfl, ⟨by decide +kernel, by decide +kernel⟩, np_Ad_begin⟩
theorem d_Ad_adjust_5 : decode k_Ad_adjust.code 5 = .ok (.aload_n 0, 1) := by decide +kernel
theorem d_Ad_adjust_6 : decode k_Ad_adjust.code 6 = .ok (.aload_n 1, 1) := by decide +kernel
theorem s_Ad_adjust_7 : SiteV k_Ad_adjust k_Ad_total 7 0 1 := ⟨28, (R_Ad, F_Ad, 4), by decide +kernel, ⟨kw_Ad_total, tx1 7 rfl rfl, by decide, by decide⟩, tx3 95 rfl rfl, tx1 235 rfl rfl, tx1 236 rfl rfl, rfl, ⟨by decide +kernel, by decide +kernel⟩, np_Ad_total⟩
theorem d_Ad_adjust_10 : decode k_Ad_adjust.code 10 = .ok (.lstore_n 3, 1) := by decide +kernel
theorem d_Ad_adjust_11 : decode k_Ad_adjust.code 11 = .ok (.iconst 0, 1) := by decide +kernel
theorem d_Ad_adjust_12 : decode k_Ad_adjust.code 12 = .ok (.istore 5, 2) := by decide +kernel
theorem d_Ad_adjust_14 : decode k_Ad_adjust.code 14 = .ok (.iload 5, 2) := by decide +kernel
theorem d_Ad_adjust_16 : decode k_Ad_adjust.code 16 = .ok (.iload_n 2, 1) := by decide +kernel
theorem d_Ad_adjust_17 : decode k_Ad_adjust.code 17 = .ok (.if_icmp .ge 42, 3) := by decide +kernel
theorem d_Ad_adjust_20 : decode k_Ad_adjust.code 20 = .ok (.aload_n 0, 1) := by decide +kernel
theorem s_Ad_adjust_21 : SiteV k_Ad_adjust k_Ad_remember 21 0 0 := ⟨32, (R_Ad, F_Ad, 4), by decide +kernel, ⟨kw_Ad_remember, tx1 7 rfl rfl, by decide, by decide⟩, tx3 96 rfl rfl, tx3 98 rfl rfl, twp 10 rfl rfl, rfl, ⟨by decide +kernel, by decide +kernel⟩, np_Ad_remember⟩
theorem d_Ad_adjust_24 : decode k_Ad_adjust.code 24 = .ok (.aload_n 0, 1) := by decide +kernel
theorem d_Ad_adjust_25 : decode k_Ad_adjust.code 25 = .ok (.aload_n 1, 1) := by decide +kernel
theorem s_Ad_adjust_26 : SiteV k_Ad_adjust k_Ad_doRound 26 0 1 := ⟨35, (R_Ad, F_Ad, 4), by decide +kernel, ⟨kw_Ad_doRound, tx1 7 rfl rfl, by decide, by decide⟩, tx3 103 rfl rfl, tx3 105 rfl rfl, twp 11 rfl rfl, rfl, ⟨by decide +kernel, by decide +kernel⟩, np_Ad_doRound⟩
theorem d_Ad_adjust_29 : decode k_Ad_adjust.code 29 = .ok (.aload_n 0, 1) := by decide +kernel
theorem d_Ad_adjust_30 : decode k_Ad_adjust.code 30 = .ok (.aload_n 1, 1) := by decide +kernel
theorem s_Ad_adjust_31 : SiteV k_Ad_adjust k_Ad_total 31 0 1 := ⟨28, (R_Ad, F_Ad, 4), by decide +kernel, ⟨kw_Ad_total, tx1 7 rfl rfl, by decide, by decide⟩, tx3 95 rfl rfl, tx1 235 rfl rfl, tx1 236 rfl rfl, rfl, ⟨by decide +kernel, by decide +kernel⟩, np_Ad_total⟩
theorem d_Ad_adjust_34 : decode k_Ad_adjust.code 34 = .ok (.lstore 6, 2) := by decide +kernel
theorem d_Ad_adjust_36 : decode k_Ad_adjust.code 36 = .ok (.lload 6, 2) := by decide +kernel
theorem d_Ad_adjust_38 : decode k_Ad_adjust.code 38 = .ok (.lload_n 3, 1) := by decide +kernel
theorem d_Ad_adjust_39 : decode k_Ad_adjust.code 39 = .ok (.lcmp, 1) := by decide +kernel
theorem d_Ad_adjust_40 : decode k_Ad_adjust.code 40 = .ok (.ifCond .le 10, 3) := by decide +kernel
theorem d_Ad_adjust_43 : decode k_Ad_adjust.code 43 = .ok (.aload_n 0, 1) := by decide +kernel
theorem s_Ad_adjust_44 : SiteV k_Ad_adjust k_Ad_undo 44 0 0 := ⟨38, (R_Ad, F_Ad, 4), by decide +kernel, ⟨kw_Ad_undo, tx1 7 rfl rfl, by decide, by decide⟩, tx3 111 rfl rfl, tx3 113 rfl rfl, twp 13 rfl rfl, rfl, ⟨by decide +kernel, by decide +kernel⟩, np_Ad_undo⟩
theorem d_Ad_adjust_47 : decode k_Ad_adjust.code 47 = .ok (.iload 5, 2) := by decide +kernel
theorem d_Ad_adjust_49 : decode k_Ad_adjust.code 49 = .ok (.ireturn, 1) := by decide +kernel
theorem d_Ad_adjust_50 : decode k_Ad_adjust.code 50 = .ok (.lload 6, 2) := by decide +kernel
theorem d_Ad_adjust_52 : decode k_Ad_adjust.code 52 = .ok (.lstore_n 3, 1) := by decide +kernel
theorem d_Ad_adjust_53 : decode k_Ad_adjust.code 53 = .ok (.iinc 5 1, 3) := by decide +kernel
theorem d_Ad_adjust_56 : decode k_Ad_adjust.code 56 = .ok (.goto (-42), 3) := by decide +kernel
theorem d_Ad_adjust_59 : decode k_Ad_adjust.code 59 = .ok (.iload_n 2, 1) := by decide +kernel
theorem d_Ad_adjust_60 : decode k_Ad_adjust.code 60 = .ok (.ireturn, 1) := by decide +kernel
theorem d_Ad_begin_0 : decode k_Ad_begin.code 0 = .ok (.aload_n 0, 1) := by decide +kernel
theorem g_Ad_begin_1 : SiteG k_Ad_begin 1 0 1 := ⟨15, 4, R_Ad, "PhotoModels$Adjustment", F_Ad, by decide +kernel, tx1 140 rfl rfl, i_Ad, rfl, rfl, by decide⟩
theorem d_Ad_begin_4 : decode k_Ad_begin.code 4 = .ok (.iconst 0, 1) := by decide +kernel
theorem s_Ad_begin_5 : SiteS k_Ad_begin k_Arr_fill 5 2 := ⟨72, by decide +kernel, ⟨kw_Arr_fill, tx1 17 rfl rfl, by decide, by decide⟩, Or.inl (tx3 78 rfl rfl), tx3 79 rfl rfl, ⟨by decide +kernel, by decide +kernel⟩, np_Arr_fill⟩
theorem d_Ad_begin_8 : decode k_Ad_begin.code 8 = .ok (.aload_n 0, 1) := by decide +kernel
theorem d_Ad_begin_9 : decode k_Ad_begin.code 9 = .ok (.aload_n 1, 1) := by decide +kernel
theorem s_Ad_begin_10 : SiteV k_Ad_begin k_Ad_movePlaces 10 0 1 := ⟨78, (R_Ad, F_Ad, 4), by decide +kernel, ⟨kw_Ad_movePlaces, tx1 7 rfl rfl, by decide, by decide⟩, tx3 81 rfl rfl, tx3 83 rfl rfl, twp 8 rfl rfl, rfl, ⟨by decide +kernel, by decide +kernel⟩, np_Ad_movePlaces⟩
theorem d_Ad_begin_13 : decode k_Ad_begin.code 13 = .ok (.return_, 1) := by decide +kernel
theorem d_Ad_movePlaces_0 : decode k_Ad_movePlaces.code 0 = .ok (.iconst 0, 1) := by decide +kernel
theorem d_Ad_movePlaces_1 : decode k_Ad_movePlaces.code 1 = .ok (.istore_n 2, 1) := by decide +kernel
theorem d_Ad_movePlaces_2 : decode k_Ad_movePlaces.code 2 = .ok (.iload_n 2, 1) := by decide +kernel
theorem d_Ad_movePlaces_3 : decode k_Ad_movePlaces.code 3 = .ok (.aload_n 1, 1) := by decide +kernel
theorem s_Ad_movePlaces_4 : SiteV k_Ad_movePlaces k_Pl_number 4 4 0 := ⟨41, (R_Pl, F_Pl, 5), by decide +kernel, ⟨kw_Pl_number, tx1 5 rfl rfl, by decide, by decide⟩, tx1 238 rfl rfl, tx1 239 rfl rfl, tx2 0 rfl rfl, rfl, ⟨by decide +kernel, by decide +kernel⟩, np_Pl_number⟩
theorem d_Ad_movePlaces_7 : decode k_Ad_movePlaces.code 7 = .ok (.if_icmp .ge 29, 3) := by decide +kernel
theorem d_Ad_movePlaces_10 : decode k_Ad_movePlaces.code 10 = .ok (.iconst 0, 1) := by decide +kernel
theorem d_Ad_movePlaces_11 : decode k_Ad_movePlaces.code 11 = .ok (.istore_n 3, 1) := by decide +kernel
theorem d_Ad_movePlaces_12 : decode k_Ad_movePlaces.code 12 = .ok (.iload_n 3, 1) := by decide +kernel
theorem d_Ad_movePlaces_13 : decode k_Ad_movePlaces.code 13 = .ok (.iconst 2, 1) := by decide +kernel
theorem d_Ad_movePlaces_14 : decode k_Ad_movePlaces.code 14 = .ok (.if_icmp .ge 16, 3) := by decide +kernel
theorem d_Ad_movePlaces_17 : decode k_Ad_movePlaces.code 17 = .ok (.aload_n 0, 1) := by decide +kernel
theorem d_Ad_movePlaces_18 : decode k_Ad_movePlaces.code 18 = .ok (.aload_n 1, 1) := by decide +kernel
theorem d_Ad_movePlaces_19 : decode k_Ad_movePlaces.code 19 = .ok (.iload_n 2, 1) := by decide +kernel
theorem d_Ad_movePlaces_20 : decode k_Ad_movePlaces.code 20 = .ok (.iload_n 3, 1) := by decide +kernel
theorem s_Ad_movePlaces_21 : SiteV k_Ad_movePlaces k_Ad_movePlace 21 0 3 := ⟨89, (R_Ad, F_Ad, 4), by decide +kernel, ⟨kw_Ad_movePlace, tx1 7 rfl rfl, by decide, by decide⟩, tx3 85 rfl rfl, tx3 87 rfl rfl, twp 9 rfl rfl, rfl, ⟨by decide +kernel, by decide +kernel⟩, np_Ad_movePlace⟩
theorem d_Ad_movePlaces_24 : decode k_Ad_movePlaces.code 24 = .ok (.iinc 3 1, 3) := by decide +kernel
theorem d_Ad_movePlaces_27 : decode k_Ad_movePlaces.code 27 = .ok (.goto (-15), 3) := by decide +kernel
theorem d_Ad_movePlaces_30 : decode k_Ad_movePlaces.code 30 = .ok (.iinc 2 1, 3) := by decide +kernel
theorem d_Ad_movePlaces_33 : decode k_Ad_movePlaces.code 33 = .ok (.goto (-31), 3) := by decide +kernel
theorem d_Ad_movePlaces_36 : decode k_Ad_movePlaces.code 36 = .ok (.return_, 1) := by decide +kernel
theorem d_Ad_movePlace_0 : decode k_Ad_movePlace.code 0 = .ok (.lconst 0, 1) := by decide +kernel
theorem d_Ad_movePlace_1 : decode k_Ad_movePlace.code 1 = .ok (.lstore 4, 2) := by decide +kernel
theorem d_Ad_movePlace_3 : decode k_Ad_movePlace.code 3 = .ok (.iconst 0, 1) := by decide +kernel
theorem d_Ad_movePlace_4 : decode k_Ad_movePlace.code 4 = .ok (.istore 6, 2) := by decide +kernel
theorem d_Ad_movePlace_6 : decode k_Ad_movePlace.code 6 = .ok (.iconst 0, 1) := by decide +kernel
theorem d_Ad_movePlace_7 : decode k_Ad_movePlace.code 7 = .ok (.istore 7, 2) := by decide +kernel
theorem d_Ad_movePlace_9 : decode k_Ad_movePlace.code 9 = .ok (.iload 7, 2) := by decide +kernel
theorem d_Ad_movePlace_11 : decode k_Ad_movePlace.code 11 = .ok (.iconst 4, 1) := by decide +kernel
theorem d_Ad_movePlace_12 : decode k_Ad_movePlace.code 12 = .ok (.if_icmp .ge 49, 3) := by decide +kernel
theorem d_Ad_movePlace_15 : decode k_Ad_movePlace.code 15 = .ok (.aload_n 1, 1) := by decide +kernel
theorem d_Ad_movePlace_16 : decode k_Ad_movePlace.code 16 = .ok (.iload_n 2, 1) := by decide +kernel
theorem d_Ad_movePlace_17 : decode k_Ad_movePlace.code 17 = .ok (.iload 7, 2) := by decide +kernel
theorem s_Ad_movePlace_19 : SiteV k_Ad_movePlace k_Pl_isNoted 19 4 2 := ⟨55, (R_Pl, F_Pl, 5), by decide +kernel, ⟨kw_Pl_isNoted, tx1 5 rfl rfl, by decide, by decide⟩, tx2 10 rfl rfl, tx2 11 rfl rfl, tx2 12 rfl rfl, rfl, ⟨by decide +kernel, by decide +kernel⟩, np_Pl_isNoted⟩
theorem d_Ad_movePlace_22 : decode k_Ad_movePlace.code 22 = .ok (.ifCond .eq 33, 3) := by decide +kernel
theorem d_Ad_movePlace_25 : decode k_Ad_movePlace.code 25 = .ok (.lload 4, 2) := by decide +kernel
theorem d_Ad_movePlace_27 : decode k_Ad_movePlace.code 27 = .ok (.ldc2_w 59, 3) := by decide +kernel
theorem c_Ad_movePlace_27 : Cond.constantLong k_Ad_movePlace.y.cls 59 1000 ∈ tw := tx2 14 rfl rfl
theorem d_Ad_movePlace_30 : decode k_Ad_movePlace.code 30 = .ok (.aload_n 1, 1) := by decide +kernel
theorem d_Ad_movePlace_31 : decode k_Ad_movePlace.code 31 = .ok (.iload_n 2, 1) := by decide +kernel
theorem d_Ad_movePlace_32 : decode k_Ad_movePlace.code 32 = .ok (.iload 7, 2) := by decide +kernel
theorem d_Ad_movePlace_34 : decode k_Ad_movePlace.code 34 = .ok (.iload_n 3, 1) := by decide +kernel
theorem s_Ad_movePlace_35 : SiteV k_Ad_movePlace k_Pl_where 35 4 3 := ⟨61, (R_Pl, F_Pl, 5), by decide +kernel, ⟨kw_Pl_where, tx1 5 rfl rfl, by decide, by decide⟩, tx2 15 rfl rfl, tx2 16 rfl rfl, tx2 17 rfl rfl, rfl, ⟨by decide +kernel, by decide +kernel⟩, np_Pl_where⟩
theorem d_Ad_movePlace_38 : decode k_Ad_movePlace.code 38 = .ok (.i2l, 1) := by decide +kernel
theorem d_Ad_movePlace_39 : decode k_Ad_movePlace.code 39 = .ok (.lmul, 1) := by decide +kernel
theorem d_Ad_movePlace_40 : decode k_Ad_movePlace.code 40 = .ok (.aload_n 0, 1) := by decide +kernel
theorem d_Ad_movePlace_41 : decode k_Ad_movePlace.code 41 = .ok (.iload 7, 2) := by decide +kernel
theorem d_Ad_movePlace_43 : decode k_Ad_movePlace.code 43 = .ok (.iload_n 3, 1) := by decide +kernel
theorem s_Ad_movePlace_44 : SiteV k_Ad_movePlace k_Ad_moved 44 0 2 := ⟨69, (R_Ad, F_Ad, 4), by decide +kernel, ⟨kw_Ad_moved, tx1 7 rfl rfl, by decide, by decide⟩, tx2 23 rfl rfl, tx2 24 rfl rfl, tx2 25 rfl rfl, rfl, ⟨by decide +kernel, by decide +kernel⟩, np_Ad_moved⟩
theorem d_Ad_movePlace_47 : decode k_Ad_movePlace.code 47 = .ok (.i2l, 1) := by decide +kernel
theorem d_Ad_movePlace_48 : decode k_Ad_movePlace.code 48 = .ok (.lsub, 1) := by decide +kernel
theorem d_Ad_movePlace_49 : decode k_Ad_movePlace.code 49 = .ok (.ladd, 1) := by decide +kernel
theorem d_Ad_movePlace_50 : decode k_Ad_movePlace.code 50 = .ok (.lstore 4, 2) := by decide +kernel
theorem d_Ad_movePlace_52 : decode k_Ad_movePlace.code 52 = .ok (.iinc 6 1, 3) := by decide +kernel
theorem d_Ad_movePlace_55 : decode k_Ad_movePlace.code 55 = .ok (.iinc 7 1, 3) := by decide +kernel
theorem d_Ad_movePlace_58 : decode k_Ad_movePlace.code 58 = .ok (.goto (-49), 3) := by decide +kernel
theorem d_Ad_movePlace_61 : decode k_Ad_movePlace.code 61 = .ok (.aload_n 0, 1) := by decide +kernel
theorem g_Ad_movePlace_62 : SiteG k_Ad_movePlace 62 0 0 := ⟨9, 4, R_Ad, "PhotoModels$Adjustment", F_Ad, by decide +kernel, tx1 139 rfl rfl, i_Ad, rfl, rfl, by decide⟩
theorem d_Ad_movePlace_65 : decode k_Ad_movePlace.code 65 = .ok (.iload_n 2, 1) := by decide +kernel
theorem d_Ad_movePlace_66 : decode k_Ad_movePlace.code 66 = .ok (.iconst 2, 1) := by decide +kernel
theorem d_Ad_movePlace_67 : decode k_Ad_movePlace.code 67 = .ok (.imul, 1) := by decide +kernel
theorem d_Ad_movePlace_68 : decode k_Ad_movePlace.code 68 = .ok (.iload_n 3, 1) := by decide +kernel
theorem d_Ad_movePlace_69 : decode k_Ad_movePlace.code 69 = .ok (.iadd, 1) := by decide +kernel
theorem d_Ad_movePlace_70 : decode k_Ad_movePlace.code 70 = .ok (.lload 4, 2) := by decide +kernel
theorem d_Ad_movePlace_72 : decode k_Ad_movePlace.code 72 = .ok (.iload 6, 2) := by decide +kernel
theorem d_Ad_movePlace_74 : decode k_Ad_movePlace.code 74 = .ok (.iconst 0, 1) := by decide +kernel
theorem s_Ad_movePlace_75 : SiteS k_Ad_movePlace k_Ad_mean 75 3 := ⟨85, by decide +kernel, ⟨kw_Ad_mean, tx1 7 rfl rfl, by decide, by decide⟩, Or.inl (tx3 89 rfl rfl), tx3 90 rfl rfl, ⟨by decide +kernel, by decide +kernel⟩, np_Ad_mean⟩
theorem d_Ad_movePlace_78 : decode k_Ad_movePlace.code 78 = .ok (.iastore, 1) := by decide +kernel
theorem d_Ad_movePlace_79 : decode k_Ad_movePlace.code 79 = .ok (.return_, 1) := by decide +kernel
theorem d_Ad_mean_0 : decode k_Ad_mean.code 0 = .ok (.iload_n 2, 1) := by decide +kernel
theorem d_Ad_mean_1 : decode k_Ad_mean.code 1 = .ok (.ifCond .ne 7, 3) := by decide +kernel
theorem d_Ad_mean_4 : decode k_Ad_mean.code 4 = .ok (.iload_n 3, 1) := by decide +kernel
theorem d_Ad_mean_5 : decode k_Ad_mean.code 5 = .ok (.goto 10, 3) := by decide +kernel
theorem d_Ad_mean_8 : decode k_Ad_mean.code 8 = .ok (.lload_n 0, 1) := by decide +kernel
theorem d_Ad_mean_9 : decode k_Ad_mean.code 9 = .ok (.iload_n 2, 1) := by decide +kernel
theorem d_Ad_mean_10 : decode k_Ad_mean.code 10 = .ok (.i2l, 1) := by decide +kernel
theorem s_Ad_mean_11 : SiteS k_Ad_mean k_Math_floorDiv 11 2 := ⟨92, by decide +kernel, ⟨kw_Math_floorDiv, tx1 2 rfl rfl, by decide, by decide⟩, Or.inl (tx3 92 rfl rfl), tx3 93 rfl rfl, ⟨by decide +kernel, by decide +kernel⟩, np_Math_floorDiv⟩
theorem d_Ad_mean_14 : decode k_Ad_mean.code 14 = .ok (.l2i, 1) := by decide +kernel
theorem d_Ad_mean_15 : decode k_Ad_mean.code 15 = .ok (.ireturn, 1) := by decide +kernel
theorem d_Ad_remember_0 : decode k_Ad_remember.code 0 = .ok (.aload_n 0, 1) := by decide +kernel
theorem g_Ad_remember_1 : SiteG k_Ad_remember 1 0 0 := ⟨9, 4, R_Ad, "PhotoModels$Adjustment", F_Ad, by decide +kernel, tx1 139 rfl rfl, i_Ad, rfl, rfl, by decide⟩
theorem d_Ad_remember_4 : decode k_Ad_remember.code 4 = .ok (.iconst 0, 1) := by decide +kernel
theorem d_Ad_remember_5 : decode k_Ad_remember.code 5 = .ok (.aload_n 0, 1) := by decide +kernel
theorem g_Ad_remember_6 : SiteG k_Ad_remember 6 0 2 := ⟨18, 4, R_Ad, "PhotoModels$Adjustment", F_Ad, by decide +kernel, tx1 141 rfl rfl, i_Ad, rfl, rfl, by decide⟩
theorem d_Ad_remember_9 : decode k_Ad_remember.code 9 = .ok (.iconst 0, 1) := by decide +kernel
theorem d_Ad_remember_10 : decode k_Ad_remember.code 10 = .ok (.aload_n 0, 1) := by decide +kernel
theorem g_Ad_remember_11 : SiteG k_Ad_remember 11 0 0 := ⟨9, 4, R_Ad, "PhotoModels$Adjustment", F_Ad, by decide +kernel, tx1 139 rfl rfl, i_Ad, rfl, rfl, by decide⟩
theorem d_Ad_remember_14 : decode k_Ad_remember.code 14 = .ok (.arraylength, 1) := by decide +kernel
theorem s_Ad_remember_15 : SiteC k_Ad_remember 15 := ⟨98, by decide +kernel, tx3 100 rfl rfl, tx3 102 rfl rfl, tx3 101 rfl rfl, tx1 18 rfl rfl, by decide, by decide⟩
theorem d_Ad_remember_18 : decode k_Ad_remember.code 18 = .ok (.aload_n 0, 1) := by decide +kernel
theorem g_Ad_remember_19 : SiteG k_Ad_remember 19 0 1 := ⟨15, 4, R_Ad, "PhotoModels$Adjustment", F_Ad, by decide +kernel, tx1 140 rfl rfl, i_Ad, rfl, rfl, by decide⟩
theorem d_Ad_remember_22 : decode k_Ad_remember.code 22 = .ok (.iconst 0, 1) := by decide +kernel
theorem d_Ad_remember_23 : decode k_Ad_remember.code 23 = .ok (.aload_n 0, 1) := by decide +kernel
theorem g_Ad_remember_24 : SiteG k_Ad_remember 24 0 3 := ⟨21, 4, R_Ad, "PhotoModels$Adjustment", F_Ad, by decide +kernel, tx1 142 rfl rfl, i_Ad, rfl, rfl, by decide⟩
theorem d_Ad_remember_27 : decode k_Ad_remember.code 27 = .ok (.iconst 0, 1) := by decide +kernel
theorem d_Ad_remember_28 : decode k_Ad_remember.code 28 = .ok (.aload_n 0, 1) := by decide +kernel
theorem g_Ad_remember_29 : SiteG k_Ad_remember 29 0 1 := ⟨15, 4, R_Ad, "PhotoModels$Adjustment", F_Ad, by decide +kernel, tx1 140 rfl rfl, i_Ad, rfl, rfl, by decide⟩
theorem d_Ad_remember_32 : decode k_Ad_remember.code 32 = .ok (.arraylength, 1) := by decide +kernel
theorem s_Ad_remember_33 : SiteC k_Ad_remember 33 := ⟨98, by decide +kernel, tx3 100 rfl rfl, tx3 102 rfl rfl, tx3 101 rfl rfl, tx1 18 rfl rfl, by decide, by decide⟩
theorem d_Ad_remember_36 : decode k_Ad_remember.code 36 = .ok (.return_, 1) := by decide +kernel
theorem d_Ad_doRound_0 : decode k_Ad_doRound.code 0 = .ok (.iconst 1, 1) := by decide +kernel
theorem d_Ad_doRound_1 : decode k_Ad_doRound.code 1 = .ok (.istore_n 2, 1) := by decide +kernel
theorem d_Ad_doRound_2 : decode k_Ad_doRound.code 2 = .ok (.iload_n 2, 1) := by decide +kernel
theorem d_Ad_doRound_3 : decode k_Ad_doRound.code 3 = .ok (.iconst 4, 1) := by decide +kernel
theorem d_Ad_doRound_4 : decode k_Ad_doRound.code 4 = .ok (.if_icmp .ge 29, 3) := by decide +kernel
theorem d_Ad_doRound_7 : decode k_Ad_doRound.code 7 = .ok (.iconst 0, 1) := by decide +kernel
theorem d_Ad_doRound_8 : decode k_Ad_doRound.code 8 = .ok (.istore_n 3, 1) := by decide +kernel
theorem d_Ad_doRound_9 : decode k_Ad_doRound.code 9 = .ok (.iload_n 3, 1) := by decide +kernel
theorem d_Ad_doRound_10 : decode k_Ad_doRound.code 10 = .ok (.iconst 2, 1) := by decide +kernel
theorem d_Ad_doRound_11 : decode k_Ad_doRound.code 11 = .ok (.if_icmp .ge 16, 3) := by decide +kernel
theorem d_Ad_doRound_14 : decode k_Ad_doRound.code 14 = .ok (.aload_n 0, 1) := by decide +kernel
theorem d_Ad_doRound_15 : decode k_Ad_doRound.code 15 = .ok (.aload_n 1, 1) := by decide +kernel
theorem d_Ad_doRound_16 : decode k_Ad_doRound.code 16 = .ok (.iload_n 2, 1) := by decide +kernel
theorem d_Ad_doRound_17 : decode k_Ad_doRound.code 17 = .ok (.iload_n 3, 1) := by decide +kernel
theorem s_Ad_doRound_18 : SiteV k_Ad_doRound k_Ad_movePhoto 18 0 3 := ⟨81, (R_Ad, F_Ad, 4), by decide +kernel, ⟨kw_Ad_movePhoto, tx1 7 rfl rfl, by decide, by decide⟩, tx3 107 rfl rfl, tx3 109 rfl rfl, twp 12 rfl rfl, rfl, ⟨by decide +kernel, by decide +kernel⟩, np_Ad_movePhoto⟩
theorem d_Ad_doRound_21 : decode k_Ad_doRound.code 21 = .ok (.iinc 3 1, 3) := by decide +kernel
theorem d_Ad_doRound_24 : decode k_Ad_doRound.code 24 = .ok (.goto (-15), 3) := by decide +kernel
theorem d_Ad_doRound_27 : decode k_Ad_doRound.code 27 = .ok (.iinc 2 1, 3) := by decide +kernel
theorem d_Ad_doRound_30 : decode k_Ad_doRound.code 30 = .ok (.goto (-28), 3) := by decide +kernel
theorem d_Ad_doRound_33 : decode k_Ad_doRound.code 33 = .ok (.aload_n 0, 1) := by decide +kernel
theorem d_Ad_doRound_34 : decode k_Ad_doRound.code 34 = .ok (.aload_n 1, 1) := by decide +kernel
theorem s_Ad_doRound_35 : SiteV k_Ad_doRound k_Ad_movePlaces 35 0 1 := ⟨78, (R_Ad, F_Ad, 4), by decide +kernel, ⟨kw_Ad_movePlaces, tx1 7 rfl rfl, by decide, by decide⟩, tx3 81 rfl rfl, tx3 83 rfl rfl, twp 8 rfl rfl, rfl, ⟨by decide +kernel, by decide +kernel⟩, np_Ad_movePlaces⟩
theorem d_Ad_doRound_38 : decode k_Ad_doRound.code 38 = .ok (.return_, 1) := by decide +kernel
theorem d_Ad_movePhoto_0 : decode k_Ad_movePhoto.code 0 = .ok (.lconst 0, 1) := by decide +kernel
theorem d_Ad_movePhoto_1 : decode k_Ad_movePhoto.code 1 = .ok (.lstore 4, 2) := by decide +kernel
theorem d_Ad_movePhoto_3 : decode k_Ad_movePhoto.code 3 = .ok (.iconst 0, 1) := by decide +kernel
theorem d_Ad_movePhoto_4 : decode k_Ad_movePhoto.code 4 = .ok (.istore 6, 2) := by decide +kernel
theorem d_Ad_movePhoto_6 : decode k_Ad_movePhoto.code 6 = .ok (.iconst 0, 1) := by decide +kernel
theorem d_Ad_movePhoto_7 : decode k_Ad_movePhoto.code 7 = .ok (.istore 7, 2) := by decide +kernel
theorem d_Ad_movePhoto_9 : decode k_Ad_movePhoto.code 9 = .ok (.iload 7, 2) := by decide +kernel
theorem d_Ad_movePhoto_11 : decode k_Ad_movePhoto.code 11 = .ok (.aload_n 1, 1) := by decide +kernel
theorem s_Ad_movePhoto_12 : SiteV k_Ad_movePhoto k_Pl_number 12 4 0 := ⟨41, (R_Pl, F_Pl, 5), by decide +kernel, ⟨kw_Pl_number, tx1 5 rfl rfl, by decide, by decide⟩, tx1 238 rfl rfl, tx1 239 rfl rfl, tx2 0 rfl rfl, rfl, ⟨by decide +kernel, by decide +kernel⟩, np_Pl_number⟩
theorem d_Ad_movePhoto_15 : decode k_Ad_movePhoto.code 15 = .ok (.if_icmp .ge 58, 3) := by decide +kernel
theorem d_Ad_movePhoto_18 : decode k_Ad_movePhoto.code 18 = .ok (.aload_n 1, 1) := by decide +kernel
theorem d_Ad_movePhoto_19 : decode k_Ad_movePhoto.code 19 = .ok (.iload 7, 2) := by decide +kernel
theorem s_Ad_movePhoto_21 : SiteV k_Ad_movePhoto k_Pl_isSpare 21 4 1 := ⟨47, (R_Pl, F_Pl, 5), by decide +kernel, ⟨kw_Pl_isSpare, tx1 5 rfl rfl, by decide, by decide⟩, tx2 2 rfl rfl, tx2 3 rfl rfl, tx2 4 rfl rfl, rfl, ⟨by decide +kernel, by decide +kernel⟩, np_Pl_isSpare⟩
theorem d_Ad_movePhoto_24 : decode k_Ad_movePhoto.code 24 = .ok (.ifCond .ne 43, 3) := by decide +kernel
theorem d_Ad_movePhoto_27 : decode k_Ad_movePhoto.code 27 = .ok (.aload_n 1, 1) := by decide +kernel
theorem d_Ad_movePhoto_28 : decode k_Ad_movePhoto.code 28 = .ok (.iload 7, 2) := by decide +kernel
theorem d_Ad_movePhoto_30 : decode k_Ad_movePhoto.code 30 = .ok (.iload_n 2, 1) := by decide +kernel
theorem s_Ad_movePhoto_31 : SiteV k_Ad_movePhoto k_Pl_isNoted 31 4 2 := ⟨55, (R_Pl, F_Pl, 5), by decide +kernel, ⟨kw_Pl_isNoted, tx1 5 rfl rfl, by decide, by decide⟩, tx2 10 rfl rfl, tx2 11 rfl rfl, tx2 12 rfl rfl, rfl, ⟨by decide +kernel, by decide +kernel⟩, np_Pl_isNoted⟩
theorem d_Ad_movePhoto_34 : decode k_Ad_movePhoto.code 34 = .ok (.ifCond .eq 33, 3) := by decide +kernel
theorem d_Ad_movePhoto_37 : decode k_Ad_movePhoto.code 37 = .ok (.lload 4, 2) := by decide +kernel
theorem d_Ad_movePhoto_39 : decode k_Ad_movePhoto.code 39 = .ok (.ldc2_w 59, 3) := by decide +kernel
theorem c_Ad_movePhoto_39 : Cond.constantLong k_Ad_movePhoto.y.cls 59 1000 ∈ tw := tx2 14 rfl rfl
theorem d_Ad_movePhoto_42 : decode k_Ad_movePhoto.code 42 = .ok (.aload_n 1, 1) := by decide +kernel
theorem d_Ad_movePhoto_43 : decode k_Ad_movePhoto.code 43 = .ok (.iload 7, 2) := by decide +kernel
theorem d_Ad_movePhoto_45 : decode k_Ad_movePhoto.code 45 = .ok (.iload_n 2, 1) := by decide +kernel
theorem d_Ad_movePhoto_46 : decode k_Ad_movePhoto.code 46 = .ok (.iload_n 3, 1) := by decide +kernel
theorem s_Ad_movePhoto_47 : SiteV k_Ad_movePhoto k_Pl_where 47 4 3 := ⟨61, (R_Pl, F_Pl, 5), by decide +kernel, ⟨kw_Pl_where, tx1 5 rfl rfl, by decide, by decide⟩, tx2 15 rfl rfl, tx2 16 rfl rfl, tx2 17 rfl rfl, rfl, ⟨by decide +kernel, by decide +kernel⟩, np_Pl_where⟩
theorem d_Ad_movePhoto_50 : decode k_Ad_movePhoto.code 50 = .ok (.i2l, 1) := by decide +kernel
theorem d_Ad_movePhoto_51 : decode k_Ad_movePhoto.code 51 = .ok (.lmul, 1) := by decide +kernel
theorem d_Ad_movePhoto_52 : decode k_Ad_movePhoto.code 52 = .ok (.aload_n 0, 1) := by decide +kernel
theorem d_Ad_movePhoto_53 : decode k_Ad_movePhoto.code 53 = .ok (.iload 7, 2) := by decide +kernel
theorem d_Ad_movePhoto_55 : decode k_Ad_movePhoto.code 55 = .ok (.iload_n 3, 1) := by decide +kernel
theorem s_Ad_movePhoto_56 : SiteV k_Ad_movePhoto k_Ad_position 56 0 2 := ⟨65, (R_Ad, F_Ad, 4), by decide +kernel, ⟨kw_Ad_position, tx1 7 rfl rfl, by decide, by decide⟩, tx2 19 rfl rfl, tx2 20 rfl rfl, tx2 21 rfl rfl, rfl, ⟨by decide +kernel, by decide +kernel⟩, np_Ad_position⟩
theorem d_Ad_movePhoto_59 : decode k_Ad_movePhoto.code 59 = .ok (.i2l, 1) := by decide +kernel
theorem d_Ad_movePhoto_60 : decode k_Ad_movePhoto.code 60 = .ok (.lsub, 1) := by decide +kernel
theorem d_Ad_movePhoto_61 : decode k_Ad_movePhoto.code 61 = .ok (.ladd, 1) := by decide +kernel
theorem d_Ad_movePhoto_62 : decode k_Ad_movePhoto.code 62 = .ok (.lstore 4, 2) := by decide +kernel
theorem d_Ad_movePhoto_64 : decode k_Ad_movePhoto.code 64 = .ok (.iinc 6 1, 3) := by decide +kernel
theorem d_Ad_movePhoto_67 : decode k_Ad_movePhoto.code 67 = .ok (.iinc 7 1, 3) := by decide +kernel
theorem d_Ad_movePhoto_70 : decode k_Ad_movePhoto.code 70 = .ok (.goto (-61), 3) := by decide +kernel
theorem d_Ad_movePhoto_73 : decode k_Ad_movePhoto.code 73 = .ok (.aload_n 0, 1) := by decide +kernel
theorem g_Ad_movePhoto_74 : SiteG k_Ad_movePhoto 74 0 1 := ⟨15, 4, R_Ad, "PhotoModels$Adjustment", F_Ad, by decide +kernel, tx1 140 rfl rfl, i_Ad, rfl, rfl, by decide⟩
theorem d_Ad_movePhoto_77 : decode k_Ad_movePhoto.code 77 = .ok (.iload_n 2, 1) := by decide +kernel
theorem d_Ad_movePhoto_78 : decode k_Ad_movePhoto.code 78 = .ok (.iconst 2, 1) := by decide +kernel
theorem d_Ad_movePhoto_79 : decode k_Ad_movePhoto.code 79 = .ok (.imul, 1) := by decide +kernel
theorem d_Ad_movePhoto_80 : decode k_Ad_movePhoto.code 80 = .ok (.iload_n 3, 1) := by decide +kernel
theorem d_Ad_movePhoto_81 : decode k_Ad_movePhoto.code 81 = .ok (.iadd, 1) := by decide +kernel
theorem d_Ad_movePhoto_82 : decode k_Ad_movePhoto.code 82 = .ok (.lload 4, 2) := by decide +kernel
theorem d_Ad_movePhoto_84 : decode k_Ad_movePhoto.code 84 = .ok (.iload 6, 2) := by decide +kernel
theorem d_Ad_movePhoto_86 : decode k_Ad_movePhoto.code 86 = .ok (.aload_n 0, 1) := by decide +kernel
theorem d_Ad_movePhoto_87 : decode k_Ad_movePhoto.code 87 = .ok (.iload_n 2, 1) := by decide +kernel
theorem d_Ad_movePhoto_88 : decode k_Ad_movePhoto.code 88 = .ok (.iload_n 3, 1) := by decide +kernel
theorem s_Ad_movePhoto_89 : SiteV k_Ad_movePhoto k_Ad_moved 89 0 2 := ⟨69, (R_Ad, F_Ad, 4), by decide +kernel, ⟨kw_Ad_moved, tx1 7 rfl rfl, by decide, by decide⟩, tx2 23 rfl rfl, tx2 24 rfl rfl, tx2 25 rfl rfl, rfl, ⟨by decide +kernel, by decide +kernel⟩, np_Ad_moved⟩
theorem s_Ad_movePhoto_92 : SiteS k_Ad_movePhoto k_Ad_mean 92 3 := ⟨85, by decide +kernel, ⟨kw_Ad_mean, tx1 7 rfl rfl, by decide, by decide⟩, Or.inl (tx3 89 rfl rfl), tx3 90 rfl rfl, ⟨by decide +kernel, by decide +kernel⟩, np_Ad_mean⟩
theorem d_Ad_movePhoto_95 : decode k_Ad_movePhoto.code 95 = .ok (.iastore, 1) := by decide +kernel
theorem d_Ad_movePhoto_96 : decode k_Ad_movePhoto.code 96 = .ok (.return_, 1) := by decide +kernel
theorem d_Ad_undo_0 : decode k_Ad_undo.code 0 = .ok (.aload_n 0, 1) := by decide +kernel
theorem g_Ad_undo_1 : SiteG k_Ad_undo 1 0 2 := ⟨18, 4, R_Ad, "PhotoModels$Adjustment", F_Ad, by decide +kernel, tx1 141 rfl rfl, i_Ad, rfl, rfl, by decide⟩
theorem d_Ad_undo_4 : decode k_Ad_undo.code 4 = .ok (.iconst 0, 1) := by decide +kernel
theorem d_Ad_undo_5 : decode k_Ad_undo.code 5 = .ok (.aload_n 0, 1) := by decide +kernel
theorem g_Ad_undo_6 : SiteG k_Ad_undo 6 0 0 := ⟨9, 4, R_Ad, "PhotoModels$Adjustment", F_Ad, by decide +kernel, tx1 139 rfl rfl, i_Ad, rfl, rfl, by decide⟩
theorem d_Ad_undo_9 : decode k_Ad_undo.code 9 = .ok (.iconst 0, 1) := by decide +kernel
theorem d_Ad_undo_10 : decode k_Ad_undo.code 10 = .ok (.aload_n 0, 1) := by decide +kernel
theorem g_Ad_undo_11 : SiteG k_Ad_undo 11 0 0 := ⟨9, 4, R_Ad, "PhotoModels$Adjustment", F_Ad, by decide +kernel, tx1 139 rfl rfl, i_Ad, rfl, rfl, by decide⟩
theorem d_Ad_undo_14 : decode k_Ad_undo.code 14 = .ok (.arraylength, 1) := by decide +kernel
theorem s_Ad_undo_15 : SiteC k_Ad_undo 15 := ⟨98, by decide +kernel, tx3 100 rfl rfl, tx3 102 rfl rfl, tx3 101 rfl rfl, tx1 18 rfl rfl, by decide, by decide⟩
theorem d_Ad_undo_18 : decode k_Ad_undo.code 18 = .ok (.aload_n 0, 1) := by decide +kernel
theorem g_Ad_undo_19 : SiteG k_Ad_undo 19 0 3 := ⟨21, 4, R_Ad, "PhotoModels$Adjustment", F_Ad, by decide +kernel, tx1 142 rfl rfl, i_Ad, rfl, rfl, by decide⟩
theorem d_Ad_undo_22 : decode k_Ad_undo.code 22 = .ok (.iconst 0, 1) := by decide +kernel
theorem d_Ad_undo_23 : decode k_Ad_undo.code 23 = .ok (.aload_n 0, 1) := by decide +kernel
theorem g_Ad_undo_24 : SiteG k_Ad_undo 24 0 1 := ⟨15, 4, R_Ad, "PhotoModels$Adjustment", F_Ad, by decide +kernel, tx1 140 rfl rfl, i_Ad, rfl, rfl, by decide⟩
theorem d_Ad_undo_27 : decode k_Ad_undo.code 27 = .ok (.iconst 0, 1) := by decide +kernel
theorem d_Ad_undo_28 : decode k_Ad_undo.code 28 = .ok (.aload_n 0, 1) := by decide +kernel
theorem g_Ad_undo_29 : SiteG k_Ad_undo 29 0 1 := ⟨15, 4, R_Ad, "PhotoModels$Adjustment", F_Ad, by decide +kernel, tx1 140 rfl rfl, i_Ad, rfl, rfl, by decide⟩
theorem d_Ad_undo_32 : decode k_Ad_undo.code 32 = .ok (.arraylength, 1) := by decide +kernel
theorem s_Ad_undo_33 : SiteC k_Ad_undo 33 := ⟨98, by decide +kernel, tx3 100 rfl rfl, tx3 102 rfl rfl, tx3 101 rfl rfl, tx1 18 rfl rfl, by decide, by decide⟩
theorem d_Ad_undo_36 : decode k_Ad_undo.code 36 = .ok (.return_, 1) := by decide +kernel
theorem d_Re_raise_0 : decode k_Re_raise.code 0 = .ok (.iconst 0, 1) := by decide +kernel
theorem d_Re_raise_1 : decode k_Re_raise.code 1 = .ok (.istore 5, 2) := by decide +kernel
theorem d_Re_raise_3 : decode k_Re_raise.code 3 = .ok (.iconst 0, 1) := by decide +kernel
theorem d_Re_raise_4 : decode k_Re_raise.code 4 = .ok (.istore 6, 2) := by decide +kernel
theorem d_Re_raise_6 : decode k_Re_raise.code 6 = .ok (.iload 6, 2) := by decide +kernel
theorem d_Re_raise_8 : decode k_Re_raise.code 8 = .ok (.aload_n 0, 1) := by decide +kernel
theorem g_Re_raise_9 : SiteG k_Re_raise 9 5 1 := ⟨15, 10, R_Re, "PhotoModels$Relief", F_Re, by decide +kernel, tx1 178 rfl rfl, i_Re, rfl, rfl, by decide⟩
theorem d_Re_raise_12 : decode k_Re_raise.code 12 = .ok (.if_icmp .ge 36, 3) := by decide +kernel
theorem d_Re_raise_15 : decode k_Re_raise.code 15 = .ok (.aload_n 0, 1) := by decide +kernel
theorem d_Re_raise_16 : decode k_Re_raise.code 16 = .ok (.aload_n 1, 1) := by decide +kernel
theorem d_Re_raise_17 : decode k_Re_raise.code 17 = .ok (.iload_n 2, 1) := by decide +kernel
theorem d_Re_raise_18 : decode k_Re_raise.code 18 = .ok (.iload_n 3, 1) := by decide +kernel
theorem d_Re_raise_19 : decode k_Re_raise.code 19 = .ok (.iload 6, 2) := by decide +kernel
theorem d_Re_raise_21 : decode k_Re_raise.code 21 = .ok (.iload 4, 2) := by decide +kernel
theorem s_Re_raise_23 : SiteV k_Re_raise k_Re_fillCosts 23 5 5 := ⟨42, (R_Re, F_Re, 10), by decide +kernel, ⟨kw_Re_fillCosts, tx1 9 rfl rfl, by decide, by decide⟩, tx3 186 rfl rfl, tx3 188 rfl rfl, twp 14 rfl rfl, rfl, ⟨by decide +kernel, by decide +kernel⟩, np_Re_fillCosts⟩
theorem d_Re_raise_26 : decode k_Re_raise.code 26 = .ok (.iload 5, 2) := by decide +kernel
theorem d_Re_raise_28 : decode k_Re_raise.code 28 = .ok (.aload_n 0, 1) := by decide +kernel
theorem d_Re_raise_29 : decode k_Re_raise.code 29 = .ok (.aload_n 1, 1) := by decide +kernel
theorem d_Re_raise_30 : decode k_Re_raise.code 30 = .ok (.iload_n 2, 1) := by decide +kernel
theorem d_Re_raise_31 : decode k_Re_raise.code 31 = .ok (.iload_n 3, 1) := by decide +kernel
theorem d_Re_raise_32 : decode k_Re_raise.code 32 = .ok (.iload 6, 2) := by decide +kernel
theorem d_Re_raise_34 : decode k_Re_raise.code 34 = .ok (.iload 4, 2) := by decide +kernel
theorem s_Re_raise_36 : SiteV k_Re_raise k_Re_traceBack 36 5 5 := ⟨46, (R_Re, F_Re, 10), by decide +kernel, ⟨kw_Re_traceBack, tx1 9 rfl rfl, by decide, by decide⟩, tx3 210 rfl rfl, tx3 212 rfl rfl, twp 17 rfl rfl, rfl, ⟨by decide +kernel, by decide +kernel⟩, np_Re_traceBack⟩
theorem d_Re_raise_39 : decode k_Re_raise.code 39 = .ok (.iadd, 1) := by decide +kernel
theorem d_Re_raise_40 : decode k_Re_raise.code 40 = .ok (.istore 5, 2) := by decide +kernel
theorem d_Re_raise_42 : decode k_Re_raise.code 42 = .ok (.iinc 6 1, 3) := by decide +kernel
theorem d_Re_raise_45 : decode k_Re_raise.code 45 = .ok (.goto (-39), 3) := by decide +kernel
theorem d_Re_raise_48 : decode k_Re_raise.code 48 = .ok (.aload_n 0, 1) := by decide +kernel
theorem d_Re_raise_49 : decode k_Re_raise.code 49 = .ok (.iconst 1, 1) := by decide +kernel
theorem p_Re_raise_50 : SiteP k_Re_raise 50 5 9 .boolean := ⟨38, 10, R_Re, "PhotoModels$Relief", F_Re, t_Re, t_Re_ok, n_Re, by decide +kernel, tx1 186 rfl rfl, i_Re, rfl, Or.inl rfl, rfl, by decide, rfl⟩
theorem d_Re_raise_53 : decode k_Re_raise.code 53 = .ok (.iload 5, 2) := by decide +kernel
theorem d_Re_raise_55 : decode k_Re_raise.code 55 = .ok (.ireturn, 1) := by decide +kernel
theorem d_Re_fillCosts_0 : decode k_Re_fillCosts.code 0 = .ok (.iconst 0, 1) := by decide +kernel
theorem d_Re_fillCosts_1 : decode k_Re_fillCosts.code 1 = .ok (.istore 6, 2) := by decide +kernel
theorem d_Re_fillCosts_3 : decode k_Re_fillCosts.code 3 = .ok (.iload 6, 2) := by decide +kernel
theorem d_Re_fillCosts_5 : decode k_Re_fillCosts.code 5 = .ok (.aload_n 0, 1) := by decide +kernel
theorem g_Re_fillCosts_6 : SiteG k_Re_fillCosts 6 5 0 := ⟨9, 10, R_Re, "PhotoModels$Relief", F_Re, by decide +kernel, tx1 177 rfl rfl, i_Re, rfl, rfl, by decide⟩
theorem d_Re_fillCosts_9 : decode k_Re_fillCosts.code 9 = .ok (.if_icmp .ge 91, 3) := by decide +kernel
theorem d_Re_fillCosts_12 : decode k_Re_fillCosts.code 12 = .ok (.iconst 0, 1) := by decide +kernel
theorem d_Re_fillCosts_13 : decode k_Re_fillCosts.code 13 = .ok (.istore 7, 2) := by decide +kernel
theorem d_Re_fillCosts_15 : decode k_Re_fillCosts.code 15 = .ok (.iload 7, 2) := by decide +kernel
theorem d_Re_fillCosts_17 : decode k_Re_fillCosts.code 17 = .ok (.iload 6, 2) := by decide +kernel
theorem s_Re_fillCosts_19 : SiteS k_Re_fillCosts k_Re_depthsAt 19 1 := ⟨50, by decide +kernel, ⟨kw_Re_depthsAt, tx1 9 rfl rfl, by decide, by decide⟩, Or.inl (tx3 190 rfl rfl), tx3 191 rfl rfl, ⟨by decide +kernel, by decide +kernel⟩, np_Re_depthsAt⟩
theorem d_Re_fillCosts_22 : decode k_Re_fillCosts.code 22 = .ok (.if_icmp .ge 72, 3) := by decide +kernel
theorem d_Re_fillCosts_25 : decode k_Re_fillCosts.code 25 = .ok (.aload_n 1, 1) := by decide +kernel
theorem d_Re_fillCosts_26 : decode k_Re_fillCosts.code 26 = .ok (.iload_n 2, 1) := by decide +kernel
theorem d_Re_fillCosts_27 : decode k_Re_fillCosts.code 27 = .ok (.iload_n 3, 1) := by decide +kernel
theorem d_Re_fillCosts_28 : decode k_Re_fillCosts.code 28 = .ok (.iload 6, 2) := by decide +kernel
theorem d_Re_fillCosts_30 : decode k_Re_fillCosts.code 30 = .ok (.iload 4, 2) := by decide +kernel
theorem d_Re_fillCosts_32 : decode k_Re_fillCosts.code 32 = .ok (.iload 7, 2) := by decide +kernel
theorem s_Re_fillCosts_34 : SiteS k_Re_fillCosts k_Re_difference 34 6 := ⟨54, by decide +kernel, ⟨kw_Re_difference, tx1 9 rfl rfl, by decide, by decide⟩, Or.inl (tx3 194 rfl rfl), tx3 195 rfl rfl, ⟨by decide +kernel, by decide +kernel⟩, np_Re_difference⟩
theorem d_Re_fillCosts_37 : decode k_Re_fillCosts.code 37 = .ok (.istore 8, 2) := by decide +kernel
theorem d_Re_fillCosts_39 : decode k_Re_fillCosts.code 39 = .ok (.iload 6, 2) := by decide +kernel
theorem d_Re_fillCosts_41 : decode k_Re_fillCosts.code 41 = .ok (.ifCond .le 32, 3) := by decide +kernel
theorem d_Re_fillCosts_44 : decode k_Re_fillCosts.code 44 = .ok (.aload_n 0, 1) := by decide +kernel
theorem d_Re_fillCosts_45 : decode k_Re_fillCosts.code 45 = .ok (.iload 6, 2) := by decide +kernel
theorem d_Re_fillCosts_47 : decode k_Re_fillCosts.code 47 = .ok (.iload 7, 2) := by decide +kernel
theorem d_Re_fillCosts_49 : decode k_Re_fillCosts.code 49 = .ok (.iload 5, 2) := by decide +kernel
theorem s_Re_fillCosts_51 : SiteV k_Re_fillCosts k_Re_bestAhead 51 5 3 := ⟨58, (R_Re, F_Re, 10), by decide +kernel, ⟨kw_Re_bestAhead, tx1 9 rfl rfl, by decide, by decide⟩, tx3 202 rfl rfl, tx3 204 rfl rfl, twp 15 rfl rfl, rfl, ⟨by decide +kernel, by decide +kernel⟩, np_Re_bestAhead⟩
theorem d_Re_fillCosts_54 : decode k_Re_fillCosts.code 54 = .ok (.istore 9, 2) := by decide +kernel
theorem d_Re_fillCosts_56 : decode k_Re_fillCosts.code 56 = .ok (.iload 8, 2) := by decide +kernel
theorem d_Re_fillCosts_58 : decode k_Re_fillCosts.code 58 = .ok (.aload_n 0, 1) := by decide +kernel
theorem d_Re_fillCosts_59 : decode k_Re_fillCosts.code 59 = .ok (.iload 6, 2) := by decide +kernel
theorem d_Re_fillCosts_61 : decode k_Re_fillCosts.code 61 = .ok (.iload 9, 2) := by decide +kernel
theorem d_Re_fillCosts_63 : decode k_Re_fillCosts.code 63 = .ok (.iload 7, 2) := by decide +kernel
theorem d_Re_fillCosts_65 : decode k_Re_fillCosts.code 65 = .ok (.iload 5, 2) := by decide +kernel
theorem s_Re_fillCosts_67 : SiteV k_Re_fillCosts k_Re_costAhead 67 5 4 := ⟨62, (R_Re, F_Re, 10), by decide +kernel, ⟨kw_Re_costAhead, tx1 9 rfl rfl, by decide, by decide⟩, tx3 206 rfl rfl, tx3 208 rfl rfl, twp 16 rfl rfl, rfl, ⟨by decide +kernel, by decide +kernel⟩, np_Re_costAhead⟩
theorem d_Re_fillCosts_70 : decode k_Re_fillCosts.code 70 = .ok (.iadd, 1) := by decide +kernel
theorem d_Re_fillCosts_71 : decode k_Re_fillCosts.code 71 = .ok (.istore 8, 2) := by decide +kernel
theorem d_Re_fillCosts_73 : decode k_Re_fillCosts.code 73 = .ok (.aload_n 0, 1) := by decide +kernel
theorem g_Re_fillCosts_74 : SiteG k_Re_fillCosts 74 5 4 := ⟨25, 10, R_Re, "PhotoModels$Relief", F_Re, by decide +kernel, tx1 181 rfl rfl, i_Re, rfl, rfl, by decide⟩
theorem d_Re_fillCosts_77 : decode k_Re_fillCosts.code 77 = .ok (.iload 6, 2) := by decide +kernel
theorem d_Re_fillCosts_79 : decode k_Re_fillCosts.code 79 = .ok (.bipush 6, 2) := by decide +kernel
theorem d_Re_fillCosts_81 : decode k_Re_fillCosts.code 81 = .ok (.imul, 1) := by decide +kernel
theorem d_Re_fillCosts_82 : decode k_Re_fillCosts.code 82 = .ok (.iload 7, 2) := by decide +kernel
theorem d_Re_fillCosts_84 : decode k_Re_fillCosts.code 84 = .ok (.iadd, 1) := by decide +kernel
theorem d_Re_fillCosts_85 : decode k_Re_fillCosts.code 85 = .ok (.iload 8, 2) := by decide +kernel
theorem d_Re_fillCosts_87 : decode k_Re_fillCosts.code 87 = .ok (.iastore, 1) := by decide +kernel
theorem d_Re_fillCosts_88 : decode k_Re_fillCosts.code 88 = .ok (.iinc 7 1, 3) := by decide +kernel
theorem d_Re_fillCosts_91 : decode k_Re_fillCosts.code 91 = .ok (.goto (-76), 3) := by decide +kernel
theorem d_Re_fillCosts_94 : decode k_Re_fillCosts.code 94 = .ok (.iinc 6 1, 3) := by decide +kernel
theorem d_Re_fillCosts_97 : decode k_Re_fillCosts.code 97 = .ok (.goto (-94), 3) := by decide +kernel
theorem d_Re_fillCosts_100 : decode k_Re_fillCosts.code 100 = .ok (.return_, 1) := by decide +kernel
theorem d_Re_depthsAt_0 : decode k_Re_depthsAt.code 0 = .ok (.bipush 6, 2) := by decide +kernel
theorem d_Re_depthsAt_2 : decode k_Re_depthsAt.code 2 = .ok (.iload_n 0, 1) := by decide +kernel
theorem d_Re_depthsAt_3 : decode k_Re_depthsAt.code 3 = .ok (.iconst 1, 1) := by decide +kernel
theorem d_Re_depthsAt_4 : decode k_Re_depthsAt.code 4 = .ok (.iadd, 1) := by decide +kernel
theorem s_Re_depthsAt_5 : SiteM k_Re_depthsAt 5 Lib.Math.min.name Lib.Math.min.code 2 := ⟨71, by decide +kernel, tx3 193 rfl rfl, tx1 31 rfl rfl, tx1 2 rfl rfl, tx1 32 rfl rfl, by decide, by decide⟩
theorem d_Re_depthsAt_8 : decode k_Re_depthsAt.code 8 = .ok (.ireturn, 1) := by decide +kernel
theorem d_Re_difference_0 : decode k_Re_difference.code 0 = .ok (.aload_n 0, 1) := by decide +kernel
theorem d_Re_difference_1 : decode k_Re_difference.code 1 = .ok (.iload_n 1, 1) := by decide +kernel
theorem d_Re_difference_2 : decode k_Re_difference.code 2 = .ok (.iload_n 3, 1) := by decide +kernel
theorem d_Re_difference_3 : decode k_Re_difference.code 3 = .ok (.iload 4, 2) := by decide +kernel
theorem s_Re_difference_5 : SiteV k_Re_difference k_Ph_value 5 3 3 := ⟨75, (R_Ph, F_Ph, 3), by decide +kernel, ⟨kw_Ph_value, tx1 3 rfl rfl, by decide, by decide⟩, tx3 197 rfl rfl, tx3 198 rfl rfl, tx3 199 rfl rfl, rfl, ⟨by decide +kernel, by decide +kernel⟩, np_Ph_value⟩
theorem d_Re_difference_8 : decode k_Re_difference.code 8 = .ok (.aload_n 0, 1) := by decide +kernel
theorem d_Re_difference_9 : decode k_Re_difference.code 9 = .ok (.iload_n 2, 1) := by decide +kernel
theorem d_Re_difference_10 : decode k_Re_difference.code 10 = .ok (.iload_n 3, 1) := by decide +kernel
theorem d_Re_difference_11 : decode k_Re_difference.code 11 = .ok (.iload 5, 2) := by decide +kernel
theorem d_Re_difference_13 : decode k_Re_difference.code 13 = .ok (.isub, 1) := by decide +kernel
theorem d_Re_difference_14 : decode k_Re_difference.code 14 = .ok (.iload 4, 2) := by decide +kernel
theorem s_Re_difference_16 : SiteV k_Re_difference k_Ph_value 16 3 3 := ⟨75, (R_Ph, F_Ph, 3), by decide +kernel, ⟨kw_Ph_value, tx1 3 rfl rfl, by decide, by decide⟩, tx3 197 rfl rfl, tx3 198 rfl rfl, tx3 199 rfl rfl, rfl, ⟨by decide +kernel, by decide +kernel⟩, np_Ph_value⟩
theorem d_Re_difference_19 : decode k_Re_difference.code 19 = .ok (.isub, 1) := by decide +kernel
theorem s_Re_difference_20 : SiteM k_Re_difference 20 Lib.Math.abs.name Lib.Math.abs.code 1 := ⟨66, by decide +kernel, tx3 201 rfl rfl, tx2 177 rfl rfl, tx1 2 rfl rfl, tx2 178 rfl rfl, by decide, by decide⟩
theorem d_Re_difference_23 : decode k_Re_difference.code 23 = .ok (.ireturn, 1) := by decide +kernel
theorem d_Re_bestAhead_0 : decode k_Re_bestAhead.code 0 = .ok (.iconst 0, 1) := by decide +kernel
theorem d_Re_bestAhead_1 : decode k_Re_bestAhead.code 1 = .ok (.istore 4, 2) := by decide +kernel
theorem d_Re_bestAhead_3 : decode k_Re_bestAhead.code 3 = .ok (.aload_n 0, 1) := by decide +kernel
theorem d_Re_bestAhead_4 : decode k_Re_bestAhead.code 4 = .ok (.iload_n 1, 1) := by decide +kernel
theorem d_Re_bestAhead_5 : decode k_Re_bestAhead.code 5 = .ok (.iconst 0, 1) := by decide +kernel
theorem d_Re_bestAhead_6 : decode k_Re_bestAhead.code 6 = .ok (.iload_n 2, 1) := by decide +kernel
theorem d_Re_bestAhead_7 : decode k_Re_bestAhead.code 7 = .ok (.iload_n 3, 1) := by decide +kernel
theorem s_Re_bestAhead_8 : SiteV k_Re_bestAhead k_Re_costAhead 8 5 4 := ⟨62, (R_Re, F_Re, 10), by decide +kernel, ⟨kw_Re_costAhead, tx1 9 rfl rfl, by decide, by decide⟩, tx3 206 rfl rfl, tx3 208 rfl rfl, twp 16 rfl rfl, rfl, ⟨by decide +kernel, by decide +kernel⟩, np_Re_costAhead⟩
theorem d_Re_bestAhead_11 : decode k_Re_bestAhead.code 11 = .ok (.istore 5, 2) := by decide +kernel
theorem d_Re_bestAhead_13 : decode k_Re_bestAhead.code 13 = .ok (.iconst 1, 1) := by decide +kernel
theorem d_Re_bestAhead_14 : decode k_Re_bestAhead.code 14 = .ok (.istore 6, 2) := by decide +kernel
theorem d_Re_bestAhead_16 : decode k_Re_bestAhead.code 16 = .ok (.iload 6, 2) := by decide +kernel
theorem d_Re_bestAhead_18 : decode k_Re_bestAhead.code 18 = .ok (.iload_n 1, 1) := by decide +kernel
theorem d_Re_bestAhead_19 : decode k_Re_bestAhead.code 19 = .ok (.iconst 1, 1) := by decide +kernel
theorem d_Re_bestAhead_20 : decode k_Re_bestAhead.code 20 = .ok (.isub, 1) := by decide +kernel
theorem s_Re_bestAhead_21 : SiteS k_Re_bestAhead k_Re_depthsAt 21 1 := ⟨50, by decide +kernel, ⟨kw_Re_depthsAt, tx1 9 rfl rfl, by decide, by decide⟩, Or.inl (tx3 190 rfl rfl), tx3 191 rfl rfl, ⟨by decide +kernel, by decide +kernel⟩, np_Re_depthsAt⟩
theorem d_Re_bestAhead_24 : decode k_Re_bestAhead.code 24 = .ok (.if_icmp .ge 35, 3) := by decide +kernel
theorem d_Re_bestAhead_27 : decode k_Re_bestAhead.code 27 = .ok (.aload_n 0, 1) := by decide +kernel
theorem d_Re_bestAhead_28 : decode k_Re_bestAhead.code 28 = .ok (.iload_n 1, 1) := by decide +kernel
theorem d_Re_bestAhead_29 : decode k_Re_bestAhead.code 29 = .ok (.iload 6, 2) := by decide +kernel
theorem d_Re_bestAhead_31 : decode k_Re_bestAhead.code 31 = .ok (.iload_n 2, 1) := by decide +kernel
theorem d_Re_bestAhead_32 : decode k_Re_bestAhead.code 32 = .ok (.iload_n 3, 1) := by decide +kernel
theorem s_Re_bestAhead_33 : SiteV k_Re_bestAhead k_Re_costAhead 33 5 4 := ⟨62, (R_Re, F_Re, 10), by decide +kernel, ⟨kw_Re_costAhead, tx1 9 rfl rfl, by decide, by decide⟩, tx3 206 rfl rfl, tx3 208 rfl rfl, twp 16 rfl rfl, rfl, ⟨by decide +kernel, by decide +kernel⟩, np_Re_costAhead⟩
theorem d_Re_bestAhead_36 : decode k_Re_bestAhead.code 36 = .ok (.istore 7, 2) := by decide +kernel
theorem d_Re_bestAhead_38 : decode k_Re_bestAhead.code 38 = .ok (.iload 7, 2) := by decide +kernel
theorem d_Re_bestAhead_40 : decode k_Re_bestAhead.code 40 = .ok (.iload 5, 2) := by decide +kernel
theorem d_Re_bestAhead_42 : decode k_Re_bestAhead.code 42 = .ok (.if_icmp .ge 11, 3) := by decide +kernel
theorem d_Re_bestAhead_45 : decode k_Re_bestAhead.code 45 = .ok (.iload 7, 2) := by decide +kernel
theorem d_Re_bestAhead_47 : decode k_Re_bestAhead.code 47 = .ok (.istore 5, 2) := by decide +kernel
theorem d_Re_bestAhead_49 : decode k_Re_bestAhead.code 49 = .ok (.iload 6, 2) := by decide +kernel
theorem d_Re_bestAhead_51 : decode k_Re_bestAhead.code 51 = .ok (.istore 4, 2) := by decide +kernel
theorem d_Re_bestAhead_53 : decode k_Re_bestAhead.code 53 = .ok (.iinc 6 1, 3) := by decide +kernel
theorem d_Re_bestAhead_56 : decode k_Re_bestAhead.code 56 = .ok (.goto (-40), 3) := by decide +kernel
theorem d_Re_bestAhead_59 : decode k_Re_bestAhead.code 59 = .ok (.iload 4, 2) := by decide +kernel
theorem d_Re_bestAhead_61 : decode k_Re_bestAhead.code 61 = .ok (.ireturn, 1) := by decide +kernel
theorem d_Re_costAhead_0 : decode k_Re_costAhead.code 0 = .ok (.aload_n 0, 1) := by decide +kernel
theorem g_Re_costAhead_1 : SiteG k_Re_costAhead 1 5 4 := ⟨25, 10, R_Re, "PhotoModels$Relief", F_Re, by decide +kernel, tx1 181 rfl rfl, i_Re, rfl, rfl, by decide⟩
theorem d_Re_costAhead_4 : decode k_Re_costAhead.code 4 = .ok (.iload_n 1, 1) := by decide +kernel
theorem d_Re_costAhead_5 : decode k_Re_costAhead.code 5 = .ok (.iconst 1, 1) := by decide +kernel
theorem d_Re_costAhead_6 : decode k_Re_costAhead.code 6 = .ok (.isub, 1) := by decide +kernel
theorem d_Re_costAhead_7 : decode k_Re_costAhead.code 7 = .ok (.bipush 6, 2) := by decide +kernel
theorem d_Re_costAhead_9 : decode k_Re_costAhead.code 9 = .ok (.imul, 1) := by decide +kernel
theorem d_Re_costAhead_10 : decode k_Re_costAhead.code 10 = .ok (.iload_n 2, 1) := by decide +kernel
theorem d_Re_costAhead_11 : decode k_Re_costAhead.code 11 = .ok (.iadd, 1) := by decide +kernel
theorem d_Re_costAhead_12 : decode k_Re_costAhead.code 12 = .ok (.iaload, 1) := by decide +kernel
theorem d_Re_costAhead_13 : decode k_Re_costAhead.code 13 = .ok (.iload 4, 2) := by decide +kernel
theorem d_Re_costAhead_15 : decode k_Re_costAhead.code 15 = .ok (.iload_n 3, 1) := by decide +kernel
theorem d_Re_costAhead_16 : decode k_Re_costAhead.code 16 = .ok (.iload_n 2, 1) := by decide +kernel
theorem d_Re_costAhead_17 : decode k_Re_costAhead.code 17 = .ok (.isub, 1) := by decide +kernel
theorem s_Re_costAhead_18 : SiteM k_Re_costAhead 18 Lib.Math.abs.name Lib.Math.abs.code 1 := ⟨66, by decide +kernel, tx3 201 rfl rfl, tx2 177 rfl rfl, tx1 2 rfl rfl, tx2 178 rfl rfl, by decide, by decide⟩
theorem d_Re_costAhead_21 : decode k_Re_costAhead.code 21 = .ok (.imul, 1) := by decide +kernel
theorem d_Re_costAhead_22 : decode k_Re_costAhead.code 22 = .ok (.iadd, 1) := by decide +kernel
theorem d_Re_costAhead_23 : decode k_Re_costAhead.code 23 = .ok (.ireturn, 1) := by decide +kernel
theorem d_Re_traceBack_0 : decode k_Re_traceBack.code 0 = .ok (.aload_n 0, 1) := by decide +kernel
theorem d_Re_traceBack_1 : decode k_Re_traceBack.code 1 = .ok (.aload_n 0, 1) := by decide +kernel
theorem g_Re_traceBack_2 : SiteG k_Re_traceBack 2 5 0 := ⟨9, 10, R_Re, "PhotoModels$Relief", F_Re, by decide +kernel, tx1 177 rfl rfl, i_Re, rfl, rfl, by decide⟩
theorem d_Re_traceBack_5 : decode k_Re_traceBack.code 5 = .ok (.iconst 0, 1) := by decide +kernel
theorem d_Re_traceBack_6 : decode k_Re_traceBack.code 6 = .ok (.iconst 0, 1) := by decide +kernel
theorem s_Re_traceBack_7 : SiteV k_Re_traceBack k_Re_bestAhead 7 5 3 := ⟨58, (R_Re, F_Re, 10), by decide +kernel, ⟨kw_Re_bestAhead, tx1 9 rfl rfl, by decide, by decide⟩, tx3 202 rfl rfl, tx3 204 rfl rfl, twp 15 rfl rfl, rfl, ⟨by decide +kernel, by decide +kernel⟩, np_Re_bestAhead⟩
theorem d_Re_traceBack_10 : decode k_Re_traceBack.code 10 = .ok (.istore 6, 2) := by decide +kernel
theorem d_Re_traceBack_12 : decode k_Re_traceBack.code 12 = .ok (.aload_n 0, 1) := by decide +kernel
theorem d_Re_traceBack_13 : decode k_Re_traceBack.code 13 = .ok (.aload_n 0, 1) := by decide +kernel
theorem g_Re_traceBack_14 : SiteG k_Re_traceBack 14 5 0 := ⟨9, 10, R_Re, "PhotoModels$Relief", F_Re, by decide +kernel, tx1 177 rfl rfl, i_Re, rfl, rfl, by decide⟩
theorem d_Re_traceBack_17 : decode k_Re_traceBack.code 17 = .ok (.iload 6, 2) := by decide +kernel
theorem d_Re_traceBack_19 : decode k_Re_traceBack.code 19 = .ok (.iconst 0, 1) := by decide +kernel
theorem d_Re_traceBack_20 : decode k_Re_traceBack.code 20 = .ok (.iconst 0, 1) := by decide +kernel
theorem s_Re_traceBack_21 : SiteV k_Re_traceBack k_Re_costAhead 21 5 4 := ⟨62, (R_Re, F_Re, 10), by decide +kernel, ⟨kw_Re_costAhead, tx1 9 rfl rfl, by decide, by decide⟩, tx3 206 rfl rfl, tx3 208 rfl rfl, twp 16 rfl rfl, rfl, ⟨by decide +kernel, by decide +kernel⟩, np_Re_costAhead⟩
theorem d_Re_traceBack_24 : decode k_Re_traceBack.code 24 = .ok (.istore 7, 2) := by decide +kernel
theorem d_Re_traceBack_26 : decode k_Re_traceBack.code 26 = .ok (.aload_n 0, 1) := by decide +kernel
theorem g_Re_traceBack_27 : SiteG k_Re_traceBack 27 5 0 := ⟨9, 10, R_Re, "PhotoModels$Relief", F_Re, by decide +kernel, tx1 177 rfl rfl, i_Re, rfl, rfl, by decide⟩
theorem d_Re_traceBack_30 : decode k_Re_traceBack.code 30 = .ok (.iconst 1, 1) := by decide +kernel
theorem d_Re_traceBack_31 : decode k_Re_traceBack.code 31 = .ok (.isub, 1) := by decide +kernel
theorem d_Re_traceBack_32 : decode k_Re_traceBack.code 32 = .ok (.istore 8, 2) := by decide +kernel
theorem d_Re_traceBack_34 : decode k_Re_traceBack.code 34 = .ok (.iload 8, 2) := by decide +kernel
theorem d_Re_traceBack_36 : decode k_Re_traceBack.code 36 = .ok (.ifCond .lt 70, 3) := by decide +kernel
theorem d_Re_traceBack_39 : decode k_Re_traceBack.code 39 = .ok (.aload_n 0, 1) := by decide +kernel
theorem g_Re_traceBack_40 : SiteG k_Re_traceBack 40 5 2 := ⟨18, 10, R_Re, "PhotoModels$Relief", F_Re, by decide +kernel, tx1 179 rfl rfl, i_Re, rfl, rfl, by decide⟩
theorem d_Re_traceBack_43 : decode k_Re_traceBack.code 43 = .ok (.iload 4, 2) := by decide +kernel
theorem d_Re_traceBack_45 : decode k_Re_traceBack.code 45 = .ok (.aload_n 0, 1) := by decide +kernel
theorem g_Re_traceBack_46 : SiteG k_Re_traceBack 46 5 0 := ⟨9, 10, R_Re, "PhotoModels$Relief", F_Re, by decide +kernel, tx1 177 rfl rfl, i_Re, rfl, rfl, by decide⟩
theorem d_Re_traceBack_49 : decode k_Re_traceBack.code 49 = .ok (.imul, 1) := by decide +kernel
theorem d_Re_traceBack_50 : decode k_Re_traceBack.code 50 = .ok (.iload 8, 2) := by decide +kernel
theorem d_Re_traceBack_52 : decode k_Re_traceBack.code 52 = .ok (.iadd, 1) := by decide +kernel
theorem d_Re_traceBack_53 : decode k_Re_traceBack.code 53 = .ok (.iload 6, 2) := by decide +kernel
theorem d_Re_traceBack_55 : decode k_Re_traceBack.code 55 = .ok (.iastore, 1) := by decide +kernel
theorem d_Re_traceBack_56 : decode k_Re_traceBack.code 56 = .ok (.aload_n 0, 1) := by decide +kernel
theorem g_Re_traceBack_57 : SiteG k_Re_traceBack 57 5 3 := ⟨22, 10, R_Re, "PhotoModels$Relief", F_Re, by decide +kernel, tx1 180 rfl rfl, i_Re, rfl, rfl, by decide⟩
theorem d_Re_traceBack_60 : decode k_Re_traceBack.code 60 = .ok (.iload 4, 2) := by decide +kernel
theorem d_Re_traceBack_62 : decode k_Re_traceBack.code 62 = .ok (.aload_n 0, 1) := by decide +kernel
theorem g_Re_traceBack_63 : SiteG k_Re_traceBack 63 5 0 := ⟨9, 10, R_Re, "PhotoModels$Relief", F_Re, by decide +kernel, tx1 177 rfl rfl, i_Re, rfl, rfl, by decide⟩
theorem d_Re_traceBack_66 : decode k_Re_traceBack.code 66 = .ok (.imul, 1) := by decide +kernel
theorem d_Re_traceBack_67 : decode k_Re_traceBack.code 67 = .ok (.iload 8, 2) := by decide +kernel
theorem d_Re_traceBack_69 : decode k_Re_traceBack.code 69 = .ok (.iadd, 1) := by decide +kernel
theorem d_Re_traceBack_70 : decode k_Re_traceBack.code 70 = .ok (.aload_n 1, 1) := by decide +kernel
theorem d_Re_traceBack_71 : decode k_Re_traceBack.code 71 = .ok (.iload_n 2, 1) := by decide +kernel
theorem d_Re_traceBack_72 : decode k_Re_traceBack.code 72 = .ok (.iload_n 3, 1) := by decide +kernel
theorem d_Re_traceBack_73 : decode k_Re_traceBack.code 73 = .ok (.iload 8, 2) := by decide +kernel
theorem d_Re_traceBack_75 : decode k_Re_traceBack.code 75 = .ok (.iload 4, 2) := by decide +kernel
theorem d_Re_traceBack_77 : decode k_Re_traceBack.code 77 = .ok (.iload 6, 2) := by decide +kernel
theorem s_Re_traceBack_79 : SiteS k_Re_traceBack k_Re_difference 79 6 := ⟨54, by decide +kernel, ⟨kw_Re_difference, tx1 9 rfl rfl, by decide, by decide⟩, Or.inl (tx3 194 rfl rfl), tx3 195 rfl rfl, ⟨by decide +kernel, by decide +kernel⟩, np_Re_difference⟩
theorem d_Re_traceBack_82 : decode k_Re_traceBack.code 82 = .ok (.iastore, 1) := by decide +kernel
theorem d_Re_traceBack_83 : decode k_Re_traceBack.code 83 = .ok (.iload 8, 2) := by decide +kernel
theorem d_Re_traceBack_85 : decode k_Re_traceBack.code 85 = .ok (.ifCond .le 15, 3) := by decide +kernel
theorem d_Re_traceBack_88 : decode k_Re_traceBack.code 88 = .ok (.aload_n 0, 1) := by decide +kernel
theorem d_Re_traceBack_89 : decode k_Re_traceBack.code 89 = .ok (.iload 8, 2) := by decide +kernel
theorem d_Re_traceBack_91 : decode k_Re_traceBack.code 91 = .ok (.iload 6, 2) := by decide +kernel
theorem d_Re_traceBack_93 : decode k_Re_traceBack.code 93 = .ok (.iload 5, 2) := by decide +kernel
theorem s_Re_traceBack_95 : SiteV k_Re_traceBack k_Re_bestAhead 95 5 3 := ⟨58, (R_Re, F_Re, 10), by decide +kernel, ⟨kw_Re_bestAhead, tx1 9 rfl rfl, by decide, by decide⟩, tx3 202 rfl rfl, tx3 204 rfl rfl, twp 15 rfl rfl, rfl, ⟨by decide +kernel, by decide +kernel⟩, np_Re_bestAhead⟩
theorem d_Re_traceBack_98 : decode k_Re_traceBack.code 98 = .ok (.istore 6, 2) := by decide +kernel
theorem d_Re_traceBack_100 : decode k_Re_traceBack.code 100 = .ok (.iinc 8 (-1), 3) := by decide +kernel
theorem d_Re_traceBack_103 : decode k_Re_traceBack.code 103 = .ok (.goto (-69), 3) := by decide +kernel
theorem d_Re_traceBack_106 : decode k_Re_traceBack.code 106 = .ok (.iload 7, 2) := by decide +kernel
theorem d_Re_traceBack_108 : decode k_Re_traceBack.code 108 = .ok (.ireturn, 1) := by decide +kernel
theorem d_Re_isRaised_0 : decode k_Re_isRaised.code 0 = .ok (.aload_n 0, 1) := by decide +kernel
theorem g_Re_isRaised_1 : SiteG k_Re_isRaised 1 5 9 := ⟨38, 10, R_Re, "PhotoModels$Relief", F_Re, by decide +kernel, tx1 186 rfl rfl, i_Re, rfl, rfl, by decide⟩
theorem d_Re_isRaised_4 : decode k_Re_isRaised.code 4 = .ok (.ireturn, 1) := by decide +kernel
theorem d_Re_depthOf_0 : decode k_Re_depthOf.code 0 = .ok (.aload_n 0, 1) := by decide +kernel
theorem g_Re_depthOf_1 : SiteG k_Re_depthOf 1 5 2 := ⟨18, 10, R_Re, "PhotoModels$Relief", F_Re, by decide +kernel, tx1 179 rfl rfl, i_Re, rfl, rfl, by decide⟩
theorem d_Re_depthOf_4 : decode k_Re_depthOf.code 4 = .ok (.iload_n 2, 1) := by decide +kernel
theorem d_Re_depthOf_5 : decode k_Re_depthOf.code 5 = .ok (.aload_n 0, 1) := by decide +kernel
theorem g_Re_depthOf_6 : SiteG k_Re_depthOf 6 5 0 := ⟨9, 10, R_Re, "PhotoModels$Relief", F_Re, by decide +kernel, tx1 177 rfl rfl, i_Re, rfl, rfl, by decide⟩
theorem d_Re_depthOf_9 : decode k_Re_depthOf.code 9 = .ok (.imul, 1) := by decide +kernel
theorem d_Re_depthOf_10 : decode k_Re_depthOf.code 10 = .ok (.iload_n 1, 1) := by decide +kernel
theorem d_Re_depthOf_11 : decode k_Re_depthOf.code 11 = .ok (.iadd, 1) := by decide +kernel
theorem d_Re_depthOf_12 : decode k_Re_depthOf.code 12 = .ok (.iaload, 1) := by decide +kernel
theorem d_Re_depthOf_13 : decode k_Re_depthOf.code 13 = .ok (.ireturn, 1) := by decide +kernel
theorem d_Re_holesAbove_0 : decode k_Re_holesAbove.code 0 = .ok (.aload_n 0, 1) := by decide +kernel
theorem d_Re_holesAbove_1 : decode k_Re_holesAbove.code 1 = .ok (.iload_n 1, 1) := by decide +kernel
theorem s_Re_holesAbove_2 : SiteV k_Re_holesAbove k_Re_openAbove 2 5 1 := ⟨80, (R_Re, F_Re, 10), by decide +kernel, ⟨kw_Re_openAbove, tx1 9 rfl rfl, by decide, by decide⟩, tx4 0 rfl rfl, tx4 2 rfl rfl, twp 18 rfl rfl, rfl, ⟨by decide +kernel, by decide +kernel⟩, np_Re_openAbove⟩
theorem d_Re_holesAbove_5 : decode k_Re_holesAbove.code 5 = .ok (.iconst 0, 1) := by decide +kernel
theorem d_Re_holesAbove_6 : decode k_Re_holesAbove.code 6 = .ok (.istore_n 2, 1) := by decide +kernel
theorem d_Re_holesAbove_7 : decode k_Re_holesAbove.code 7 = .ok (.iconst 0, 1) := by decide +kernel
theorem d_Re_holesAbove_8 : decode k_Re_holesAbove.code 8 = .ok (.istore_n 3, 1) := by decide +kernel
theorem d_Re_holesAbove_9 : decode k_Re_holesAbove.code 9 = .ok (.iload_n 3, 1) := by decide +kernel
theorem d_Re_holesAbove_10 : decode k_Re_holesAbove.code 10 = .ok (.aload_n 0, 1) := by decide +kernel
theorem g_Re_holesAbove_11 : SiteG k_Re_holesAbove 11 5 1 := ⟨15, 10, R_Re, "PhotoModels$Relief", F_Re, by decide +kernel, tx1 178 rfl rfl, i_Re, rfl, rfl, by decide⟩
theorem d_Re_holesAbove_14 : decode k_Re_holesAbove.code 14 = .ok (.if_icmp .ge 55, 3) := by decide +kernel
theorem d_Re_holesAbove_17 : decode k_Re_holesAbove.code 17 = .ok (.iconst 0, 1) := by decide +kernel
theorem d_Re_holesAbove_18 : decode k_Re_holesAbove.code 18 = .ok (.istore 4, 2) := by decide +kernel
theorem d_Re_holesAbove_20 : decode k_Re_holesAbove.code 20 = .ok (.iload 4, 2) := by decide +kernel
theorem d_Re_holesAbove_22 : decode k_Re_holesAbove.code 22 = .ok (.aload_n 0, 1) := by decide +kernel
theorem g_Re_holesAbove_23 : SiteG k_Re_holesAbove 23 5 0 := ⟨9, 10, R_Re, "PhotoModels$Relief", F_Re, by decide +kernel, tx1 177 rfl rfl, i_Re, rfl, rfl, by decide⟩
theorem d_Re_holesAbove_26 : decode k_Re_holesAbove.code 26 = .ok (.if_icmp .ge 37, 3) := by decide +kernel
theorem d_Re_holesAbove_29 : decode k_Re_holesAbove.code 29 = .ok (.aload_n 0, 1) := by decide +kernel
theorem d_Re_holesAbove_30 : decode k_Re_holesAbove.code 30 = .ok (.iload 4, 2) := by decide +kernel
theorem d_Re_holesAbove_32 : decode k_Re_holesAbove.code 32 = .ok (.iload_n 3, 1) := by decide +kernel
theorem s_Re_holesAbove_33 : SiteV k_Re_holesAbove k_Re_marginedIndex 33 5 2 := ⟨84, (R_Re, F_Re, 10), by decide +kernel, ⟨kw_Re_marginedIndex, tx1 9 rfl rfl, by decide, by decide⟩, tx4 4 rfl rfl, tx4 6 rfl rfl, twp 19 rfl rfl, rfl, ⟨by decide +kernel, by decide +kernel⟩, np_Re_marginedIndex⟩
theorem d_Re_holesAbove_36 : decode k_Re_holesAbove.code 36 = .ok (.istore 5, 2) := by decide +kernel
theorem d_Re_holesAbove_38 : decode k_Re_holesAbove.code 38 = .ok (.aload_n 0, 1) := by decide +kernel
theorem g_Re_holesAbove_39 : SiteG k_Re_holesAbove 39 5 6 := ⟨31, 10, R_Re, "PhotoModels$Relief", F_Re, by decide +kernel, tx1 183 rfl rfl, i_Re, rfl, rfl, by decide⟩
theorem d_Re_holesAbove_42 : decode k_Re_holesAbove.code 42 = .ok (.iload 5, 2) := by decide +kernel
theorem d_Re_holesAbove_44 : decode k_Re_holesAbove.code 44 = .ok (.baload, 1) := by decide +kernel
theorem d_Re_holesAbove_45 : decode k_Re_holesAbove.code 45 = .ok (.ifCond .eq 12, 3) := by decide +kernel
theorem d_Re_holesAbove_48 : decode k_Re_holesAbove.code 48 = .ok (.iinc 2 1, 3) := by decide +kernel
theorem d_Re_holesAbove_51 : decode k_Re_holesAbove.code 51 = .ok (.aload_n 0, 1) := by decide +kernel
theorem d_Re_holesAbove_52 : decode k_Re_holesAbove.code 52 = .ok (.iload 5, 2) := by decide +kernel
theorem s_Re_holesAbove_54 : SiteV k_Re_holesAbove k_Re_closeAround 54 5 1 := ⟨87, (R_Re, F_Re, 10), by decide +kernel, ⟨kw_Re_closeAround, tx1 9 rfl rfl, by decide, by decide⟩, tx4 8 rfl rfl, tx4 10 rfl rfl, twp 20 rfl rfl, rfl, ⟨by decide +kernel, by decide +kernel⟩, np_Re_closeAround⟩
theorem d_Re_holesAbove_57 : decode k_Re_holesAbove.code 57 = .ok (.iinc 4 1, 3) := by decide +kernel
theorem d_Re_holesAbove_60 : decode k_Re_holesAbove.code 60 = .ok (.goto (-40), 3) := by decide +kernel
theorem d_Re_holesAbove_63 : decode k_Re_holesAbove.code 63 = .ok (.iinc 3 1, 3) := by decide +kernel
theorem d_Re_holesAbove_66 : decode k_Re_holesAbove.code 66 = .ok (.goto (-57), 3) := by decide +kernel
theorem d_Re_holesAbove_69 : decode k_Re_holesAbove.code 69 = .ok (.iload_n 2, 1) := by decide +kernel
theorem d_Re_holesAbove_70 : decode k_Re_holesAbove.code 70 = .ok (.ireturn, 1) := by decide +kernel
theorem d_Re_openAbove_0 : decode k_Re_openAbove.code 0 = .ok (.iconst 0, 1) := by decide +kernel
theorem d_Re_openAbove_1 : decode k_Re_openAbove.code 1 = .ok (.istore_n 2, 1) := by decide +kernel
theorem d_Re_openAbove_2 : decode k_Re_openAbove.code 2 = .ok (.iload_n 2, 1) := by decide +kernel
theorem d_Re_openAbove_3 : decode k_Re_openAbove.code 3 = .ok (.aload_n 0, 1) := by decide +kernel
theorem g_Re_openAbove_4 : SiteG k_Re_openAbove 4 5 1 := ⟨15, 10, R_Re, "PhotoModels$Relief", F_Re, by decide +kernel, tx1 178 rfl rfl, i_Re, rfl, rfl, by decide⟩
theorem d_Re_openAbove_7 : decode k_Re_openAbove.code 7 = .ok (.if_icmp .ge 58, 3) := by decide +kernel
theorem d_Re_openAbove_10 : decode k_Re_openAbove.code 10 = .ok (.iconst 0, 1) := by decide +kernel
theorem d_Re_openAbove_11 : decode k_Re_openAbove.code 11 = .ok (.istore_n 3, 1) := by decide +kernel
theorem d_Re_openAbove_12 : decode k_Re_openAbove.code 12 = .ok (.iload_n 3, 1) := by decide +kernel
theorem d_Re_openAbove_13 : decode k_Re_openAbove.code 13 = .ok (.aload_n 0, 1) := by decide +kernel
theorem g_Re_openAbove_14 : SiteG k_Re_openAbove 14 5 0 := ⟨9, 10, R_Re, "PhotoModels$Relief", F_Re, by decide +kernel, tx1 177 rfl rfl, i_Re, rfl, rfl, by decide⟩
theorem d_Re_openAbove_17 : decode k_Re_openAbove.code 17 = .ok (.if_icmp .ge 42, 3) := by decide +kernel
theorem d_Re_openAbove_20 : decode k_Re_openAbove.code 20 = .ok (.aload_n 0, 1) := by decide +kernel
theorem g_Re_openAbove_21 : SiteG k_Re_openAbove 21 5 6 := ⟨31, 10, R_Re, "PhotoModels$Relief", F_Re, by decide +kernel, tx1 183 rfl rfl, i_Re, rfl, rfl, by decide⟩
theorem d_Re_openAbove_24 : decode k_Re_openAbove.code 24 = .ok (.aload_n 0, 1) := by decide +kernel
theorem d_Re_openAbove_25 : decode k_Re_openAbove.code 25 = .ok (.iload_n 3, 1) := by decide +kernel
theorem d_Re_openAbove_26 : decode k_Re_openAbove.code 26 = .ok (.iload_n 2, 1) := by decide +kernel
theorem s_Re_openAbove_27 : SiteV k_Re_openAbove k_Re_marginedIndex 27 5 2 := ⟨84, (R_Re, F_Re, 10), by decide +kernel, ⟨kw_Re_marginedIndex, tx1 9 rfl rfl, by decide, by decide⟩, tx4 4 rfl rfl, tx4 6 rfl rfl, twp 19 rfl rfl, rfl, ⟨by decide +kernel, by decide +kernel⟩, np_Re_marginedIndex⟩
theorem d_Re_openAbove_30 : decode k_Re_openAbove.code 30 = .ok (.aload_n 0, 1) := by decide +kernel
theorem g_Re_openAbove_31 : SiteG k_Re_openAbove 31 5 3 := ⟨22, 10, R_Re, "PhotoModels$Relief", F_Re, by decide +kernel, tx1 180 rfl rfl, i_Re, rfl, rfl, by decide⟩
theorem d_Re_openAbove_34 : decode k_Re_openAbove.code 34 = .ok (.iload_n 2, 1) := by decide +kernel
theorem d_Re_openAbove_35 : decode k_Re_openAbove.code 35 = .ok (.aload_n 0, 1) := by decide +kernel
theorem g_Re_openAbove_36 : SiteG k_Re_openAbove 36 5 0 := ⟨9, 10, R_Re, "PhotoModels$Relief", F_Re, by decide +kernel, tx1 177 rfl rfl, i_Re, rfl, rfl, by decide⟩
theorem d_Re_openAbove_39 : decode k_Re_openAbove.code 39 = .ok (.imul, 1) := by decide +kernel
theorem d_Re_openAbove_40 : decode k_Re_openAbove.code 40 = .ok (.iload_n 3, 1) := by decide +kernel
theorem d_Re_openAbove_41 : decode k_Re_openAbove.code 41 = .ok (.iadd, 1) := by decide +kernel
theorem d_Re_openAbove_42 : decode k_Re_openAbove.code 42 = .ok (.iaload, 1) := by decide +kernel
theorem d_Re_openAbove_43 : decode k_Re_openAbove.code 43 = .ok (.iload_n 1, 1) := by decide +kernel
theorem d_Re_openAbove_44 : decode k_Re_openAbove.code 44 = .ok (.if_icmp .le 7, 3) := by decide +kernel
theorem d_Re_openAbove_47 : decode k_Re_openAbove.code 47 = .ok (.iconst 1, 1) := by decide +kernel
theorem d_Re_openAbove_48 : decode k_Re_openAbove.code 48 = .ok (.goto 4, 3) := by decide +kernel
theorem d_Re_openAbove_51 : decode k_Re_openAbove.code 51 = .ok (.iconst 0, 1) := by decide +kernel
theorem d_Re_openAbove_52 : decode k_Re_openAbove.code 52 = .ok (.bastore, 1) := by decide +kernel
theorem d_Re_openAbove_53 : decode k_Re_openAbove.code 53 = .ok (.iinc 3 1, 3) := by decide +kernel
theorem d_Re_openAbove_56 : decode k_Re_openAbove.code 56 = .ok (.goto (-44), 3) := by decide +kernel
theorem d_Re_openAbove_59 : decode k_Re_openAbove.code 59 = .ok (.iinc 2 1, 3) := by decide +kernel
theorem d_Re_openAbove_62 : decode k_Re_openAbove.code 62 = .ok (.goto (-60), 3) := by decide +kernel
theorem d_Re_openAbove_65 : decode k_Re_openAbove.code 65 = .ok (.return_, 1) := by decide +kernel
theorem d_Re_marginedIndex_0 : decode k_Re_marginedIndex.code 0 = .ok (.iload_n 2, 1) := by decide +kernel
theorem d_Re_marginedIndex_1 : decode k_Re_marginedIndex.code 1 = .ok (.iconst 1, 1) := by decide +kernel
theorem d_Re_marginedIndex_2 : decode k_Re_marginedIndex.code 2 = .ok (.iadd, 1) := by decide +kernel
theorem d_Re_marginedIndex_3 : decode k_Re_marginedIndex.code 3 = .ok (.aload_n 0, 1) := by decide +kernel
theorem g_Re_marginedIndex_4 : SiteG k_Re_marginedIndex 4 5 5 := ⟨28, 10, R_Re, "PhotoModels$Relief", F_Re, by decide +kernel, tx1 182 rfl rfl, i_Re, rfl, rfl, by decide⟩
theorem d_Re_marginedIndex_7 : decode k_Re_marginedIndex.code 7 = .ok (.imul, 1) := by decide +kernel
theorem d_Re_marginedIndex_8 : decode k_Re_marginedIndex.code 8 = .ok (.iload_n 1, 1) := by decide +kernel
theorem d_Re_marginedIndex_9 : decode k_Re_marginedIndex.code 9 = .ok (.iadd, 1) := by decide +kernel
theorem d_Re_marginedIndex_10 : decode k_Re_marginedIndex.code 10 = .ok (.iconst 1, 1) := by decide +kernel
theorem d_Re_marginedIndex_11 : decode k_Re_marginedIndex.code 11 = .ok (.iadd, 1) := by decide +kernel
theorem d_Re_marginedIndex_12 : decode k_Re_marginedIndex.code 12 = .ok (.ireturn, 1) := by decide +kernel
theorem d_Re_closeAround_0 : decode k_Re_closeAround.code 0 = .ok (.aload_n 0, 1) := by decide +kernel
theorem d_Re_closeAround_1 : decode k_Re_closeAround.code 1 = .ok (.iconst 0, 1) := by decide +kernel
theorem p_Re_closeAround_2 : SiteP k_Re_closeAround 2 5 8 .int := ⟨90, 10, R_Re, "PhotoModels$Relief", F_Re, t_Re, t_Re_ok, n_Re, by decide +kernel, tx1 185 rfl rfl, i_Re, rfl, Or.inl rfl, rfl, by decide, rfl⟩
theorem d_Re_closeAround_5 : decode k_Re_closeAround.code 5 = .ok (.aload_n 0, 1) := by decide +kernel
theorem d_Re_closeAround_6 : decode k_Re_closeAround.code 6 = .ok (.iload_n 1, 1) := by decide +kernel
theorem s_Re_closeAround_7 : SiteV k_Re_closeAround k_Re_closeIfOpen 7 5 1 := ⟨93, (R_Re, F_Re, 10), by decide +kernel, ⟨kw_Re_closeIfOpen, tx1 9 rfl rfl, by decide, by decide⟩, tx4 12 rfl rfl, tx4 14 rfl rfl, twp 21 rfl rfl, rfl, ⟨by decide +kernel, by decide +kernel⟩, np_Re_closeIfOpen⟩
theorem d_Re_closeAround_10 : decode k_Re_closeAround.code 10 = .ok (.iconst 0, 1) := by decide +kernel
theorem d_Re_closeAround_11 : decode k_Re_closeAround.code 11 = .ok (.istore_n 2, 1) := by decide +kernel
theorem d_Re_closeAround_12 : decode k_Re_closeAround.code 12 = .ok (.iload_n 2, 1) := by decide +kernel
theorem d_Re_closeAround_13 : decode k_Re_closeAround.code 13 = .ok (.aload_n 0, 1) := by decide +kernel
theorem g_Re_closeAround_14 : SiteG k_Re_closeAround 14 5 8 := ⟨90, 10, R_Re, "PhotoModels$Relief", F_Re, by decide +kernel, tx1 185 rfl rfl, i_Re, rfl, rfl, by decide⟩
theorem d_Re_closeAround_17 : decode k_Re_closeAround.code 17 = .ok (.if_icmp .ge 59, 3) := by decide +kernel
theorem d_Re_closeAround_20 : decode k_Re_closeAround.code 20 = .ok (.iload_n 2, 1) := by decide +kernel
theorem d_Re_closeAround_21 : decode k_Re_closeAround.code 21 = .ok (.aload_n 0, 1) := by decide +kernel
theorem g_Re_closeAround_22 : SiteG k_Re_closeAround 22 5 7 := ⟨35, 10, R_Re, "PhotoModels$Relief", F_Re, by decide +kernel, tx1 184 rfl rfl, i_Re, rfl, rfl, by decide⟩
theorem d_Re_closeAround_25 : decode k_Re_closeAround.code 25 = .ok (.arraylength, 1) := by decide +kernel
theorem d_Re_closeAround_26 : decode k_Re_closeAround.code 26 = .ok (.if_icmp .ge 50, 3) := by decide +kernel
theorem d_Re_closeAround_29 : decode k_Re_closeAround.code 29 = .ok (.aload_n 0, 1) := by decide +kernel
theorem g_Re_closeAround_30 : SiteG k_Re_closeAround 30 5 7 := ⟨35, 10, R_Re, "PhotoModels$Relief", F_Re, by decide +kernel, tx1 184 rfl rfl, i_Re, rfl, rfl, by decide⟩
theorem d_Re_closeAround_33 : decode k_Re_closeAround.code 33 = .ok (.iload_n 2, 1) := by decide +kernel
theorem d_Re_closeAround_34 : decode k_Re_closeAround.code 34 = .ok (.iaload, 1) := by decide +kernel
theorem d_Re_closeAround_35 : decode k_Re_closeAround.code 35 = .ok (.istore_n 3, 1) := by decide +kernel
theorem d_Re_closeAround_36 : decode k_Re_closeAround.code 36 = .ok (.aload_n 0, 1) := by decide +kernel
theorem d_Re_closeAround_37 : decode k_Re_closeAround.code 37 = .ok (.iload_n 3, 1) := by decide +kernel
theorem d_Re_closeAround_38 : decode k_Re_closeAround.code 38 = .ok (.iconst 1, 1) := by decide +kernel
theorem d_Re_closeAround_39 : decode k_Re_closeAround.code 39 = .ok (.isub, 1) := by decide +kernel
theorem s_Re_closeAround_40 : SiteV k_Re_closeAround k_Re_closeIfOpen 40 5 1 := ⟨93, (R_Re, F_Re, 10), by decide +kernel, ⟨kw_Re_closeIfOpen, tx1 9 rfl rfl, by decide, by decide⟩, tx4 12 rfl rfl, tx4 14 rfl rfl, twp 21 rfl rfl, rfl, ⟨by decide +kernel, by decide +kernel⟩, np_Re_closeIfOpen⟩
theorem d_Re_closeAround_43 : decode k_Re_closeAround.code 43 = .ok (.aload_n 0, 1) := by decide +kernel
theorem d_Re_closeAround_44 : decode k_Re_closeAround.code 44 = .ok (.iload_n 3, 1) := by decide +kernel
theorem d_Re_closeAround_45 : decode k_Re_closeAround.code 45 = .ok (.iconst 1, 1) := by decide +kernel
theorem d_Re_closeAround_46 : decode k_Re_closeAround.code 46 = .ok (.iadd, 1) := by decide +kernel
theorem s_Re_closeAround_47 : SiteV k_Re_closeAround k_Re_closeIfOpen 47 5 1 := ⟨93, (R_Re, F_Re, 10), by decide +kernel, ⟨kw_Re_closeIfOpen, tx1 9 rfl rfl, by decide, by decide⟩, tx4 12 rfl rfl, tx4 14 rfl rfl, twp 21 rfl rfl, rfl, ⟨by decide +kernel, by decide +kernel⟩, np_Re_closeIfOpen⟩
theorem d_Re_closeAround_50 : decode k_Re_closeAround.code 50 = .ok (.aload_n 0, 1) := by decide +kernel
theorem d_Re_closeAround_51 : decode k_Re_closeAround.code 51 = .ok (.iload_n 3, 1) := by decide +kernel
theorem d_Re_closeAround_52 : decode k_Re_closeAround.code 52 = .ok (.aload_n 0, 1) := by decide +kernel
theorem g_Re_closeAround_53 : SiteG k_Re_closeAround 53 5 5 := ⟨28, 10, R_Re, "PhotoModels$Relief", F_Re, by decide +kernel, tx1 182 rfl rfl, i_Re, rfl, rfl, by decide⟩
theorem d_Re_closeAround_56 : decode k_Re_closeAround.code 56 = .ok (.isub, 1) := by decide +kernel
theorem s_Re_closeAround_57 : SiteV k_Re_closeAround k_Re_closeIfOpen 57 5 1 := ⟨93, (R_Re, F_Re, 10), by decide +kernel, ⟨kw_Re_closeIfOpen, tx1 9 rfl rfl, by decide, by decide⟩, tx4 12 rfl rfl, tx4 14 rfl rfl, twp 21 rfl rfl, rfl, ⟨by decide +kernel, by decide +kernel⟩, np_Re_closeIfOpen⟩
theorem d_Re_closeAround_60 : decode k_Re_closeAround.code 60 = .ok (.aload_n 0, 1) := by decide +kernel
theorem d_Re_closeAround_61 : decode k_Re_closeAround.code 61 = .ok (.iload_n 3, 1) := by decide +kernel
theorem d_Re_closeAround_62 : decode k_Re_closeAround.code 62 = .ok (.aload_n 0, 1) := by decide +kernel
theorem g_Re_closeAround_63 : SiteG k_Re_closeAround 63 5 5 := ⟨28, 10, R_Re, "PhotoModels$Relief", F_Re, by decide +kernel, tx1 182 rfl rfl, i_Re, rfl, rfl, by decide⟩
theorem d_Re_closeAround_66 : decode k_Re_closeAround.code 66 = .ok (.iadd, 1) := by decide +kernel
theorem s_Re_closeAround_67 : SiteV k_Re_closeAround k_Re_closeIfOpen 67 5 1 := ⟨93, (R_Re, F_Re, 10), by decide +kernel, ⟨kw_Re_closeIfOpen, tx1 9 rfl rfl, by decide, by decide⟩, tx4 12 rfl rfl, tx4 14 rfl rfl, twp 21 rfl rfl, rfl, ⟨by decide +kernel, by decide +kernel⟩, np_Re_closeIfOpen⟩
theorem d_Re_closeAround_70 : decode k_Re_closeAround.code 70 = .ok (.iinc 2 1, 3) := by decide +kernel
theorem d_Re_closeAround_73 : decode k_Re_closeAround.code 73 = .ok (.goto (-61), 3) := by decide +kernel
theorem d_Re_closeAround_76 : decode k_Re_closeAround.code 76 = .ok (.return_, 1) := by decide +kernel
theorem d_Re_closeIfOpen_0 : decode k_Re_closeIfOpen.code 0 = .ok (.aload_n 0, 1) := by decide +kernel
theorem g_Re_closeIfOpen_1 : SiteG k_Re_closeIfOpen 1 5 6 := ⟨31, 10, R_Re, "PhotoModels$Relief", F_Re, by decide +kernel, tx1 183 rfl rfl, i_Re, rfl, rfl, by decide⟩
theorem d_Re_closeIfOpen_4 : decode k_Re_closeIfOpen.code 4 = .ok (.iload_n 1, 1) := by decide +kernel
theorem d_Re_closeIfOpen_5 : decode k_Re_closeIfOpen.code 5 = .ok (.baload, 1) := by decide +kernel
theorem d_Re_closeIfOpen_6 : decode k_Re_closeIfOpen.code 6 = .ok (.ifCond .eq 30, 3) := by decide +kernel
theorem d_Re_closeIfOpen_9 : decode k_Re_closeIfOpen.code 9 = .ok (.aload_n 0, 1) := by decide +kernel
theorem g_Re_closeIfOpen_10 : SiteG k_Re_closeIfOpen 10 5 6 := ⟨31, 10, R_Re, "PhotoModels$Relief", F_Re, by decide +kernel, tx1 183 rfl rfl, i_Re, rfl, rfl, by decide⟩
theorem d_Re_closeIfOpen_13 : decode k_Re_closeIfOpen.code 13 = .ok (.iload_n 1, 1) := by decide +kernel
theorem d_Re_closeIfOpen_14 : decode k_Re_closeIfOpen.code 14 = .ok (.iconst 0, 1) := by decide +kernel
theorem d_Re_closeIfOpen_15 : decode k_Re_closeIfOpen.code 15 = .ok (.bastore, 1) := by decide +kernel
theorem d_Re_closeIfOpen_16 : decode k_Re_closeIfOpen.code 16 = .ok (.aload_n 0, 1) := by decide +kernel
theorem g_Re_closeIfOpen_17 : SiteG k_Re_closeIfOpen 17 5 7 := ⟨35, 10, R_Re, "PhotoModels$Relief", F_Re, by decide +kernel, tx1 184 rfl rfl, i_Re, rfl, rfl, by decide⟩
theorem d_Re_closeIfOpen_20 : decode k_Re_closeIfOpen.code 20 = .ok (.aload_n 0, 1) := by decide +kernel
theorem g_Re_closeIfOpen_21 : SiteG k_Re_closeIfOpen 21 5 8 := ⟨90, 10, R_Re, "PhotoModels$Relief", F_Re, by decide +kernel, tx1 185 rfl rfl, i_Re, rfl, rfl, by decide⟩
theorem d_Re_closeIfOpen_24 : decode k_Re_closeIfOpen.code 24 = .ok (.iload_n 1, 1) := by decide +kernel
theorem d_Re_closeIfOpen_25 : decode k_Re_closeIfOpen.code 25 = .ok (.iastore, 1) := by decide +kernel
theorem d_Re_closeIfOpen_26 : decode k_Re_closeIfOpen.code 26 = .ok (.aload_n 0, 1) := by decide +kernel
theorem d_Re_closeIfOpen_27 : decode k_Re_closeIfOpen.code 27 = .ok (.dup, 1) := by decide +kernel
theorem g_Re_closeIfOpen_28 : SiteG k_Re_closeIfOpen 28 5 8 := ⟨90, 10, R_Re, "PhotoModels$Relief", F_Re, by decide +kernel, tx1 185 rfl rfl, i_Re, rfl, rfl, by decide⟩
theorem d_Re_closeIfOpen_31 : decode k_Re_closeIfOpen.code 31 = .ok (.iconst 1, 1) := by decide +kernel
theorem d_Re_closeIfOpen_32 : decode k_Re_closeIfOpen.code 32 = .ok (.iadd, 1) := by decide +kernel
theorem p_Re_closeIfOpen_33 : SiteP k_Re_closeIfOpen 33 5 8 .int := ⟨90, 10, R_Re, "PhotoModels$Relief", F_Re, t_Re, t_Re_ok, n_Re, by decide +kernel, tx1 185 rfl rfl, i_Re, rfl, Or.inl rfl, rfl, by decide, rfl⟩
theorem d_Re_closeIfOpen_36 : decode k_Re_closeIfOpen.code 36 = .ok (.return_, 1) := by decide +kernel
end
section
theorem d_Pm_init_0 : decode k_Pm_init.code 0 = .ok (.aload_n 0, 1) := by decide +kernel
theorem s_Pm_init_1 : SiteO k_Pm_init 1 := ⟨1, by decide +kernel, tx1 24 rfl rfl, tx1 25 rfl rfl, tx1 26 rfl rfl, by decide, by decide⟩
theorem d_Pm_init_4 : decode k_Pm_init.code 4 = .ok (.iload_n 1, 1) := by decide +kernel
theorem d_Pm_init_5 : decode k_Pm_init.code 5 = .ok (.bipush 6, 2) := by decide +kernel
theorem d_Pm_init_7 : decode k_Pm_init.code 7 = .ok (.bipush 20, 2) := by decide +kernel
theorem s_Pm_init_9 : SiteS k_Pm_init k_Pm_within 9 3 := ⟨9, by decide +kernel, ⟨kw_Pm_within, tx1 1 rfl rfl, by decide, by decide⟩, Or.inl (tx1 27 rfl rfl), tx1 28 rfl rfl, ⟨by decide +kernel, by decide +kernel⟩, np_Pm_within⟩
theorem d_Pm_init_12 : decode k_Pm_init.code 12 = .ok (.istore 4, 2) := by decide +kernel
theorem d_Pm_init_14 : decode k_Pm_init.code 14 = .ok (.iload_n 2, 1) := by decide +kernel
theorem d_Pm_init_15 : decode k_Pm_init.code 15 = .ok (.bipush 6, 2) := by decide +kernel
theorem d_Pm_init_17 : decode k_Pm_init.code 17 = .ok (.bipush 20, 2) := by decide +kernel
theorem s_Pm_init_19 : SiteS k_Pm_init k_Pm_within 19 3 := ⟨9, by decide +kernel, ⟨kw_Pm_within, tx1 1 rfl rfl, by decide, by decide⟩, Or.inl (tx1 27 rfl rfl), tx1 28 rfl rfl, ⟨by decide +kernel, by decide +kernel⟩, np_Pm_within⟩
theorem d_Pm_init_22 : decode k_Pm_init.code 22 = .ok (.istore 5, 2) := by decide +kernel
theorem d_Pm_init_24 : decode k_Pm_init.code 24 = .ok (.aload_n 0, 1) := by decide +kernel
theorem n_Pm_init_25 : SiteN k_Pm_init 25 3 [.int 0, .int 0, .null] := ⟨13, 3, R_Ph, F_Ph, t_Ph, t_Ph_ok, by decide +kernel, tx1 36 rfl rfl, tx1 37 rfl rfl, tx1 3 rfl rfl, i_Ph, rfl, rfl⟩
theorem d_Pm_init_28 : decode k_Pm_init.code 28 = .ok (.dup, 1) := by decide +kernel
theorem d_Pm_init_29 : decode k_Pm_init.code 29 = .ok (.iload 4, 2) := by decide +kernel
theorem d_Pm_init_31 : decode k_Pm_init.code 31 = .ok (.iload 5, 2) := by decide +kernel
theorem s_Pm_init_33 : SiteI k_Pm_init k_Ph_init 33 2 := ⟨15, by decide +kernel, ⟨kw_Ph_init, tx1 3 rfl rfl, by decide, by decide⟩, rfl, rfl, rfl, Or.inl (tx1 38 rfl rfl), tx1 39 rfl rfl, ⟨by decide +kernel, by decide +kernel⟩, np_Ph_init⟩
theorem p_Pm_init_36 : SiteP k_Pm_init 36 7 0 (.object "PhotoModels$Photos") := ⟨18, 7, R_Pm, "PhotoModels", F_Pm, t_Pm, t_Pm_ok, n_Pm, by decide +kernel, tx1 208 rfl rfl, i_Pm, rfl, Or.inr ⟨rfl, rfl, rfl⟩, rfl, by decide, rfl⟩
theorem d_Pm_init_39 : decode k_Pm_init.code 39 = .ok (.aload_n 0, 1) := by decide +kernel
theorem n_Pm_init_40 : SiteN k_Pm_init 40 6 [.int 0, .int 0, .null, .int 0, .int 0, .int 0, .int 0] := ⟨22, 7, R_Se, F_Se, t_Se, t_Se_ok, by decide +kernel, tx1 53 rfl rfl, tx1 54 rfl rfl, tx1 4 rfl rfl, i_Se, rfl, rfl⟩
theorem d_Pm_init_43 : decode k_Pm_init.code 43 = .ok (.dup, 1) := by decide +kernel
theorem d_Pm_init_44 : decode k_Pm_init.code 44 = .ok (.iload 4, 2) := by decide +kernel
theorem d_Pm_init_46 : decode k_Pm_init.code 46 = .ok (.iload 5, 2) := by decide +kernel
theorem s_Pm_init_48 : SiteI k_Pm_init k_Se_init 48 2 := ⟨24, by decide +kernel, ⟨kw_Se_init, tx1 4 rfl rfl, by decide, by decide⟩, rfl, rfl, rfl, Or.inl (tx1 55 rfl rfl), tx1 56 rfl rfl, ⟨by decide +kernel, by decide +kernel⟩, np_Se_init⟩
theorem p_Pm_init_51 : SiteP k_Pm_init 51 7 1 (.object "PhotoModels$Search") := ⟨25, 7, R_Pm, "PhotoModels", F_Pm, t_Pm, t_Pm_ok, n_Pm, by decide +kernel, tx1 209 rfl rfl, i_Pm, rfl, Or.inr ⟨rfl, rfl, rfl⟩, rfl, by decide, rfl⟩
theorem d_Pm_init_54 : decode k_Pm_init.code 54 = .ok (.aload_n 0, 1) := by decide +kernel
theorem n_Pm_init_55 : SiteN k_Pm_init 55 4 [.null, .null, .null, .int 0, .int 0] := ⟨29, 5, R_Pl, F_Pl, t_Pl, t_Pl_ok, by decide +kernel, tx1 81 rfl rfl, tx1 82 rfl rfl, tx1 5 rfl rfl, i_Pl, rfl, rfl⟩
theorem d_Pm_init_58 : decode k_Pm_init.code 58 = .ok (.dup, 1) := by decide +kernel
theorem s_Pm_init_59 : SiteI k_Pm_init k_Pl_init 59 0 := ⟨31, by decide +kernel, ⟨kw_Pl_init, tx1 5 rfl rfl, by decide, by decide⟩, rfl, rfl, rfl, Or.inr ⟨"PhotoModels", tx1 83 rfl rfl⟩, tx1 84 rfl rfl, ⟨by decide +kernel, by decide +kernel⟩, np_Pl_init⟩
theorem p_Pm_init_62 : SiteP k_Pm_init 62 7 2 (.object "PhotoModels$Places") := ⟨32, 7, R_Pm, "PhotoModels", F_Pm, t_Pm, t_Pm_ok, n_Pm, by decide +kernel, tx1 210 rfl rfl, i_Pm, rfl, Or.inr ⟨rfl, rfl, rfl⟩, rfl, by decide, rfl⟩
theorem d_Pm_init_65 : decode k_Pm_init.code 65 = .ok (.aload_n 0, 1) := by decide +kernel
theorem n_Pm_init_66 : SiteN k_Pm_init 66 1 [.int 0, .null, .null, .int 0, .int 0, .int 0, .int 0] := ⟨36, 7, R_Ag, F_Ag, t_Ag, t_Ag_ok, by decide +kernel, tx1 104 rfl rfl, tx1 105 rfl rfl, tx1 6 rfl rfl, i_Ag, rfl, rfl⟩
theorem d_Pm_init_69 : decode k_Pm_init.code 69 = .ok (.dup, 1) := by decide +kernel
theorem d_Pm_init_70 : decode k_Pm_init.code 70 = .ok (.iload_n 3, 1) := by decide +kernel
theorem d_Pm_init_71 : decode k_Pm_init.code 71 = .ok (.iconst 0, 1) := by decide +kernel
theorem d_Pm_init_72 : decode k_Pm_init.code 72 = .ok (.ldc 38, 2) := by decide +kernel
theorem c_Pm_init_72 : Cond.constant k_Pm_init.y.cls 38 65536 ∈ tw := tx1 106 rfl rfl
theorem s_Pm_init_74 : SiteS k_Pm_init k_Pm_within 74 3 := ⟨9, by decide +kernel, ⟨kw_Pm_within, tx1 1 rfl rfl, by decide, by decide⟩, Or.inl (tx1 27 rfl rfl), tx1 28 rfl rfl, ⟨by decide +kernel, by decide +kernel⟩, np_Pm_within⟩
theorem s_Pm_init_77 : SiteI k_Pm_init k_Ag_init 77 1 := ⟨39, by decide +kernel, ⟨kw_Ag_init, tx1 6 rfl rfl, by decide, by decide⟩, rfl, rfl, rfl, Or.inl (tx1 107 rfl rfl), tx1 108 rfl rfl, ⟨by decide +kernel, by decide +kernel⟩, np_Ag_init⟩
theorem p_Pm_init_80 : SiteP k_Pm_init 80 7 3 (.object "PhotoModels$Agreement") := ⟨42, 7, R_Pm, "PhotoModels", F_Pm, t_Pm, t_Pm_ok, n_Pm, by decide +kernel, tx1 211 rfl rfl, i_Pm, rfl, Or.inr ⟨rfl, rfl, rfl⟩, rfl, by decide, rfl⟩
theorem d_Pm_init_83 : decode k_Pm_init.code 83 = .ok (.aload_n 0, 1) := by decide +kernel
theorem n_Pm_init_84 : SiteN k_Pm_init 84 0 [.null, .null, .null, .null] := ⟨46, 4, R_Ad, F_Ad, t_Ad, t_Ad_ok, by decide +kernel, tx1 133 rfl rfl, tx1 134 rfl rfl, tx1 7 rfl rfl, i_Ad, rfl, rfl⟩
theorem d_Pm_init_87 : decode k_Pm_init.code 87 = .ok (.dup, 1) := by decide +kernel
theorem s_Pm_init_88 : SiteI k_Pm_init k_Ad_init 88 0 := ⟨48, by decide +kernel, ⟨kw_Ad_init, tx1 7 rfl rfl, by decide, by decide⟩, rfl, rfl, rfl, Or.inr ⟨"PhotoModels", tx1 135 rfl rfl⟩, tx1 136 rfl rfl, ⟨by decide +kernel, by decide +kernel⟩, np_Ad_init⟩
theorem p_Pm_init_91 : SiteP k_Pm_init 91 7 4 (.object "PhotoModels$Adjustment") := ⟨49, 7, R_Pm, "PhotoModels", F_Pm, t_Pm, t_Pm_ok, n_Pm, by decide +kernel, tx1 212 rfl rfl, i_Pm, rfl, Or.inr ⟨rfl, rfl, rfl⟩, rfl, by decide, rfl⟩
theorem d_Pm_init_94 : decode k_Pm_init.code 94 = .ok (.aload_n 0, 1) := by decide +kernel
theorem n_Pm_init_95 : SiteN k_Pm_init 95 2 [.null, .null, .null, .int 0] := ⟨53, 4, R_Le, F_Le, t_Le, t_Le_ok, by decide +kernel, tx1 152 rfl rfl, tx1 153 rfl rfl, tx1 8 rfl rfl, i_Le, rfl, rfl⟩
theorem d_Pm_init_98 : decode k_Pm_init.code 98 = .ok (.dup, 1) := by decide +kernel
theorem s_Pm_init_99 : SiteI k_Pm_init k_Le_init 99 0 := ⟨55, by decide +kernel, ⟨kw_Le_init, tx1 8 rfl rfl, by decide, by decide⟩, rfl, rfl, rfl, Or.inr ⟨"PhotoModels", tx1 154 rfl rfl⟩, tx1 155 rfl rfl, ⟨by decide +kernel, by decide +kernel⟩, np_Le_init⟩
theorem p_Pm_init_102 : SiteP k_Pm_init 102 7 5 (.object "PhotoModels$Lengths") := ⟨56, 7, R_Pm, "PhotoModels", F_Pm, t_Pm, t_Pm_ok, n_Pm, by decide +kernel, tx1 213 rfl rfl, i_Pm, rfl, Or.inr ⟨rfl, rfl, rfl⟩, rfl, by decide, rfl⟩
theorem d_Pm_init_105 : decode k_Pm_init.code 105 = .ok (.aload_n 0, 1) := by decide +kernel
theorem n_Pm_init_106 : SiteN k_Pm_init 106 5 [.int 0, .int 0, .null, .null, .null, .int 0, .null, .null, .int 0, .int 0] := ⟨60, 10, R_Re, F_Re, t_Re, t_Re_ok, by decide +kernel, tx1 171 rfl rfl, tx1 172 rfl rfl, tx1 9 rfl rfl, i_Re, rfl, rfl⟩
theorem d_Pm_init_109 : decode k_Pm_init.code 109 = .ok (.dup, 1) := by decide +kernel
theorem d_Pm_init_110 : decode k_Pm_init.code 110 = .ok (.iload 4, 2) := by decide +kernel
theorem d_Pm_init_112 : decode k_Pm_init.code 112 = .ok (.iload 5, 2) := by decide +kernel
theorem s_Pm_init_114 : SiteI k_Pm_init k_Re_init 114 2 := ⟨62, by decide +kernel, ⟨kw_Re_init, tx1 9 rfl rfl, by decide, by decide⟩, rfl, rfl, rfl, Or.inl (tx1 173 rfl rfl), tx1 174 rfl rfl, ⟨by decide +kernel, by decide +kernel⟩, np_Re_init⟩
theorem p_Pm_init_117 : SiteP k_Pm_init 117 7 6 (.object "PhotoModels$Relief") := ⟨63, 7, R_Pm, "PhotoModels", F_Pm, t_Pm, t_Pm_ok, n_Pm, by decide +kernel, tx1 214 rfl rfl, i_Pm, rfl, Or.inr ⟨rfl, rfl, rfl⟩, rfl, by decide, rfl⟩
theorem d_Pm_init_120 : decode k_Pm_init.code 120 = .ok (.return_, 1) := by decide +kernel
theorem d_Pm_within_0 : decode k_Pm_within.code 0 = .ok (.iload_n 1, 1) := by decide +kernel
theorem d_Pm_within_1 : decode k_Pm_within.code 1 = .ok (.iload_n 2, 1) := by decide +kernel
theorem d_Pm_within_2 : decode k_Pm_within.code 2 = .ok (.iload_n 0, 1) := by decide +kernel
theorem s_Pm_within_3 : SiteM k_Pm_within 3 Lib.Math.min.name Lib.Math.min.code 2 := ⟨197, by decide +kernel, tx1 30 rfl rfl, tx1 31 rfl rfl, tx1 2 rfl rfl, tx1 32 rfl rfl, by decide, by decide⟩
theorem s_Pm_within_6 : SiteM k_Pm_within 6 Lib.Math.max.name Lib.Math.max.code 2 := ⟨202, by decide +kernel, tx1 33 rfl rfl, tx1 34 rfl rfl, tx1 2 rfl rfl, tx1 35 rfl rfl, by decide, by decide⟩
theorem d_Pm_within_9 : decode k_Pm_within.code 9 = .ok (.ireturn, 1) := by decide +kernel
theorem d_Pm_sum_0 : decode k_Pm_sum.code 0 = .ok (.aload_n 0, 1) := by decide +kernel
theorem g_Pm_sum_1 : SiteG k_Pm_sum 1 7 4 := ⟨49, 7, R_Pm, "PhotoModels", F_Pm, by decide +kernel, tx1 212 rfl rfl, i_Pm, rfl, rfl, by decide⟩
theorem d_Pm_sum_4 : decode k_Pm_sum.code 4 = .ok (.aload_n 0, 1) := by decide +kernel
theorem g_Pm_sum_5 : SiteG k_Pm_sum 5 7 2 := ⟨32, 7, R_Pm, "PhotoModels", F_Pm, by decide +kernel, tx1 210 rfl rfl, i_Pm, rfl, rfl, by decide⟩
theorem s_Pm_sum_8 : SiteV k_Pm_sum k_Ad_total 8 0 1 := ⟨146, (R_Ad, F_Ad, 4), by decide +kernel, ⟨kw_Ad_total, tx1 7 rfl rfl, by decide, by decide⟩, tx1 234 rfl rfl, tx1 235 rfl rfl, tx1 236 rfl rfl, rfl, ⟨by decide +kernel, by decide +kernel⟩, np_Ad_total⟩
theorem d_Pm_sum_11 : decode k_Pm_sum.code 11 = .ok (.lreturn, 1) := by decide +kernel
theorem d_Pm_pixel_0 : decode k_Pm_pixel.code 0 = .ok (.iload_n 1, 1) := by decide +kernel
theorem s_Pm_pixel_1 : SiteS k_Pm_pixel k_Pm_isPhoto 1 1 := ⟨67, by decide +kernel, ⟨kw_Pm_isPhoto, tx1 1 rfl rfl, by decide, by decide⟩, Or.inl (tx2 39 rfl rfl), tx2 40 rfl rfl, ⟨by decide +kernel, by decide +kernel⟩, np_Pm_isPhoto⟩
theorem d_Pm_pixel_4 : decode k_Pm_pixel.code 4 = .ok (.ifCond .eq 19, 3) := by decide +kernel
theorem d_Pm_pixel_7 : decode k_Pm_pixel.code 7 = .ok (.aload_n 0, 1) := by decide +kernel
theorem g_Pm_pixel_8 : SiteG k_Pm_pixel 8 7 0 := ⟨18, 7, R_Pm, "PhotoModels", F_Pm, by decide +kernel, tx1 208 rfl rfl, i_Pm, rfl, rfl, by decide⟩
theorem d_Pm_pixel_11 : decode k_Pm_pixel.code 11 = .ok (.iload_n 2, 1) := by decide +kernel
theorem d_Pm_pixel_12 : decode k_Pm_pixel.code 12 = .ok (.iload_n 3, 1) := by decide +kernel
theorem s_Pm_pixel_13 : SiteV k_Pm_pixel k_Ph_hasCell 13 3 2 := ⟨71, (R_Ph, F_Ph, 3), by decide +kernel, ⟨kw_Ph_hasCell, tx1 3 rfl rfl, by decide, by decide⟩, tx2 45 rfl rfl, tx2 46 rfl rfl, tx2 47 rfl rfl, rfl, ⟨by decide +kernel, by decide +kernel⟩, np_Ph_hasCell⟩
theorem d_Pm_pixel_16 : decode k_Pm_pixel.code 16 = .ok (.ifCond .eq 7, 3) := by decide +kernel
theorem d_Pm_pixel_19 : decode k_Pm_pixel.code 19 = .ok (.iconst 1, 1) := by decide +kernel
theorem d_Pm_pixel_20 : decode k_Pm_pixel.code 20 = .ok (.goto 4, 3) := by decide +kernel
theorem d_Pm_pixel_23 : decode k_Pm_pixel.code 23 = .ok (.iconst 0, 1) := by decide +kernel
theorem s_Pm_pixel_24 : SiteS k_Pm_pixel k_Pm_needIndex 24 1 := ⟨75, by decide +kernel, ⟨kw_Pm_needIndex, tx1 1 rfl rfl, by decide, by decide⟩, Or.inl (tx2 50 rfl rfl), tx2 51 rfl rfl, ⟨by decide +kernel, by decide +kernel⟩, np_Pm_needIndex⟩
theorem d_Pm_pixel_27 : decode k_Pm_pixel.code 27 = .ok (.iload 4, 2) := by decide +kernel
theorem d_Pm_pixel_29 : decode k_Pm_pixel.code 29 = .ok (.iconst 0, 1) := by decide +kernel
theorem d_Pm_pixel_30 : decode k_Pm_pixel.code 30 = .ok (.sipush 255, 3) := by decide +kernel
theorem s_Pm_pixel_33 : SiteS k_Pm_pixel k_Pm_isWithin 33 3 := ⟨79, by decide +kernel, ⟨kw_Pm_isWithin, tx1 1 rfl rfl, by decide, by decide⟩, Or.inl (tx2 42 rfl rfl), tx2 43 rfl rfl, ⟨by decide +kernel, by decide +kernel⟩, np_Pm_isWithin⟩
theorem s_Pm_pixel_36 : SiteS k_Pm_pixel k_Pm_needArgument 36 1 := ⟨83, by decide +kernel, ⟨kw_Pm_needArgument, tx1 1 rfl rfl, by decide, by decide⟩, Or.inl (tx2 121 rfl rfl), tx2 122 rfl rfl, ⟨by decide +kernel, by decide +kernel⟩, np_Pm_needArgument⟩
theorem d_Pm_pixel_39 : decode k_Pm_pixel.code 39 = .ok (.aload_n 0, 1) := by decide +kernel
theorem g_Pm_pixel_40 : SiteG k_Pm_pixel 40 7 0 := ⟨18, 7, R_Pm, "PhotoModels", F_Pm, by decide +kernel, tx1 208 rfl rfl, i_Pm, rfl, rfl, by decide⟩
theorem d_Pm_pixel_43 : decode k_Pm_pixel.code 43 = .ok (.iload_n 1, 1) := by decide +kernel
theorem d_Pm_pixel_44 : decode k_Pm_pixel.code 44 = .ok (.iload_n 2, 1) := by decide +kernel
theorem d_Pm_pixel_45 : decode k_Pm_pixel.code 45 = .ok (.iload_n 3, 1) := by decide +kernel
theorem d_Pm_pixel_46 : decode k_Pm_pixel.code 46 = .ok (.iload 4, 2) := by decide +kernel
theorem s_Pm_pixel_48 : SiteV k_Pm_pixel k_Ph_change 48 3 4 := ⟨86, (R_Ph, F_Ph, 3), by decide +kernel, ⟨kw_Ph_change, tx1 3 rfl rfl, by decide, by decide⟩, tx2 140 rfl rfl, tx2 141 rfl rfl, tx2 142 rfl rfl, rfl, ⟨by decide +kernel, by decide +kernel⟩, np_Ph_change⟩
theorem d_Pm_pixel_51 : decode k_Pm_pixel.code 51 = .ok (.ireturn, 1) := by decide +kernel
theorem d_Pm_isPhoto_0 : decode k_Pm_isPhoto.code 0 = .ok (.iload_n 0, 1) := by decide +kernel
theorem d_Pm_isPhoto_1 : decode k_Pm_isPhoto.code 1 = .ok (.iconst 0, 1) := by decide +kernel
theorem d_Pm_isPhoto_2 : decode k_Pm_isPhoto.code 2 = .ok (.iconst 3, 1) := by decide +kernel
theorem s_Pm_isPhoto_3 : SiteS k_Pm_isPhoto k_Pm_isWithin 3 3 := ⟨79, by decide +kernel, ⟨kw_Pm_isWithin, tx1 1 rfl rfl, by decide, by decide⟩, Or.inl (tx2 42 rfl rfl), tx2 43 rfl rfl, ⟨by decide +kernel, by decide +kernel⟩, np_Pm_isWithin⟩
theorem d_Pm_isPhoto_6 : decode k_Pm_isPhoto.code 6 = .ok (.ireturn, 1) := by decide +kernel
theorem d_Pm_isWithin_0 : decode k_Pm_isWithin.code 0 = .ok (.iload_n 0, 1) := by decide +kernel
theorem d_Pm_isWithin_1 : decode k_Pm_isWithin.code 1 = .ok (.iload_n 1, 1) := by decide +kernel
theorem d_Pm_isWithin_2 : decode k_Pm_isWithin.code 2 = .ok (.if_icmp .lt 12, 3) := by decide +kernel
theorem d_Pm_isWithin_5 : decode k_Pm_isWithin.code 5 = .ok (.iload_n 0, 1) := by decide +kernel
theorem d_Pm_isWithin_6 : decode k_Pm_isWithin.code 6 = .ok (.iload_n 2, 1) := by decide +kernel
theorem d_Pm_isWithin_7 : decode k_Pm_isWithin.code 7 = .ok (.if_icmp .gt 7, 3) := by decide +kernel
theorem d_Pm_isWithin_10 : decode k_Pm_isWithin.code 10 = .ok (.iconst 1, 1) := by decide +kernel
theorem d_Pm_isWithin_11 : decode k_Pm_isWithin.code 11 = .ok (.goto 4, 3) := by decide +kernel
theorem d_Pm_isWithin_14 : decode k_Pm_isWithin.code 14 = .ok (.iconst 0, 1) := by decide +kernel
theorem d_Pm_isWithin_15 : decode k_Pm_isWithin.code 15 = .ok (.ireturn, 1) := by decide +kernel
theorem d_Pm_needIndex_0 : decode k_Pm_needIndex.code 0 = .ok (.iload_n 0, 1) := by decide +kernel
theorem d_Pm_needIndex_1 : decode k_Pm_needIndex.code 1 = .ok (.ifCond .ne 13, 3) := by decide +kernel
theorem d_Pm_needIndex_4 : decode k_Pm_needIndex.code 4 = .ok (.new 190, 3) := by decide +kernel
theorem d_Pm_needIndex_7 : decode k_Pm_needIndex.code 7 = .ok (.dup, 1) := by decide +kernel
theorem d_Pm_needIndex_8 : decode k_Pm_needIndex.code 8 = .ok (.ldc 205, 2) := by decide +kernel
theorem d_Pm_needIndex_10 : decode k_Pm_needIndex.code 10 = .ok (.invokespecial 194, 3) := by decide +kernel
theorem d_Pm_needIndex_13 : decode k_Pm_needIndex.code 13 = .ok (.athrow, 1) := by decide +kernel
theorem d_Pm_needIndex_14 : decode k_Pm_needIndex.code 14 = .ok (.return_, 1) := by decide +kernel
theorem d_Pm_needArgument_0 : decode k_Pm_needArgument.code 0 = .ok (.iload_n 0, 1) := by decide +kernel
theorem d_Pm_needArgument_1 : decode k_Pm_needArgument.code 1 = .ok (.ifCond .ne 13, 3) := by decide +kernel
theorem d_Pm_needArgument_4 : decode k_Pm_needArgument.code 4 = .ok (.new 207, 3) := by decide +kernel
theorem d_Pm_needArgument_7 : decode k_Pm_needArgument.code 7 = .ok (.dup, 1) := by decide +kernel
theorem d_Pm_needArgument_8 : decode k_Pm_needArgument.code 8 = .ok (.ldc 209, 2) := by decide +kernel
theorem d_Pm_needArgument_10 : decode k_Pm_needArgument.code 10 = .ok (.invokespecial 211, 3) := by decide +kernel
theorem d_Pm_needArgument_13 : decode k_Pm_needArgument.code 13 = .ok (.athrow, 1) := by decide +kernel
theorem d_Pm_needArgument_14 : decode k_Pm_needArgument.code 14 = .ok (.return_, 1) := by decide +kernel
theorem d_Pm_match_0 : decode k_Pm_match.code 0 = .ok (.iload_n 1, 1) := by decide +kernel
theorem s_Pm_match_1 : SiteS k_Pm_match k_Pm_isPhoto 1 1 := ⟨67, by decide +kernel, ⟨kw_Pm_isPhoto, tx1 1 rfl rfl, by decide, by decide⟩, Or.inl (tx2 39 rfl rfl), tx2 40 rfl rfl, ⟨by decide +kernel, by decide +kernel⟩, np_Pm_isPhoto⟩
theorem d_Pm_match_4 : decode k_Pm_match.code 4 = .ok (.ifCond .eq 27, 3) := by decide +kernel
theorem d_Pm_match_7 : decode k_Pm_match.code 7 = .ok (.iload_n 2, 1) := by decide +kernel
theorem s_Pm_match_8 : SiteS k_Pm_match k_Pm_isPhoto 8 1 := ⟨67, by decide +kernel, ⟨kw_Pm_isPhoto, tx1 1 rfl rfl, by decide, by decide⟩, Or.inl (tx2 39 rfl rfl), tx2 40 rfl rfl, ⟨by decide +kernel, by decide +kernel⟩, np_Pm_isPhoto⟩
theorem d_Pm_match_11 : decode k_Pm_match.code 11 = .ok (.ifCond .eq 20, 3) := by decide +kernel
theorem d_Pm_match_14 : decode k_Pm_match.code 14 = .ok (.aload_n 0, 1) := by decide +kernel
theorem g_Pm_match_15 : SiteG k_Pm_match 15 7 0 := ⟨18, 7, R_Pm, "PhotoModels", F_Pm, by decide +kernel, tx1 208 rfl rfl, i_Pm, rfl, rfl, by decide⟩
theorem d_Pm_match_18 : decode k_Pm_match.code 18 = .ok (.iload_n 3, 1) := by decide +kernel
theorem d_Pm_match_19 : decode k_Pm_match.code 19 = .ok (.iload 4, 2) := by decide +kernel
theorem s_Pm_match_21 : SiteV k_Pm_match k_Ph_hasWindow 21 3 2 := ⟨90, (R_Ph, F_Ph, 3), by decide +kernel, ⟨kw_Ph_hasWindow, tx1 3 rfl rfl, by decide, by decide⟩, tx2 155 rfl rfl, tx2 156 rfl rfl, tx2 157 rfl rfl, rfl, ⟨by decide +kernel, by decide +kernel⟩, np_Ph_hasWindow⟩
theorem d_Pm_match_24 : decode k_Pm_match.code 24 = .ok (.ifCond .eq 7, 3) := by decide +kernel
theorem d_Pm_match_27 : decode k_Pm_match.code 27 = .ok (.iconst 1, 1) := by decide +kernel
theorem d_Pm_match_28 : decode k_Pm_match.code 28 = .ok (.goto 4, 3) := by decide +kernel
theorem d_Pm_match_31 : decode k_Pm_match.code 31 = .ok (.iconst 0, 1) := by decide +kernel
theorem s_Pm_match_32 : SiteS k_Pm_match k_Pm_needIndex 32 1 := ⟨75, by decide +kernel, ⟨kw_Pm_needIndex, tx1 1 rfl rfl, by decide, by decide⟩, Or.inl (tx2 50 rfl rfl), tx2 51 rfl rfl, ⟨by decide +kernel, by decide +kernel⟩, np_Pm_needIndex⟩
theorem d_Pm_match_35 : decode k_Pm_match.code 35 = .ok (.aload_n 0, 1) := by decide +kernel
theorem g_Pm_match_36 : SiteG k_Pm_match 36 7 1 := ⟨25, 7, R_Pm, "PhotoModels", F_Pm, by decide +kernel, tx1 209 rfl rfl, i_Pm, rfl, rfl, by decide⟩
theorem d_Pm_match_39 : decode k_Pm_match.code 39 = .ok (.aload_n 0, 1) := by decide +kernel
theorem g_Pm_match_40 : SiteG k_Pm_match 40 7 0 := ⟨18, 7, R_Pm, "PhotoModels", F_Pm, by decide +kernel, tx1 208 rfl rfl, i_Pm, rfl, rfl, by decide⟩
theorem d_Pm_match_43 : decode k_Pm_match.code 43 = .ok (.iload_n 1, 1) := by decide +kernel
theorem d_Pm_match_44 : decode k_Pm_match.code 44 = .ok (.iload_n 2, 1) := by decide +kernel
theorem d_Pm_match_45 : decode k_Pm_match.code 45 = .ok (.iload_n 3, 1) := by decide +kernel
theorem d_Pm_match_46 : decode k_Pm_match.code 46 = .ok (.iload 4, 2) := by decide +kernel
theorem s_Pm_match_48 : SiteV k_Pm_match k_Se_look 48 6 5 := ⟨93, (R_Se, F_Se, 7), by decide +kernel, ⟨kw_Se_look, tx1 4 rfl rfl, by decide, by decide⟩, tx2 159 rfl rfl, tx2 160 rfl rfl, tx2 161 rfl rfl, rfl, ⟨by decide +kernel, by decide +kernel⟩, np_Se_look⟩
theorem d_Pm_match_51 : decode k_Pm_match.code 51 = .ok (.ireturn, 1) := by decide +kernel
theorem d_Pm_found_0 : decode k_Pm_found.code 0 = .ok (.iload_n 1, 1) := by decide +kernel
theorem d_Pm_found_1 : decode k_Pm_found.code 1 = .ok (.iconst 0, 1) := by decide +kernel
theorem d_Pm_found_2 : decode k_Pm_found.code 2 = .ok (.iconst 2, 1) := by decide +kernel
theorem s_Pm_found_3 : SiteS k_Pm_found k_Pm_isWithin 3 3 := ⟨79, by decide +kernel, ⟨kw_Pm_isWithin, tx1 1 rfl rfl, by decide, by decide⟩, Or.inl (tx2 42 rfl rfl), tx2 43 rfl rfl, ⟨by decide +kernel, by decide +kernel⟩, np_Pm_isWithin⟩
theorem s_Pm_found_6 : SiteS k_Pm_found k_Pm_needIndex 6 1 := ⟨75, by decide +kernel, ⟨kw_Pm_needIndex, tx1 1 rfl rfl, by decide, by decide⟩, Or.inl (tx2 50 rfl rfl), tx2 51 rfl rfl, ⟨by decide +kernel, by decide +kernel⟩, np_Pm_needIndex⟩
theorem d_Pm_found_9 : decode k_Pm_found.code 9 = .ok (.aload_n 0, 1) := by decide +kernel
theorem g_Pm_found_10 : SiteG k_Pm_found 10 7 1 := ⟨25, 7, R_Pm, "PhotoModels", F_Pm, by decide +kernel, tx1 209 rfl rfl, i_Pm, rfl, rfl, by decide⟩
theorem s_Pm_found_13 : SiteV k_Pm_found k_Se_isDone 13 6 0 := ⟨97, (R_Se, F_Se, 7), by decide +kernel, ⟨kw_Se_isDone, tx1 4 rfl rfl, by decide, by decide⟩, tx2 187 rfl rfl, tx2 188 rfl rfl, tx2 189 rfl rfl, rfl, ⟨by decide +kernel, by decide +kernel⟩, np_Se_isDone⟩
theorem s_Pm_found_16 : SiteS k_Pm_found k_Pm_needState 16 1 := ⟨101, by decide +kernel, ⟨kw_Pm_needState, tx1 1 rfl rfl, by decide, by decide⟩, Or.inl (tx2 191 rfl rfl), tx2 192 rfl rfl, ⟨by decide +kernel, by decide +kernel⟩, np_Pm_needState⟩
theorem d_Pm_found_19 : decode k_Pm_found.code 19 = .ok (.aload_n 0, 1) := by decide +kernel
theorem g_Pm_found_20 : SiteG k_Pm_found 20 7 1 := ⟨25, 7, R_Pm, "PhotoModels", F_Pm, by decide +kernel, tx1 209 rfl rfl, i_Pm, rfl, rfl, by decide⟩
theorem d_Pm_found_23 : decode k_Pm_found.code 23 = .ok (.iload_n 1, 1) := by decide +kernel
theorem s_Pm_found_24 : SiteV k_Pm_found k_Se_answer 24 6 1 := ⟨104, (R_Se, F_Se, 7), by decide +kernel, ⟨kw_Se_answer, tx1 4 rfl rfl, by decide, by decide⟩, tx2 210 rfl rfl, tx2 211 rfl rfl, tx2 212 rfl rfl, rfl, ⟨by decide +kernel, by decide +kernel⟩, np_Se_answer⟩
theorem d_Pm_found_27 : decode k_Pm_found.code 27 = .ok (.ireturn, 1) := by decide +kernel
theorem d_Pm_needState_0 : decode k_Pm_needState.code 0 = .ok (.iload_n 0, 1) := by decide +kernel
theorem d_Pm_needState_1 : decode k_Pm_needState.code 1 = .ok (.ifCond .ne 13, 3) := by decide +kernel
theorem d_Pm_needState_4 : decode k_Pm_needState.code 4 = .ok (.new 212, 3) := by decide +kernel
theorem d_Pm_needState_7 : decode k_Pm_needState.code 7 = .ok (.dup, 1) := by decide +kernel
theorem d_Pm_needState_8 : decode k_Pm_needState.code 8 = .ok (.ldc 214, 2) := by decide +kernel
theorem d_Pm_needState_10 : decode k_Pm_needState.code 10 = .ok (.invokespecial 216, 3) := by decide +kernel
theorem d_Pm_needState_13 : decode k_Pm_needState.code 13 = .ok (.athrow, 1) := by decide +kernel
theorem d_Pm_needState_14 : decode k_Pm_needState.code 14 = .ok (.return_, 1) := by decide +kernel
theorem d_Pm_place_0 : decode k_Pm_place.code 0 = .ok (.aload_n 0, 1) := by decide +kernel
theorem g_Pm_place_1 : SiteG k_Pm_place 1 7 2 := ⟨32, 7, R_Pm, "PhotoModels", F_Pm, by decide +kernel, tx1 210 rfl rfl, i_Pm, rfl, rfl, by decide⟩
theorem s_Pm_place_4 : SiteV k_Pm_place k_Pl_number 4 4 0 := ⟨108, (R_Pl, F_Pl, 5), by decide +kernel, ⟨kw_Pl_number, tx1 5 rfl rfl, by decide, by decide⟩, tx2 221 rfl rfl, tx1 239 rfl rfl, tx2 0 rfl rfl, rfl, ⟨by decide +kernel, by decide +kernel⟩, np_Pl_number⟩
theorem d_Pm_place_7 : decode k_Pm_place.code 7 = .ok (.bipush 12, 2) := by decide +kernel
theorem d_Pm_place_9 : decode k_Pm_place.code 9 = .ok (.if_icmp .ge 7, 3) := by decide +kernel
theorem d_Pm_place_12 : decode k_Pm_place.code 12 = .ok (.iconst 1, 1) := by decide +kernel
theorem d_Pm_place_13 : decode k_Pm_place.code 13 = .ok (.goto 4, 3) := by decide +kernel
theorem d_Pm_place_16 : decode k_Pm_place.code 16 = .ok (.iconst 0, 1) := by decide +kernel
theorem s_Pm_place_17 : SiteS k_Pm_place k_Pm_needState 17 1 := ⟨101, by decide +kernel, ⟨kw_Pm_needState, tx1 1 rfl rfl, by decide, by decide⟩, Or.inl (tx2 191 rfl rfl), tx2 192 rfl rfl, ⟨by decide +kernel, by decide +kernel⟩, np_Pm_needState⟩
theorem d_Pm_place_20 : decode k_Pm_place.code 20 = .ok (.aload_n 0, 1) := by decide +kernel
theorem g_Pm_place_21 : SiteG k_Pm_place 21 7 2 := ⟨32, 7, R_Pm, "PhotoModels", F_Pm, by decide +kernel, tx1 210 rfl rfl, i_Pm, rfl, rfl, by decide⟩
theorem s_Pm_place_24 : SiteV k_Pm_place k_Pl_add 24 4 0 := ⟨112, (R_Pl, F_Pl, 5), by decide +kernel, ⟨kw_Pl_add, tx1 5 rfl rfl, by decide, by decide⟩, tx2 222 rfl rfl, tx2 223 rfl rfl, tx2 224 rfl rfl, rfl, ⟨by decide +kernel, by decide +kernel⟩, np_Pl_add⟩
theorem d_Pm_place_27 : decode k_Pm_place.code 27 = .ok (.ireturn, 1) := by decide +kernel
theorem d_Pm_seen_0 : decode k_Pm_seen.code 0 = .ok (.aload_n 0, 1) := by decide +kernel
theorem g_Pm_seen_1 : SiteG k_Pm_seen 1 7 2 := ⟨32, 7, R_Pm, "PhotoModels", F_Pm, by decide +kernel, tx1 210 rfl rfl, i_Pm, rfl, rfl, by decide⟩
theorem d_Pm_seen_4 : decode k_Pm_seen.code 4 = .ok (.iload_n 1, 1) := by decide +kernel
theorem s_Pm_seen_5 : SiteV k_Pm_seen k_Pl_has 5 4 1 := ⟨115, (R_Pl, F_Pl, 5), by decide +kernel, ⟨kw_Pl_has, tx1 5 rfl rfl, by decide, by decide⟩, tx2 233 rfl rfl, tx2 234 rfl rfl, tx2 235 rfl rfl, rfl, ⟨by decide +kernel, by decide +kernel⟩, np_Pl_has⟩
theorem d_Pm_seen_8 : decode k_Pm_seen.code 8 = .ok (.ifCond .eq 14, 3) := by decide +kernel
theorem d_Pm_seen_11 : decode k_Pm_seen.code 11 = .ok (.iload_n 2, 1) := by decide +kernel
theorem s_Pm_seen_12 : SiteS k_Pm_seen k_Pm_isPhoto 12 1 := ⟨67, by decide +kernel, ⟨kw_Pm_isPhoto, tx1 1 rfl rfl, by decide, by decide⟩, Or.inl (tx2 39 rfl rfl), tx2 40 rfl rfl, ⟨by decide +kernel, by decide +kernel⟩, np_Pm_isPhoto⟩
theorem d_Pm_seen_15 : decode k_Pm_seen.code 15 = .ok (.ifCond .eq 7, 3) := by decide +kernel
theorem d_Pm_seen_18 : decode k_Pm_seen.code 18 = .ok (.iconst 1, 1) := by decide +kernel
theorem d_Pm_seen_19 : decode k_Pm_seen.code 19 = .ok (.goto 4, 3) := by decide +kernel
theorem d_Pm_seen_22 : decode k_Pm_seen.code 22 = .ok (.iconst 0, 1) := by decide +kernel
theorem s_Pm_seen_23 : SiteS k_Pm_seen k_Pm_needIndex 23 1 := ⟨75, by decide +kernel, ⟨kw_Pm_needIndex, tx1 1 rfl rfl, by decide, by decide⟩, Or.inl (tx2 50 rfl rfl), tx2 51 rfl rfl, ⟨by decide +kernel, by decide +kernel⟩, np_Pm_needIndex⟩
theorem d_Pm_seen_26 : decode k_Pm_seen.code 26 = .ok (.iload_n 3, 1) := by decide +kernel
theorem d_Pm_seen_27 : decode k_Pm_seen.code 27 = .ok (.ifCond .lt 22, 3) := by decide +kernel
theorem d_Pm_seen_30 : decode k_Pm_seen.code 30 = .ok (.iload_n 3, 1) := by decide +kernel
theorem d_Pm_seen_31 : decode k_Pm_seen.code 31 = .ok (.sipush 999, 3) := by decide +kernel
theorem d_Pm_seen_34 : decode k_Pm_seen.code 34 = .ok (.if_icmp .gt 19, 3) := by decide +kernel
theorem d_Pm_seen_37 : decode k_Pm_seen.code 37 = .ok (.iload 4, 2) := by decide +kernel
theorem d_Pm_seen_39 : decode k_Pm_seen.code 39 = .ok (.iconst 0, 1) := by decide +kernel
theorem d_Pm_seen_40 : decode k_Pm_seen.code 40 = .ok (.sipush 999, 3) := by decide +kernel
theorem s_Pm_seen_43 : SiteS k_Pm_seen k_Pm_isWithin 43 3 := ⟨79, by decide +kernel, ⟨kw_Pm_isWithin, tx1 1 rfl rfl, by decide, by decide⟩, Or.inl (tx2 42 rfl rfl), tx2 43 rfl rfl, ⟨by decide +kernel, by decide +kernel⟩, np_Pm_isWithin⟩
theorem d_Pm_seen_46 : decode k_Pm_seen.code 46 = .ok (.ifCond .eq 7, 3) := by decide +kernel
theorem d_Pm_seen_49 : decode k_Pm_seen.code 49 = .ok (.iconst 1, 1) := by decide +kernel
theorem d_Pm_seen_50 : decode k_Pm_seen.code 50 = .ok (.goto 4, 3) := by decide +kernel
theorem d_Pm_seen_53 : decode k_Pm_seen.code 53 = .ok (.iconst 0, 1) := by decide +kernel
theorem s_Pm_seen_54 : SiteS k_Pm_seen k_Pm_needArgument 54 1 := ⟨83, by decide +kernel, ⟨kw_Pm_needArgument, tx1 1 rfl rfl, by decide, by decide⟩, Or.inl (tx2 121 rfl rfl), tx2 122 rfl rfl, ⟨by decide +kernel, by decide +kernel⟩, np_Pm_needArgument⟩
theorem d_Pm_seen_57 : decode k_Pm_seen.code 57 = .ok (.iload_n 3, 1) := by decide +kernel
theorem d_Pm_seen_58 : decode k_Pm_seen.code 58 = .ok (.ifCond .ge 15, 3) := by decide +kernel
theorem d_Pm_seen_61 : decode k_Pm_seen.code 61 = .ok (.aload_n 0, 1) := by decide +kernel
theorem g_Pm_seen_62 : SiteG k_Pm_seen 62 7 2 := ⟨32, 7, R_Pm, "PhotoModels", F_Pm, by decide +kernel, tx1 210 rfl rfl, i_Pm, rfl, rfl, by decide⟩
theorem d_Pm_seen_65 : decode k_Pm_seen.code 65 = .ok (.iload_n 1, 1) := by decide +kernel
theorem d_Pm_seen_66 : decode k_Pm_seen.code 66 = .ok (.iload_n 2, 1) := by decide +kernel
theorem s_Pm_seen_67 : SiteV k_Pm_seen k_Pl_forget 67 4 2 := ⟨118, (R_Pl, F_Pl, 5), by decide +kernel, ⟨kw_Pl_forget, tx1 5 rfl rfl, by decide, by decide⟩, tx2 237 rfl rfl, tx2 238 rfl rfl, tx2 239 rfl rfl, rfl, ⟨by decide +kernel, by decide +kernel⟩, np_Pl_forget⟩
theorem d_Pm_seen_70 : decode k_Pm_seen.code 70 = .ok (.goto 15, 3) := by decide +kernel
theorem d_Pm_seen_73 : decode k_Pm_seen.code 73 = .ok (.aload_n 0, 1) := by decide +kernel
theorem g_Pm_seen_74 : SiteG k_Pm_seen 74 7 2 := ⟨32, 7, R_Pm, "PhotoModels", F_Pm, by decide +kernel, tx1 210 rfl rfl, i_Pm, rfl, rfl, by decide⟩
theorem d_Pm_seen_77 : decode k_Pm_seen.code 77 = .ok (.iload_n 1, 1) := by decide +kernel
theorem d_Pm_seen_78 : decode k_Pm_seen.code 78 = .ok (.iload_n 2, 1) := by decide +kernel
theorem d_Pm_seen_79 : decode k_Pm_seen.code 79 = .ok (.iload_n 3, 1) := by decide +kernel
theorem d_Pm_seen_80 : decode k_Pm_seen.code 80 = .ok (.iload 4, 2) := by decide +kernel
theorem s_Pm_seen_82 : SiteV k_Pm_seen k_Pl_note 82 4 4 := ⟨121, (R_Pl, F_Pl, 5), by decide +kernel, ⟨kw_Pl_note, tx1 5 rfl rfl, by decide, by decide⟩, tx3 2 rfl rfl, tx3 3 rfl rfl, tx3 4 rfl rfl, rfl, ⟨by decide +kernel, by decide +kernel⟩, np_Pl_note⟩
theorem d_Pm_seen_85 : decode k_Pm_seen.code 85 = .ok (.ireturn, 1) := by decide +kernel
theorem d_Pm_relative_0 : decode k_Pm_relative.code 0 = .ok (.iload_n 1, 1) := by decide +kernel
theorem s_Pm_relative_1 : SiteS k_Pm_relative k_Pm_isPhoto 1 1 := ⟨67, by decide +kernel, ⟨kw_Pm_isPhoto, tx1 1 rfl rfl, by decide, by decide⟩, Or.inl (tx2 39 rfl rfl), tx2 40 rfl rfl, ⟨by decide +kernel, by decide +kernel⟩, np_Pm_isPhoto⟩
theorem d_Pm_relative_4 : decode k_Pm_relative.code 4 = .ok (.ifCond .eq 14, 3) := by decide +kernel
theorem d_Pm_relative_7 : decode k_Pm_relative.code 7 = .ok (.iload_n 2, 1) := by decide +kernel
theorem s_Pm_relative_8 : SiteS k_Pm_relative k_Pm_isPhoto 8 1 := ⟨67, by decide +kernel, ⟨kw_Pm_isPhoto, tx1 1 rfl rfl, by decide, by decide⟩, Or.inl (tx2 39 rfl rfl), tx2 40 rfl rfl, ⟨by decide +kernel, by decide +kernel⟩, np_Pm_isPhoto⟩
theorem d_Pm_relative_11 : decode k_Pm_relative.code 11 = .ok (.ifCond .eq 7, 3) := by decide +kernel
theorem d_Pm_relative_14 : decode k_Pm_relative.code 14 = .ok (.iconst 1, 1) := by decide +kernel
theorem d_Pm_relative_15 : decode k_Pm_relative.code 15 = .ok (.goto 4, 3) := by decide +kernel
theorem d_Pm_relative_18 : decode k_Pm_relative.code 18 = .ok (.iconst 0, 1) := by decide +kernel
theorem s_Pm_relative_19 : SiteS k_Pm_relative k_Pm_needIndex 19 1 := ⟨75, by decide +kernel, ⟨kw_Pm_needIndex, tx1 1 rfl rfl, by decide, by decide⟩, Or.inl (tx2 50 rfl rfl), tx2 51 rfl rfl, ⟨by decide +kernel, by decide +kernel⟩, np_Pm_needIndex⟩
theorem d_Pm_relative_22 : decode k_Pm_relative.code 22 = .ok (.iload_n 3, 1) := by decide +kernel
theorem d_Pm_relative_23 : decode k_Pm_relative.code 23 = .ok (.iconst 1, 1) := by decide +kernel
theorem d_Pm_relative_24 : decode k_Pm_relative.code 24 = .ok (.bipush 20, 2) := by decide +kernel
theorem s_Pm_relative_26 : SiteS k_Pm_relative k_Pm_isWithin 26 3 := ⟨79, by decide +kernel, ⟨kw_Pm_isWithin, tx1 1 rfl rfl, by decide, by decide⟩, Or.inl (tx2 42 rfl rfl), tx2 43 rfl rfl, ⟨by decide +kernel, by decide +kernel⟩, np_Pm_isWithin⟩
theorem s_Pm_relative_29 : SiteS k_Pm_relative k_Pm_needArgument 29 1 := ⟨83, by decide +kernel, ⟨kw_Pm_needArgument, tx1 1 rfl rfl, by decide, by decide⟩, Or.inl (tx2 121 rfl rfl), tx2 122 rfl rfl, ⟨by decide +kernel, by decide +kernel⟩, np_Pm_needArgument⟩
theorem d_Pm_relative_32 : decode k_Pm_relative.code 32 = .ok (.iload 4, 2) := by decide +kernel
theorem d_Pm_relative_34 : decode k_Pm_relative.code 34 = .ok (.iconst 0, 1) := by decide +kernel
theorem d_Pm_relative_35 : decode k_Pm_relative.code 35 = .ok (.bipush 100, 2) := by decide +kernel
theorem s_Pm_relative_37 : SiteS k_Pm_relative k_Pm_isWithin 37 3 := ⟨79, by decide +kernel, ⟨kw_Pm_isWithin, tx1 1 rfl rfl, by decide, by decide⟩, Or.inl (tx2 42 rfl rfl), tx2 43 rfl rfl, ⟨by decide +kernel, by decide +kernel⟩, np_Pm_isWithin⟩
theorem s_Pm_relative_40 : SiteS k_Pm_relative k_Pm_needArgument 40 1 := ⟨83, by decide +kernel, ⟨kw_Pm_needArgument, tx1 1 rfl rfl, by decide, by decide⟩, Or.inl (tx2 121 rfl rfl), tx2 122 rfl rfl, ⟨by decide +kernel, by decide +kernel⟩, np_Pm_needArgument⟩
theorem d_Pm_relative_43 : decode k_Pm_relative.code 43 = .ok (.aload_n 0, 1) := by decide +kernel
theorem g_Pm_relative_44 : SiteG k_Pm_relative 44 7 3 := ⟨42, 7, R_Pm, "PhotoModels", F_Pm, by decide +kernel, tx1 211 rfl rfl, i_Pm, rfl, rfl, by decide⟩
theorem d_Pm_relative_47 : decode k_Pm_relative.code 47 = .ok (.aload_n 0, 1) := by decide +kernel
theorem g_Pm_relative_48 : SiteG k_Pm_relative 48 7 2 := ⟨32, 7, R_Pm, "PhotoModels", F_Pm, by decide +kernel, tx1 210 rfl rfl, i_Pm, rfl, rfl, by decide⟩
theorem d_Pm_relative_51 : decode k_Pm_relative.code 51 = .ok (.iload_n 1, 1) := by decide +kernel
theorem d_Pm_relative_52 : decode k_Pm_relative.code 52 = .ok (.iload_n 2, 1) := by decide +kernel
theorem d_Pm_relative_53 : decode k_Pm_relative.code 53 = .ok (.iload_n 3, 1) := by decide +kernel
theorem d_Pm_relative_54 : decode k_Pm_relative.code 54 = .ok (.iload 4, 2) := by decide +kernel
theorem s_Pm_relative_56 : SiteV k_Pm_relative k_Ag_draw 56 1 5 := ⟨125, (R_Ag, F_Ag, 7), by decide +kernel, ⟨kw_Ag_draw, tx1 6 rfl rfl, by decide, by decide⟩, tx3 13 rfl rfl, tx3 14 rfl rfl, tx3 15 rfl rfl, rfl, ⟨by decide +kernel, by decide +kernel⟩, np_Ag_draw⟩
theorem d_Pm_relative_59 : decode k_Pm_relative.code 59 = .ok (.ireturn, 1) := by decide +kernel
theorem d_Pm_shift_0 : decode k_Pm_shift.code 0 = .ok (.iload_n 1, 1) := by decide +kernel
theorem s_Pm_shift_1 : SiteS k_Pm_shift k_Pm_isAxis 1 1 := ⟨129, by decide +kernel, ⟨kw_Pm_isAxis, tx1 1 rfl rfl, by decide, by decide⟩, Or.inl (tx3 41 rfl rfl), tx3 42 rfl rfl, ⟨by decide +kernel, by decide +kernel⟩, np_Pm_isAxis⟩
theorem s_Pm_shift_4 : SiteS k_Pm_shift k_Pm_needIndex 4 1 := ⟨75, by decide +kernel, ⟨kw_Pm_needIndex, tx1 1 rfl rfl, by decide, by decide⟩, Or.inl (tx2 50 rfl rfl), tx2 51 rfl rfl, ⟨by decide +kernel, by decide +kernel⟩, np_Pm_needIndex⟩
theorem d_Pm_shift_7 : decode k_Pm_shift.code 7 = .ok (.aload_n 0, 1) := by decide +kernel
theorem g_Pm_shift_8 : SiteG k_Pm_shift 8 7 3 := ⟨42, 7, R_Pm, "PhotoModels", F_Pm, by decide +kernel, tx1 211 rfl rfl, i_Pm, rfl, rfl, by decide⟩
theorem s_Pm_shift_11 : SiteV k_Pm_shift k_Ag_isReached 11 1 0 := ⟨132, (R_Ag, F_Ag, 7), by decide +kernel, ⟨kw_Ag_isReached, tx1 6 rfl rfl, by decide, by decide⟩, tx3 44 rfl rfl, tx3 45 rfl rfl, tx3 46 rfl rfl, rfl, ⟨by decide +kernel, by decide +kernel⟩, np_Ag_isReached⟩
theorem s_Pm_shift_14 : SiteS k_Pm_shift k_Pm_needState 14 1 := ⟨101, by decide +kernel, ⟨kw_Pm_needState, tx1 1 rfl rfl, by decide, by decide⟩, Or.inl (tx2 191 rfl rfl), tx2 192 rfl rfl, ⟨by decide +kernel, by decide +kernel⟩, np_Pm_needState⟩
theorem d_Pm_shift_17 : decode k_Pm_shift.code 17 = .ok (.aload_n 0, 1) := by decide +kernel
theorem g_Pm_shift_18 : SiteG k_Pm_shift 18 7 3 := ⟨42, 7, R_Pm, "PhotoModels", F_Pm, by decide +kernel, tx1 211 rfl rfl, i_Pm, rfl, rfl, by decide⟩
theorem d_Pm_shift_21 : decode k_Pm_shift.code 21 = .ok (.iload_n 1, 1) := by decide +kernel
theorem s_Pm_shift_22 : SiteV k_Pm_shift k_Ag_along 22 1 1 := ⟨135, (R_Ag, F_Ag, 7), by decide +kernel, ⟨kw_Ag_along, tx1 6 rfl rfl, by decide, by decide⟩, tx3 48 rfl rfl, tx3 49 rfl rfl, tx3 50 rfl rfl, rfl, ⟨by decide +kernel, by decide +kernel⟩, np_Ag_along⟩
theorem d_Pm_shift_25 : decode k_Pm_shift.code 25 = .ok (.ireturn, 1) := by decide +kernel
theorem d_Pm_isAxis_0 : decode k_Pm_isAxis.code 0 = .ok (.iload_n 0, 1) := by decide +kernel
theorem d_Pm_isAxis_1 : decode k_Pm_isAxis.code 1 = .ok (.iconst 0, 1) := by decide +kernel
theorem d_Pm_isAxis_2 : decode k_Pm_isAxis.code 2 = .ok (.iconst 1, 1) := by decide +kernel
theorem s_Pm_isAxis_3 : SiteS k_Pm_isAxis k_Pm_isWithin 3 3 := ⟨79, by decide +kernel, ⟨kw_Pm_isWithin, tx1 1 rfl rfl, by decide, by decide⟩, Or.inl (tx2 42 rfl rfl), tx2 43 rfl rfl, ⟨by decide +kernel, by decide +kernel⟩, np_Pm_isWithin⟩
theorem d_Pm_isAxis_6 : decode k_Pm_isAxis.code 6 = .ok (.ireturn, 1) := by decide +kernel
theorem d_Pm_spare_0 : decode k_Pm_spare.code 0 = .ok (.aload_n 0, 1) := by decide +kernel
theorem g_Pm_spare_1 : SiteG k_Pm_spare 1 7 2 := ⟨32, 7, R_Pm, "PhotoModels", F_Pm, by decide +kernel, tx1 210 rfl rfl, i_Pm, rfl, rfl, by decide⟩
theorem d_Pm_spare_4 : decode k_Pm_spare.code 4 = .ok (.iload_n 1, 1) := by decide +kernel
theorem s_Pm_spare_5 : SiteV k_Pm_spare k_Pl_has 5 4 1 := ⟨115, (R_Pl, F_Pl, 5), by decide +kernel, ⟨kw_Pl_has, tx1 5 rfl rfl, by decide, by decide⟩, tx2 233 rfl rfl, tx2 234 rfl rfl, tx2 235 rfl rfl, rfl, ⟨by decide +kernel, by decide +kernel⟩, np_Pl_has⟩
theorem s_Pm_spare_8 : SiteS k_Pm_spare k_Pm_needIndex 8 1 := ⟨75, by decide +kernel, ⟨kw_Pm_needIndex, tx1 1 rfl rfl, by decide, by decide⟩, Or.inl (tx2 50 rfl rfl), tx2 51 rfl rfl, ⟨by decide +kernel, by decide +kernel⟩, np_Pm_needIndex⟩
theorem d_Pm_spare_11 : decode k_Pm_spare.code 11 = .ok (.aload_n 0, 1) := by decide +kernel
theorem g_Pm_spare_12 : SiteG k_Pm_spare 12 7 2 := ⟨32, 7, R_Pm, "PhotoModels", F_Pm, by decide +kernel, tx1 210 rfl rfl, i_Pm, rfl, rfl, by decide⟩
theorem d_Pm_spare_15 : decode k_Pm_spare.code 15 = .ok (.iload_n 1, 1) := by decide +kernel
theorem d_Pm_spare_16 : decode k_Pm_spare.code 16 = .ok (.iload_n 2, 1) := by decide +kernel
theorem s_Pm_spare_17 : SiteV k_Pm_spare k_Pl_setAside 17 4 2 := ⟨138, (R_Pl, F_Pl, 5), by decide +kernel, ⟨kw_Pl_setAside, tx1 5 rfl rfl, by decide, by decide⟩, tx3 59 rfl rfl, tx3 60 rfl rfl, tx3 61 rfl rfl, rfl, ⟨by decide +kernel, by decide +kernel⟩, np_Pl_setAside⟩
theorem d_Pm_spare_20 : decode k_Pm_spare.code 20 = .ok (.ireturn, 1) := by decide +kernel
theorem d_Pm_run_0 : decode k_Pm_run.code 0 = .ok (.iload_n 1, 1) := by decide +kernel
theorem d_Pm_run_1 : decode k_Pm_run.code 1 = .ok (.iconst 0, 1) := by decide +kernel
theorem d_Pm_run_2 : decode k_Pm_run.code 2 = .ok (.bipush 20, 2) := by decide +kernel
theorem s_Pm_run_4 : SiteS k_Pm_run k_Pm_isWithin 4 3 := ⟨79, by decide +kernel, ⟨kw_Pm_isWithin, tx1 1 rfl rfl, by decide, by decide⟩, Or.inl (tx2 42 rfl rfl), tx2 43 rfl rfl, ⟨by decide +kernel, by decide +kernel⟩, np_Pm_isWithin⟩
theorem s_Pm_run_7 : SiteS k_Pm_run k_Pm_needArgument 7 1 := ⟨83, by decide +kernel, ⟨kw_Pm_needArgument, tx1 1 rfl rfl, by decide, by decide⟩, Or.inl (tx2 121 rfl rfl), tx2 122 rfl rfl, ⟨by decide +kernel, by decide +kernel⟩, np_Pm_needArgument⟩
theorem d_Pm_run_10 : decode k_Pm_run.code 10 = .ok (.aload_n 0, 1) := by decide +kernel
theorem g_Pm_run_11 : SiteG k_Pm_run 11 7 4 := ⟨49, 7, R_Pm, "PhotoModels", F_Pm, by decide +kernel, tx1 212 rfl rfl, i_Pm, rfl, rfl, by decide⟩
theorem d_Pm_run_14 : decode k_Pm_run.code 14 = .ok (.aload_n 0, 1) := by decide +kernel
theorem g_Pm_run_15 : SiteG k_Pm_run 15 7 2 := ⟨32, 7, R_Pm, "PhotoModels", F_Pm, by decide +kernel, tx1 210 rfl rfl, i_Pm, rfl, rfl, by decide⟩
theorem d_Pm_run_18 : decode k_Pm_run.code 18 = .ok (.iload_n 1, 1) := by decide +kernel
theorem s_Pm_run_19 : SiteV k_Pm_run k_Ad_adjust 19 0 2 := ⟨142, (R_Ad, F_Ad, 4), by decide +kernel, ⟨kw_Ad_adjust, tx1 7 rfl rfl, by decide, by decide⟩, tx3 70 rfl rfl, tx3 71 rfl rfl, tx3 72 rfl rfl, rfl, ⟨by decide +kernel, by decide +kernel⟩, np_Ad_adjust⟩
theorem d_Pm_run_22 : decode k_Pm_run.code 22 = .ok (.ireturn, 1) := by decide +kernel
theorem d_Pm_at_0 : decode k_Pm_at.code 0 = .ok (.aload_n 0, 1) := by decide +kernel
theorem g_Pm_at_1 : SiteG k_Pm_at 1 7 2 := ⟨32, 7, R_Pm, "PhotoModels", F_Pm, by decide +kernel, tx1 210 rfl rfl, i_Pm, rfl, rfl, by decide⟩
theorem d_Pm_at_4 : decode k_Pm_at.code 4 = .ok (.iload_n 1, 1) := by decide +kernel
theorem s_Pm_at_5 : SiteV k_Pm_at k_Pl_has 5 4 1 := ⟨115, (R_Pl, F_Pl, 5), by decide +kernel, ⟨kw_Pl_has, tx1 5 rfl rfl, by decide, by decide⟩, tx2 233 rfl rfl, tx2 234 rfl rfl, tx2 235 rfl rfl, rfl, ⟨by decide +kernel, by decide +kernel⟩, np_Pl_has⟩
theorem d_Pm_at_8 : decode k_Pm_at.code 8 = .ok (.ifCond .eq 14, 3) := by decide +kernel
theorem d_Pm_at_11 : decode k_Pm_at.code 11 = .ok (.iload_n 2, 1) := by decide +kernel
theorem s_Pm_at_12 : SiteS k_Pm_at k_Pm_isAxis 12 1 := ⟨129, by decide +kernel, ⟨kw_Pm_isAxis, tx1 1 rfl rfl, by decide, by decide⟩, Or.inl (tx3 41 rfl rfl), tx3 42 rfl rfl, ⟨by decide +kernel, by decide +kernel⟩, np_Pm_isAxis⟩
theorem d_Pm_at_15 : decode k_Pm_at.code 15 = .ok (.ifCond .eq 7, 3) := by decide +kernel
theorem d_Pm_at_18 : decode k_Pm_at.code 18 = .ok (.iconst 1, 1) := by decide +kernel
theorem d_Pm_at_19 : decode k_Pm_at.code 19 = .ok (.goto 4, 3) := by decide +kernel
theorem d_Pm_at_22 : decode k_Pm_at.code 22 = .ok (.iconst 0, 1) := by decide +kernel
theorem s_Pm_at_23 : SiteS k_Pm_at k_Pm_needIndex 23 1 := ⟨75, by decide +kernel, ⟨kw_Pm_needIndex, tx1 1 rfl rfl, by decide, by decide⟩, Or.inl (tx2 50 rfl rfl), tx2 51 rfl rfl, ⟨by decide +kernel, by decide +kernel⟩, np_Pm_needIndex⟩
theorem d_Pm_at_26 : decode k_Pm_at.code 26 = .ok (.aload_n 0, 1) := by decide +kernel
theorem g_Pm_at_27 : SiteG k_Pm_at 27 7 4 := ⟨49, 7, R_Pm, "PhotoModels", F_Pm, by decide +kernel, tx1 212 rfl rfl, i_Pm, rfl, rfl, by decide⟩
theorem d_Pm_at_30 : decode k_Pm_at.code 30 = .ok (.iload_n 1, 1) := by decide +kernel
theorem d_Pm_at_31 : decode k_Pm_at.code 31 = .ok (.iload_n 2, 1) := by decide +kernel
theorem s_Pm_at_32 : SiteV k_Pm_at k_Ad_position 32 0 2 := ⟨150, (R_Ad, F_Ad, 4), by decide +kernel, ⟨kw_Ad_position, tx1 7 rfl rfl, by decide, by decide⟩, tx3 122 rfl rfl, tx2 20 rfl rfl, tx2 21 rfl rfl, rfl, ⟨by decide +kernel, by decide +kernel⟩, np_Ad_position⟩
theorem d_Pm_at_35 : decode k_Pm_at.code 35 = .ok (.ireturn, 1) := by decide +kernel
theorem d_Pm_offset_0 : decode k_Pm_offset.code 0 = .ok (.iload_n 1, 1) := by decide +kernel
theorem s_Pm_offset_1 : SiteS k_Pm_offset k_Pm_isPhoto 1 1 := ⟨67, by decide +kernel, ⟨kw_Pm_isPhoto, tx1 1 rfl rfl, by decide, by decide⟩, Or.inl (tx2 39 rfl rfl), tx2 40 rfl rfl, ⟨by decide +kernel, by decide +kernel⟩, np_Pm_isPhoto⟩
theorem d_Pm_offset_4 : decode k_Pm_offset.code 4 = .ok (.ifCond .eq 14, 3) := by decide +kernel
theorem d_Pm_offset_7 : decode k_Pm_offset.code 7 = .ok (.iload_n 2, 1) := by decide +kernel
theorem s_Pm_offset_8 : SiteS k_Pm_offset k_Pm_isAxis 8 1 := ⟨129, by decide +kernel, ⟨kw_Pm_isAxis, tx1 1 rfl rfl, by decide, by decide⟩, Or.inl (tx3 41 rfl rfl), tx3 42 rfl rfl, ⟨by decide +kernel, by decide +kernel⟩, np_Pm_isAxis⟩
theorem d_Pm_offset_11 : decode k_Pm_offset.code 11 = .ok (.ifCond .eq 7, 3) := by decide +kernel
theorem d_Pm_offset_14 : decode k_Pm_offset.code 14 = .ok (.iconst 1, 1) := by decide +kernel
theorem d_Pm_offset_15 : decode k_Pm_offset.code 15 = .ok (.goto 4, 3) := by decide +kernel
theorem d_Pm_offset_18 : decode k_Pm_offset.code 18 = .ok (.iconst 0, 1) := by decide +kernel
theorem s_Pm_offset_19 : SiteS k_Pm_offset k_Pm_needIndex 19 1 := ⟨75, by decide +kernel, ⟨kw_Pm_needIndex, tx1 1 rfl rfl, by decide, by decide⟩, Or.inl (tx2 50 rfl rfl), tx2 51 rfl rfl, ⟨by decide +kernel, by decide +kernel⟩, np_Pm_needIndex⟩
theorem d_Pm_offset_22 : decode k_Pm_offset.code 22 = .ok (.aload_n 0, 1) := by decide +kernel
theorem g_Pm_offset_23 : SiteG k_Pm_offset 23 7 4 := ⟨49, 7, R_Pm, "PhotoModels", F_Pm, by decide +kernel, tx1 212 rfl rfl, i_Pm, rfl, rfl, by decide⟩
theorem d_Pm_offset_26 : decode k_Pm_offset.code 26 = .ok (.iload_n 1, 1) := by decide +kernel
theorem d_Pm_offset_27 : decode k_Pm_offset.code 27 = .ok (.iload_n 2, 1) := by decide +kernel
theorem s_Pm_offset_28 : SiteV k_Pm_offset k_Ad_moved 28 0 2 := ⟨154, (R_Ad, F_Ad, 4), by decide +kernel, ⟨kw_Ad_moved, tx1 7 rfl rfl, by decide, by decide⟩, tx3 130 rfl rfl, tx2 24 rfl rfl, tx2 25 rfl rfl, rfl, ⟨by decide +kernel, by decide +kernel⟩, np_Ad_moved⟩
theorem d_Pm_offset_31 : decode k_Pm_offset.code 31 = .ok (.ireturn, 1) := by decide +kernel
theorem d_Pm_miss_0 : decode k_Pm_miss.code 0 = .ok (.aload_n 0, 1) := by decide +kernel
theorem g_Pm_miss_1 : SiteG k_Pm_miss 1 7 2 := ⟨32, 7, R_Pm, "PhotoModels", F_Pm, by decide +kernel, tx1 210 rfl rfl, i_Pm, rfl, rfl, by decide⟩
theorem d_Pm_miss_4 : decode k_Pm_miss.code 4 = .ok (.iload_n 1, 1) := by decide +kernel
theorem s_Pm_miss_5 : SiteV k_Pm_miss k_Pl_has 5 4 1 := ⟨115, (R_Pl, F_Pl, 5), by decide +kernel, ⟨kw_Pl_has, tx1 5 rfl rfl, by decide, by decide⟩, tx2 233 rfl rfl, tx2 234 rfl rfl, tx2 235 rfl rfl, rfl, ⟨by decide +kernel, by decide +kernel⟩, np_Pl_has⟩
theorem s_Pm_miss_8 : SiteS k_Pm_miss k_Pm_needIndex 8 1 := ⟨75, by decide +kernel, ⟨kw_Pm_needIndex, tx1 1 rfl rfl, by decide, by decide⟩, Or.inl (tx2 50 rfl rfl), tx2 51 rfl rfl, ⟨by decide +kernel, by decide +kernel⟩, np_Pm_needIndex⟩
theorem d_Pm_miss_11 : decode k_Pm_miss.code 11 = .ok (.aload_n 0, 1) := by decide +kernel
theorem g_Pm_miss_12 : SiteG k_Pm_miss 12 7 4 := ⟨49, 7, R_Pm, "PhotoModels", F_Pm, by decide +kernel, tx1 212 rfl rfl, i_Pm, rfl, rfl, by decide⟩
theorem d_Pm_miss_15 : decode k_Pm_miss.code 15 = .ok (.aload_n 0, 1) := by decide +kernel
theorem g_Pm_miss_16 : SiteG k_Pm_miss 16 7 2 := ⟨32, 7, R_Pm, "PhotoModels", F_Pm, by decide +kernel, tx1 210 rfl rfl, i_Pm, rfl, rfl, by decide⟩
theorem d_Pm_miss_19 : decode k_Pm_miss.code 19 = .ok (.iload_n 1, 1) := by decide +kernel
theorem s_Pm_miss_20 : SiteV k_Pm_miss k_Ad_share 20 0 2 := ⟨157, (R_Ad, F_Ad, 4), by decide +kernel, ⟨kw_Ad_share, tx1 7 rfl rfl, by decide, by decide⟩, tx3 138 rfl rfl, tx2 7 rfl rfl, tx2 8 rfl rfl, rfl, ⟨by decide +kernel, by decide +kernel⟩, np_Ad_share⟩
theorem d_Pm_miss_23 : decode k_Pm_miss.code 23 = .ok (.lreturn, 1) := by decide +kernel
theorem d_Pm_known_0 : decode k_Pm_known.code 0 = .ok (.aload_n 0, 1) := by decide +kernel
theorem g_Pm_known_1 : SiteG k_Pm_known 1 7 2 := ⟨32, 7, R_Pm, "PhotoModels", F_Pm, by decide +kernel, tx1 210 rfl rfl, i_Pm, rfl, rfl, by decide⟩
theorem d_Pm_known_4 : decode k_Pm_known.code 4 = .ok (.iload_n 1, 1) := by decide +kernel
theorem s_Pm_known_5 : SiteV k_Pm_known k_Pl_has 5 4 1 := ⟨115, (R_Pl, F_Pl, 5), by decide +kernel, ⟨kw_Pl_has, tx1 5 rfl rfl, by decide, by decide⟩, tx2 233 rfl rfl, tx2 234 rfl rfl, tx2 235 rfl rfl, rfl, ⟨by decide +kernel, by decide +kernel⟩, np_Pl_has⟩
theorem d_Pm_known_8 : decode k_Pm_known.code 8 = .ok (.ifCond .eq 18, 3) := by decide +kernel
theorem d_Pm_known_11 : decode k_Pm_known.code 11 = .ok (.aload_n 0, 1) := by decide +kernel
theorem g_Pm_known_12 : SiteG k_Pm_known 12 7 2 := ⟨32, 7, R_Pm, "PhotoModels", F_Pm, by decide +kernel, tx1 210 rfl rfl, i_Pm, rfl, rfl, by decide⟩
theorem d_Pm_known_15 : decode k_Pm_known.code 15 = .ok (.iload_n 2, 1) := by decide +kernel
theorem s_Pm_known_16 : SiteV k_Pm_known k_Pl_has 16 4 1 := ⟨115, (R_Pl, F_Pl, 5), by decide +kernel, ⟨kw_Pl_has, tx1 5 rfl rfl, by decide, by decide⟩, tx2 233 rfl rfl, tx2 234 rfl rfl, tx2 235 rfl rfl, rfl, ⟨by decide +kernel, by decide +kernel⟩, np_Pl_has⟩
theorem d_Pm_known_19 : decode k_Pm_known.code 19 = .ok (.ifCond .eq 7, 3) := by decide +kernel
theorem d_Pm_known_22 : decode k_Pm_known.code 22 = .ok (.iconst 1, 1) := by decide +kernel
theorem d_Pm_known_23 : decode k_Pm_known.code 23 = .ok (.goto 4, 3) := by decide +kernel
theorem d_Pm_known_26 : decode k_Pm_known.code 26 = .ok (.iconst 0, 1) := by decide +kernel
theorem s_Pm_known_27 : SiteS k_Pm_known k_Pm_needIndex 27 1 := ⟨75, by decide +kernel, ⟨kw_Pm_needIndex, tx1 1 rfl rfl, by decide, by decide⟩, Or.inl (tx2 50 rfl rfl), tx2 51 rfl rfl, ⟨by decide +kernel, by decide +kernel⟩, np_Pm_needIndex⟩
theorem d_Pm_known_30 : decode k_Pm_known.code 30 = .ok (.iload_n 1, 1) := by decide +kernel
theorem d_Pm_known_31 : decode k_Pm_known.code 31 = .ok (.iload_n 2, 1) := by decide +kernel
theorem d_Pm_known_32 : decode k_Pm_known.code 32 = .ok (.if_icmp .eq 18, 3) := by decide +kernel
theorem d_Pm_known_35 : decode k_Pm_known.code 35 = .ok (.iload_n 3, 1) := by decide +kernel
theorem d_Pm_known_36 : decode k_Pm_known.code 36 = .ok (.iconst 1, 1) := by decide +kernel
theorem d_Pm_known_37 : decode k_Pm_known.code 37 = .ok (.sipush 10000, 3) := by decide +kernel
theorem s_Pm_known_40 : SiteS k_Pm_known k_Pm_isWithin 40 3 := ⟨79, by decide +kernel, ⟨kw_Pm_isWithin, tx1 1 rfl rfl, by decide, by decide⟩, Or.inl (tx2 42 rfl rfl), tx2 43 rfl rfl, ⟨by decide +kernel, by decide +kernel⟩, np_Pm_isWithin⟩
theorem d_Pm_known_43 : decode k_Pm_known.code 43 = .ok (.ifCond .eq 7, 3) := by decide +kernel
theorem d_Pm_known_46 : decode k_Pm_known.code 46 = .ok (.iconst 1, 1) := by decide +kernel
theorem d_Pm_known_47 : decode k_Pm_known.code 47 = .ok (.goto 4, 3) := by decide +kernel
theorem d_Pm_known_50 : decode k_Pm_known.code 50 = .ok (.iconst 0, 1) := by decide +kernel
theorem s_Pm_known_51 : SiteS k_Pm_known k_Pm_needArgument 51 1 := ⟨83, by decide +kernel, ⟨kw_Pm_needArgument, tx1 1 rfl rfl, by decide, by decide⟩, Or.inl (tx2 121 rfl rfl), tx2 122 rfl rfl, ⟨by decide +kernel, by decide +kernel⟩, np_Pm_needArgument⟩
theorem d_Pm_known_54 : decode k_Pm_known.code 54 = .ok (.aload_n 0, 1) := by decide +kernel
theorem g_Pm_known_55 : SiteG k_Pm_known 55 7 5 := ⟨56, 7, R_Pm, "PhotoModels", F_Pm, by decide +kernel, tx1 213 rfl rfl, i_Pm, rfl, rfl, by decide⟩
theorem s_Pm_known_58 : SiteV k_Pm_known k_Le_number 58 2 0 := ⟨161, (R_Le, F_Le, 4), by decide +kernel, ⟨kw_Le_number, tx1 8 rfl rfl, by decide, by decide⟩, tx3 146 rfl rfl, tx3 147 rfl rfl, tx3 148 rfl rfl, rfl, ⟨by decide +kernel, by decide +kernel⟩, np_Le_number⟩
theorem d_Pm_known_61 : decode k_Pm_known.code 61 = .ok (.bipush 10, 2) := by decide +kernel
theorem d_Pm_known_63 : decode k_Pm_known.code 63 = .ok (.if_icmp .ge 7, 3) := by decide +kernel
theorem d_Pm_known_66 : decode k_Pm_known.code 66 = .ok (.iconst 1, 1) := by decide +kernel
theorem d_Pm_known_67 : decode k_Pm_known.code 67 = .ok (.goto 4, 3) := by decide +kernel
theorem d_Pm_known_70 : decode k_Pm_known.code 70 = .ok (.iconst 0, 1) := by decide +kernel
theorem s_Pm_known_71 : SiteS k_Pm_known k_Pm_needState 71 1 := ⟨101, by decide +kernel, ⟨kw_Pm_needState, tx1 1 rfl rfl, by decide, by decide⟩, Or.inl (tx2 191 rfl rfl), tx2 192 rfl rfl, ⟨by decide +kernel, by decide +kernel⟩, np_Pm_needState⟩
theorem d_Pm_known_74 : decode k_Pm_known.code 74 = .ok (.aload_n 0, 1) := by decide +kernel
theorem g_Pm_known_75 : SiteG k_Pm_known 75 7 5 := ⟨56, 7, R_Pm, "PhotoModels", F_Pm, by decide +kernel, tx1 213 rfl rfl, i_Pm, rfl, rfl, by decide⟩
theorem d_Pm_known_78 : decode k_Pm_known.code 78 = .ok (.iload_n 1, 1) := by decide +kernel
theorem d_Pm_known_79 : decode k_Pm_known.code 79 = .ok (.iload_n 2, 1) := by decide +kernel
theorem d_Pm_known_80 : decode k_Pm_known.code 80 = .ok (.iload_n 3, 1) := by decide +kernel
theorem s_Pm_known_81 : SiteV k_Pm_known k_Le_add 81 2 3 := ⟨162, (R_Le, F_Le, 4), by decide +kernel, ⟨kw_Le_add, tx1 8 rfl rfl, by decide, by decide⟩, tx3 150 rfl rfl, tx3 151 rfl rfl, tx3 152 rfl rfl, rfl, ⟨by decide +kernel, by decide +kernel⟩, np_Le_add⟩
theorem d_Pm_known_84 : decode k_Pm_known.code 84 = .ok (.ireturn, 1) := by decide +kernel
theorem d_Pm_scale_0 : decode k_Pm_scale.code 0 = .ok (.iload_n 1, 1) := by decide +kernel
theorem d_Pm_scale_1 : decode k_Pm_scale.code 1 = .ok (.iconst 0, 1) := by decide +kernel
theorem d_Pm_scale_2 : decode k_Pm_scale.code 2 = .ok (.iconst 1, 1) := by decide +kernel
theorem s_Pm_scale_3 : SiteS k_Pm_scale k_Pm_isWithin 3 3 := ⟨79, by decide +kernel, ⟨kw_Pm_isWithin, tx1 1 rfl rfl, by decide, by decide⟩, Or.inl (tx2 42 rfl rfl), tx2 43 rfl rfl, ⟨by decide +kernel, by decide +kernel⟩, np_Pm_isWithin⟩
theorem s_Pm_scale_6 : SiteS k_Pm_scale k_Pm_needIndex 6 1 := ⟨75, by decide +kernel, ⟨kw_Pm_needIndex, tx1 1 rfl rfl, by decide, by decide⟩, Or.inl (tx2 50 rfl rfl), tx2 51 rfl rfl, ⟨by decide +kernel, by decide +kernel⟩, np_Pm_needIndex⟩
theorem d_Pm_scale_9 : decode k_Pm_scale.code 9 = .ok (.aload_n 0, 1) := by decide +kernel
theorem g_Pm_scale_10 : SiteG k_Pm_scale 10 7 5 := ⟨56, 7, R_Pm, "PhotoModels", F_Pm, by decide +kernel, tx1 213 rfl rfl, i_Pm, rfl, rfl, by decide⟩
theorem d_Pm_scale_13 : decode k_Pm_scale.code 13 = .ok (.aload_n 0, 1) := by decide +kernel
theorem g_Pm_scale_14 : SiteG k_Pm_scale 14 7 4 := ⟨49, 7, R_Pm, "PhotoModels", F_Pm, by decide +kernel, tx1 212 rfl rfl, i_Pm, rfl, rfl, by decide⟩
theorem d_Pm_scale_17 : decode k_Pm_scale.code 17 = .ok (.iload_n 1, 1) := by decide +kernel
theorem s_Pm_scale_18 : SiteV k_Pm_scale k_Le_fraction 18 2 2 := ⟨164, (R_Le, F_Le, 4), by decide +kernel, ⟨kw_Le_fraction, tx1 8 rfl rfl, by decide, by decide⟩, tx3 161 rfl rfl, tx3 162 rfl rfl, tx3 163 rfl rfl, rfl, ⟨by decide +kernel, by decide +kernel⟩, np_Le_fraction⟩
theorem d_Pm_scale_21 : decode k_Pm_scale.code 21 = .ok (.lreturn, 1) := by decide +kernel
theorem d_Pm_heights_0 : decode k_Pm_heights.code 0 = .ok (.iload_n 1, 1) := by decide +kernel
theorem s_Pm_heights_1 : SiteS k_Pm_heights k_Pm_isPhoto 1 1 := ⟨67, by decide +kernel, ⟨kw_Pm_isPhoto, tx1 1 rfl rfl, by decide, by decide⟩, Or.inl (tx2 39 rfl rfl), tx2 40 rfl rfl, ⟨by decide +kernel, by decide +kernel⟩, np_Pm_isPhoto⟩
theorem d_Pm_heights_4 : decode k_Pm_heights.code 4 = .ok (.ifCond .eq 14, 3) := by decide +kernel
theorem d_Pm_heights_7 : decode k_Pm_heights.code 7 = .ok (.iload_n 2, 1) := by decide +kernel
theorem s_Pm_heights_8 : SiteS k_Pm_heights k_Pm_isPhoto 8 1 := ⟨67, by decide +kernel, ⟨kw_Pm_isPhoto, tx1 1 rfl rfl, by decide, by decide⟩, Or.inl (tx2 39 rfl rfl), tx2 40 rfl rfl, ⟨by decide +kernel, by decide +kernel⟩, np_Pm_isPhoto⟩
theorem d_Pm_heights_11 : decode k_Pm_heights.code 11 = .ok (.ifCond .eq 7, 3) := by decide +kernel
theorem d_Pm_heights_14 : decode k_Pm_heights.code 14 = .ok (.iconst 1, 1) := by decide +kernel
theorem d_Pm_heights_15 : decode k_Pm_heights.code 15 = .ok (.goto 4, 3) := by decide +kernel
theorem d_Pm_heights_18 : decode k_Pm_heights.code 18 = .ok (.iconst 0, 1) := by decide +kernel
theorem s_Pm_heights_19 : SiteS k_Pm_heights k_Pm_needIndex 19 1 := ⟨75, by decide +kernel, ⟨kw_Pm_needIndex, tx1 1 rfl rfl, by decide, by decide⟩, Or.inl (tx2 50 rfl rfl), tx2 51 rfl rfl, ⟨by decide +kernel, by decide +kernel⟩, np_Pm_needIndex⟩
theorem d_Pm_heights_22 : decode k_Pm_heights.code 22 = .ok (.iload_n 3, 1) := by decide +kernel
theorem d_Pm_heights_23 : decode k_Pm_heights.code 23 = .ok (.iconst 0, 1) := by decide +kernel
theorem d_Pm_heights_24 : decode k_Pm_heights.code 24 = .ok (.bipush 100, 2) := by decide +kernel
theorem s_Pm_heights_26 : SiteS k_Pm_heights k_Pm_isWithin 26 3 := ⟨79, by decide +kernel, ⟨kw_Pm_isWithin, tx1 1 rfl rfl, by decide, by decide⟩, Or.inl (tx2 42 rfl rfl), tx2 43 rfl rfl, ⟨by decide +kernel, by decide +kernel⟩, np_Pm_isWithin⟩
theorem s_Pm_heights_29 : SiteS k_Pm_heights k_Pm_needArgument 29 1 := ⟨83, by decide +kernel, ⟨kw_Pm_needArgument, tx1 1 rfl rfl, by decide, by decide⟩, Or.inl (tx2 121 rfl rfl), tx2 122 rfl rfl, ⟨by decide +kernel, by decide +kernel⟩, np_Pm_needArgument⟩
theorem d_Pm_heights_32 : decode k_Pm_heights.code 32 = .ok (.aload_n 0, 1) := by decide +kernel
theorem g_Pm_heights_33 : SiteG k_Pm_heights 33 7 6 := ⟨63, 7, R_Pm, "PhotoModels", F_Pm, by decide +kernel, tx1 214 rfl rfl, i_Pm, rfl, rfl, by decide⟩
theorem d_Pm_heights_36 : decode k_Pm_heights.code 36 = .ok (.aload_n 0, 1) := by decide +kernel
theorem g_Pm_heights_37 : SiteG k_Pm_heights 37 7 0 := ⟨18, 7, R_Pm, "PhotoModels", F_Pm, by decide +kernel, tx1 208 rfl rfl, i_Pm, rfl, rfl, by decide⟩
theorem d_Pm_heights_40 : decode k_Pm_heights.code 40 = .ok (.iload_n 1, 1) := by decide +kernel
theorem d_Pm_heights_41 : decode k_Pm_heights.code 41 = .ok (.iload_n 2, 1) := by decide +kernel
theorem d_Pm_heights_42 : decode k_Pm_heights.code 42 = .ok (.iload_n 3, 1) := by decide +kernel
theorem s_Pm_heights_43 : SiteV k_Pm_heights k_Re_raise 43 5 4 := ⟨168, (R_Re, F_Re, 10), by decide +kernel, ⟨kw_Re_raise, tx1 9 rfl rfl, by decide, by decide⟩, tx3 182 rfl rfl, tx3 183 rfl rfl, tx3 184 rfl rfl, rfl, ⟨by decide +kernel, by decide +kernel⟩, np_Re_raise⟩
theorem d_Pm_heights_46 : decode k_Pm_heights.code 46 = .ok (.ireturn, 1) := by decide +kernel
theorem d_Pm_depth_0 : decode k_Pm_depth.code 0 = .ok (.aload_n 0, 1) := by decide +kernel
theorem g_Pm_depth_1 : SiteG k_Pm_depth 1 7 0 := ⟨18, 7, R_Pm, "PhotoModels", F_Pm, by decide +kernel, tx1 208 rfl rfl, i_Pm, rfl, rfl, by decide⟩
theorem d_Pm_depth_4 : decode k_Pm_depth.code 4 = .ok (.iload_n 1, 1) := by decide +kernel
theorem d_Pm_depth_5 : decode k_Pm_depth.code 5 = .ok (.iload_n 2, 1) := by decide +kernel
theorem s_Pm_depth_6 : SiteV k_Pm_depth k_Ph_hasCell 6 3 2 := ⟨71, (R_Ph, F_Ph, 3), by decide +kernel, ⟨kw_Ph_hasCell, tx1 3 rfl rfl, by decide, by decide⟩, tx2 45 rfl rfl, tx2 46 rfl rfl, tx2 47 rfl rfl, rfl, ⟨by decide +kernel, by decide +kernel⟩, np_Ph_hasCell⟩
theorem s_Pm_depth_9 : SiteS k_Pm_depth k_Pm_needIndex 9 1 := ⟨75, by decide +kernel, ⟨kw_Pm_needIndex, tx1 1 rfl rfl, by decide, by decide⟩, Or.inl (tx2 50 rfl rfl), tx2 51 rfl rfl, ⟨by decide +kernel, by decide +kernel⟩, np_Pm_needIndex⟩
theorem d_Pm_depth_12 : decode k_Pm_depth.code 12 = .ok (.aload_n 0, 1) := by decide +kernel
theorem g_Pm_depth_13 : SiteG k_Pm_depth 13 7 6 := ⟨63, 7, R_Pm, "PhotoModels", F_Pm, by decide +kernel, tx1 214 rfl rfl, i_Pm, rfl, rfl, by decide⟩
theorem s_Pm_depth_16 : SiteV k_Pm_depth k_Re_isRaised 16 5 0 := ⟨172, (R_Re, F_Re, 10), by decide +kernel, ⟨kw_Re_isRaised, tx1 9 rfl rfl, by decide, by decide⟩, tx3 221 rfl rfl, tx3 222 rfl rfl, tx3 223 rfl rfl, rfl, ⟨by decide +kernel, by decide +kernel⟩, np_Re_isRaised⟩
theorem s_Pm_depth_19 : SiteS k_Pm_depth k_Pm_needState 19 1 := ⟨101, by decide +kernel, ⟨kw_Pm_needState, tx1 1 rfl rfl, by decide, by decide⟩, Or.inl (tx2 191 rfl rfl), tx2 192 rfl rfl, ⟨by decide +kernel, by decide +kernel⟩, np_Pm_needState⟩
theorem d_Pm_depth_22 : decode k_Pm_depth.code 22 = .ok (.aload_n 0, 1) := by decide +kernel
theorem g_Pm_depth_23 : SiteG k_Pm_depth 23 7 6 := ⟨63, 7, R_Pm, "PhotoModels", F_Pm, by decide +kernel, tx1 214 rfl rfl, i_Pm, rfl, rfl, by decide⟩
theorem d_Pm_depth_26 : decode k_Pm_depth.code 26 = .ok (.iload_n 1, 1) := by decide +kernel
theorem d_Pm_depth_27 : decode k_Pm_depth.code 27 = .ok (.iload_n 2, 1) := by decide +kernel
theorem s_Pm_depth_28 : SiteV k_Pm_depth k_Re_depthOf 28 5 2 := ⟨175, (R_Re, F_Re, 10), by decide +kernel, ⟨kw_Re_depthOf, tx1 9 rfl rfl, by decide, by decide⟩, tx3 225 rfl rfl, tx3 226 rfl rfl, tx3 227 rfl rfl, rfl, ⟨by decide +kernel, by decide +kernel⟩, np_Re_depthOf⟩
theorem d_Pm_depth_31 : decode k_Pm_depth.code 31 = .ok (.ireturn, 1) := by decide +kernel
theorem d_Pm_holes_0 : decode k_Pm_holes.code 0 = .ok (.aload_n 0, 1) := by decide +kernel
theorem g_Pm_holes_1 : SiteG k_Pm_holes 1 7 6 := ⟨63, 7, R_Pm, "PhotoModels", F_Pm, by decide +kernel, tx1 214 rfl rfl, i_Pm, rfl, rfl, by decide⟩
theorem s_Pm_holes_4 : SiteV k_Pm_holes k_Re_isRaised 4 5 0 := ⟨172, (R_Re, F_Re, 10), by decide +kernel, ⟨kw_Re_isRaised, tx1 9 rfl rfl, by decide, by decide⟩, tx3 221 rfl rfl, tx3 222 rfl rfl, tx3 223 rfl rfl, rfl, ⟨by decide +kernel, by decide +kernel⟩, np_Re_isRaised⟩
theorem s_Pm_holes_7 : SiteS k_Pm_holes k_Pm_needState 7 1 := ⟨101, by decide +kernel, ⟨kw_Pm_needState, tx1 1 rfl rfl, by decide, by decide⟩, Or.inl (tx2 191 rfl rfl), tx2 192 rfl rfl, ⟨by decide +kernel, by decide +kernel⟩, np_Pm_needState⟩
theorem d_Pm_holes_10 : decode k_Pm_holes.code 10 = .ok (.aload_n 0, 1) := by decide +kernel
theorem g_Pm_holes_11 : SiteG k_Pm_holes 11 7 6 := ⟨63, 7, R_Pm, "PhotoModels", F_Pm, by decide +kernel, tx1 214 rfl rfl, i_Pm, rfl, rfl, by decide⟩
theorem d_Pm_holes_14 : decode k_Pm_holes.code 14 = .ok (.iload_n 1, 1) := by decide +kernel
theorem s_Pm_holes_15 : SiteV k_Pm_holes k_Re_holesAbove 15 5 1 := ⟨178, (R_Re, F_Re, 10), by decide +kernel, ⟨kw_Re_holesAbove, tx1 9 rfl rfl, by decide, by decide⟩, tx3 236 rfl rfl, tx3 237 rfl rfl, tx3 238 rfl rfl, rfl, ⟨by decide +kernel, by decide +kernel⟩, np_Re_holesAbove⟩
theorem d_Pm_holes_18 : decode k_Pm_holes.code 18 = .ok (.ireturn, 1) := by decide +kernel
theorem d_Pm_count_0 : decode k_Pm_count.code 0 = .ok (.iload_n 1, 1) := by decide +kernel
theorem d_Pm_count_1 : decode k_Pm_count.code 1 = .ok (.tableswitch 75 0 4 #[35, 43, 51, 59, 67], 35) := by decide +kernel
theorem d_Pm_count_36 : decode k_Pm_count.code 36 = .ok (.aload_n 0, 1) := by decide +kernel
theorem g_Pm_count_37 : SiteG k_Pm_count 37 7 0 := ⟨18, 7, R_Pm, "PhotoModels", F_Pm, by decide +kernel, tx1 208 rfl rfl, i_Pm, rfl, rfl, by decide⟩
theorem s_Pm_count_40 : SiteV k_Pm_count k_Ph_width 40 3 0 := ⟨181, (R_Ph, F_Ph, 3), by decide +kernel, ⟨kw_Ph_width, tx1 3 rfl rfl, by decide, by decide⟩, tx4 23 rfl rfl, tx4 24 rfl rfl, tx4 25 rfl rfl, rfl, ⟨by decide +kernel, by decide +kernel⟩, np_Ph_width⟩
theorem d_Pm_count_43 : decode k_Pm_count.code 43 = .ok (.ireturn, 1) := by decide +kernel
theorem d_Pm_count_44 : decode k_Pm_count.code 44 = .ok (.aload_n 0, 1) := by decide +kernel
theorem g_Pm_count_45 : SiteG k_Pm_count 45 7 0 := ⟨18, 7, R_Pm, "PhotoModels", F_Pm, by decide +kernel, tx1 208 rfl rfl, i_Pm, rfl, rfl, by decide⟩
theorem s_Pm_count_48 : SiteV k_Pm_count k_Ph_height 48 3 0 := ⟨184, (R_Ph, F_Ph, 3), by decide +kernel, ⟨kw_Ph_height, tx1 3 rfl rfl, by decide, by decide⟩, tx4 27 rfl rfl, tx4 28 rfl rfl, tx4 29 rfl rfl, rfl, ⟨by decide +kernel, by decide +kernel⟩, np_Ph_height⟩
theorem d_Pm_count_51 : decode k_Pm_count.code 51 = .ok (.ireturn, 1) := by decide +kernel
theorem d_Pm_count_52 : decode k_Pm_count.code 52 = .ok (.aload_n 0, 1) := by decide +kernel
theorem g_Pm_count_53 : SiteG k_Pm_count 53 7 2 := ⟨32, 7, R_Pm, "PhotoModels", F_Pm, by decide +kernel, tx1 210 rfl rfl, i_Pm, rfl, rfl, by decide⟩
theorem s_Pm_count_56 : SiteV k_Pm_count k_Pl_number 56 4 0 := ⟨108, (R_Pl, F_Pl, 5), by decide +kernel, ⟨kw_Pl_number, tx1 5 rfl rfl, by decide, by decide⟩, tx2 221 rfl rfl, tx1 239 rfl rfl, tx2 0 rfl rfl, rfl, ⟨by decide +kernel, by decide +kernel⟩, np_Pl_number⟩
theorem d_Pm_count_59 : decode k_Pm_count.code 59 = .ok (.ireturn, 1) := by decide +kernel
theorem d_Pm_count_60 : decode k_Pm_count.code 60 = .ok (.aload_n 0, 1) := by decide +kernel
theorem g_Pm_count_61 : SiteG k_Pm_count 61 7 5 := ⟨56, 7, R_Pm, "PhotoModels", F_Pm, by decide +kernel, tx1 213 rfl rfl, i_Pm, rfl, rfl, by decide⟩
theorem s_Pm_count_64 : SiteV k_Pm_count k_Le_number 64 2 0 := ⟨161, (R_Le, F_Le, 4), by decide +kernel, ⟨kw_Le_number, tx1 8 rfl rfl, by decide, by decide⟩, tx3 146 rfl rfl, tx3 147 rfl rfl, tx3 148 rfl rfl, rfl, ⟨by decide +kernel, by decide +kernel⟩, np_Le_number⟩
theorem d_Pm_count_67 : decode k_Pm_count.code 67 = .ok (.ireturn, 1) := by decide +kernel
theorem d_Pm_count_68 : decode k_Pm_count.code 68 = .ok (.aload_n 0, 1) := by decide +kernel
theorem g_Pm_count_69 : SiteG k_Pm_count 69 7 2 := ⟨32, 7, R_Pm, "PhotoModels", F_Pm, by decide +kernel, tx1 210 rfl rfl, i_Pm, rfl, rfl, by decide⟩
theorem s_Pm_count_72 : SiteV k_Pm_count k_Pl_spares 72 4 0 := ⟨187, (R_Pl, F_Pl, 5), by decide +kernel, ⟨kw_Pl_spares, tx1 5 rfl rfl, by decide, by decide⟩, tx4 31 rfl rfl, tx4 32 rfl rfl, tx4 33 rfl rfl, rfl, ⟨by decide +kernel, by decide +kernel⟩, np_Pl_spares⟩
theorem d_Pm_count_75 : decode k_Pm_count.code 75 = .ok (.ireturn, 1) := by decide +kernel
theorem d_Pm_count_76 : decode k_Pm_count.code 76 = .ok (.new 190, 3) := by decide +kernel
theorem d_Pm_count_79 : decode k_Pm_count.code 79 = .ok (.dup, 1) := by decide +kernel
theorem d_Pm_count_80 : decode k_Pm_count.code 80 = .ok (.ldc 192, 2) := by decide +kernel
theorem d_Pm_count_82 : decode k_Pm_count.code 82 = .ok (.invokespecial 194, 3) := by decide +kernel
theorem d_Pm_count_85 : decode k_Pm_count.code 85 = .ok (.athrow, 1) := by decide +kernel
end
section
section P10
variable {l : Launch} {G : Gb} {h : List Ce}
/-- a truth as an int -/
def bI (b : Bool) : Int32 := if b then 1 else 0
theorem bI_n (b : Bool) : narrow .boolean (.int (bI b)) = .int (bI b) := by cases b <;> rfl
theorem bI_v (b : Bool) : vp_nar .boolean (bI b) = bI b := by cases b <;> rfl
theorem bI_0 (b : Bool) : bI b = 0 ↔ b = false := by cases b <;> decide
theorem bI_ne (a b : Bool) : bI a = bI b ↔ a = b := by cases a <;> cases b <;> decide
abbrev IA (N : Nat) (f : Nat → Int32) : Ce := .inl (.int, N, .inl f)
abbrev ZA (N : Nat) (B : Nat → Bool) : Ce := .inl (.boolean, N, .inl (fun i => bI (B i)))
abbrev ri (x : Int32) : Rs := .inl (some (.int x))
abbrev rz (b : Bool) : Rs := .inl (some (.int (bI b)))
abbrev rl (x : Int64) : Rs := .inl (some (.long x))
abbrev rv : Rs := .inl none
def updB (B : Nat → Bool) (k : Nat) (b : Bool) : Nat → Bool := fun i => if i = k then b else B i
theorem updB_I (B : Nat → Bool) (k : Nat) (b : Bool) : upd (fun i => bI (B i)) k (bI b) = fun i => bI (updB B k b i) := by
  funext i
  simp only [upd, updB]
  by_cases e : i = k <;> simp [e]
/-- the index i is the place k of an array of N -/
def Ix (i : Int32) (k N : Nat) : Prop := i = nI k ∧ k < N ∧ N < 2 ^ 31
theorem Ix.of {k N : Nat} (h1 : k < N) (h2 : N < 2 ^ 31) : Ix (nI k) k N := ⟨rfl, h1, h2⟩
section R
variable {K : Kt} {h0 : List Ce} {pc : Nat} {ls : List (Nat × Value)} {st : List Value} {r : Rs} {h' : List Ce}
theorem V_ialdN {a N k : Nat} {f : Nat → Int32} {i : Int32} (hd : decode K.code pc = .ok (.iaload, 1)) (hcell : h[a]? = some (IA N f)) (hi : Ix i k N) (kk : V l G K h0 (pc + 1) ls (.int (f k) :: st) h r h') : V l G K h0 pc ls (.int i :: .ref (a + 1) :: st) h r h' := by
  obtain ⟨rfl, h1, h2⟩ := hi
  refine V_iald hd hcell (vp_in_nI h1 h2) ?_
  rw [nI_clamp (by omega)]
  exact kk
theorem V_zaldN {a N k : Nat} {B : Nat → Bool} {i : Int32} (hd : decode K.code pc = .ok (.baload, 1)) (hcell : h[a]? = some (ZA N B)) (hi : Ix i k N) (kk : V l G K h0 (pc + 1) ls (.int (bI (B k)) :: st) h r h') : V l G K h0 pc ls (.int i :: .ref (a + 1) :: st) h r h' := by
  obtain ⟨rfl, h1, h2⟩ := hi
  refine V_zald hd hcell (vp_in_nI h1 h2) ?_
  rw [nI_clamp (by omega)]
  exact kk
theorem V_iastN {a N k : Nat} {f : Nat → Int32} {i x : Int32} (hd : decode K.code pc = .ok (.iastore, 1)) (hcell : h[a]? = some (IA N f)) (hi : Ix i k N) (kk : V l G K h0 (pc + 1) ls st (h.set a (IA N (upd f k x))) r h') : V l G K h0 pc ls (.int x :: .int i :: .ref (a + 1) :: st) h r h' := by
  obtain ⟨rfl, h1, h2⟩ := hi
  refine V_iast hd hcell (vp_in_nI h1 h2) ?_
  rw [nI_clamp (by omega)]
  exact kk
theorem V_zastN {a N k : Nat} {B : Nat → Bool} {b : Bool} {i : Int32} (hd : decode K.code pc = .ok (.bastore, 1)) (hcell : h[a]? = some (ZA N B)) (hi : Ix i k N) (kk : V l G K h0 (pc + 1) ls st (h.set a (ZA N (updB B k b))) r h') : V l G K h0 pc ls (.int (bI b) :: .int i :: .ref (a + 1) :: st) h r h' := by
  obtain ⟨rfl, h1, h2⟩ := hi
  refine V_zast hd hcell (vp_in_nI h1 h2) (bI_v b) ?_
  rw [nI_clamp (by omega), updB_I]
  exact kk
theorem V_sldN {k : Nat} {i : Int32} (hd : decode K.code pc = .ok (.iaload, 1)) (hi : Ix i k G.L) (kk : V l G K h0 (pc + 1) ls (.int (G.xs k) :: st) h r h') : V l G K h0 pc ls (.int i :: .ref 0 :: st) h r h' := by
  obtain ⟨rfl, h1, h2⟩ := hi
  refine V_sld hd (vp_in_nI h1 h2) ?_
  rw [nI_clamp (by omega)]
  exact kk
end R
/-- a loop: n rounds, the first with i -/
def fori {σ : Type} (f : Nat → σ → σ) : Nat → Nat → σ → σ
  | 0, _, s => s
  | n + 1, i, s => fori f n (i + 1) (f i s)
def wiB (x a b : Int32) : Bool := decide (a ≤ x) && decide (x ≤ b)
theorem wi_lo {x a b : Int32} (c : x < a) : bI (wiB x a b) = 0 := by
  have : ¬ a ≤ x := by rw [Int32.le_iff_toInt_le]; rw [Int32.lt_iff_toInt_lt] at c; omega
  simp [bI, wiB, this]
theorem wi_hi {x a b : Int32} (c : b < x) : bI (wiB x a b) = 0 := by
  have : ¬ x ≤ b := by rw [Int32.le_iff_toInt_le]; rw [Int32.lt_iff_toInt_lt] at c; omega
  simp [bI, wiB, this]
theorem wi_in {x a b : Int32} (c : ¬ x < a) (d : ¬ b < x) : bI (wiB x a b) = 1 := by
  have c1 : a ≤ x := by rw [Int32.le_iff_toInt_le]; rw [Int32.lt_iff_toInt_lt] at c; omega
  have d1 : x ≤ b := by rw [Int32.le_iff_toInt_le]; rw [Int32.lt_iff_toInt_lt] at d; omega
  simp [bI, wiB, c1, d1]
theorem do_isWithin (x a b : Int32) : Do l G k_Pm_isWithin [.int x, .int a, .int b] h (rz (wiB x a b)) h := by
  refine Do.of (by decide) (Nat.le_of_ble_eq_true rfl) kw_Pm_isWithin ?_
  refine V_iload_n d_Pm_isWithin_0 rfl ?_
  refine V_iload_n d_Pm_isWithin_1 rfl ?_
  refine V_icmp_lt (tgt := 14) d_Pm_isWithin_2 (by decide) (fun c1 => ?_) (fun c1 => ?_)
  · rw [rz, wi_lo c1]
    refine V_iconst (v := 0) d_Pm_isWithin_14 (by decide) ?_
    exact V_iret d_Pm_isWithin_15 rfl (by first | rfl | exact bI_n _)
  · refine V_iload_n d_Pm_isWithin_5 rfl ?_
    refine V_iload_n d_Pm_isWithin_6 rfl ?_
    refine V_icmp_gt (tgt := 14) d_Pm_isWithin_7 (by decide) (fun c2 => ?_) (fun c2 => ?_)
    · rw [rz, wi_hi c2]
      refine V_iconst (v := 0) d_Pm_isWithin_14 (by decide) ?_
      exact V_iret d_Pm_isWithin_15 rfl (by first | rfl | exact bI_n _)
    · rw [rz, wi_in c1 c2]
      refine V_iconst (v := 1) d_Pm_isWithin_10 (by decide) ?_
      refine V_goto (tgt := 15) d_Pm_isWithin_11 (by decide) ?_
      exact V_iret d_Pm_isWithin_15 rfl (by first | rfl | exact bI_n _)
variable {w ht : Nat} {N : Nat} {f : Nat → Int32}
abbrev PhO (w ht : Nat) : Ce := .inr (3, [.int (nI w), .int (nI ht), .ref 3])
theorem do_Ph_width (c_Ph : h[1]? = some (PhO w ht)) : Do l G k_Ph_width [.ref 2] h (ri (nI w)) h := by
  refine Do.of (by decide) (Nat.le_of_ble_eq_true rfl) kw_Ph_width ?_
  refine V_aload_n d_Ph_width_0 rfl ?_
  refine V_gf g_Ph_width_1 c_Ph rfl ?_
  exact V_iret d_Ph_width_4 rfl rfl
theorem do_Ph_height (c_Ph : h[1]? = some (PhO w ht)) : Do l G k_Ph_height [.ref 2] h (ri (nI ht)) h := by
  refine Do.of (by decide) (Nat.le_of_ble_eq_true rfl) kw_Ph_height ?_
  refine V_aload_n d_Ph_height_0 rfl ?_
  refine V_gf g_Ph_height_1 c_Ph rfl ?_
  exact V_iret d_Ph_height_4 rfl rfl
theorem do_Ph_hasCell (c_Ph : h[1]? = some (PhO w ht)) (x y : Int32) : Do l G k_Ph_hasCell [.ref 2, .int x, .int y] h (rz (wiB x 0 (nI w - 1) && wiB y 0 (nI ht - 1))) h := by
  refine Do.of (by decide) (Nat.le_of_ble_eq_true rfl) kw_Ph_hasCell ?_
  refine V_iload_n d_Ph_hasCell_0 rfl ?_
  refine V_iconst (v := 0) d_Ph_hasCell_1 (by decide) ?_
  refine V_aload_n d_Ph_hasCell_2 rfl ?_
  refine V_gf g_Ph_hasCell_3 c_Ph rfl ?_
  refine V_iconst (v := 1) d_Ph_hasCell_6 (by decide) ?_
  refine V_isub d_Ph_hasCell_7 ?_
  refine V_cS s_Ph_hasCell_8 (do_isWithin x 0 (nI w - 1)) rfl rfl (Nat.le_of_ble_eq_true rfl) ?_
  refine V_if_eq (tgt := 32) d_Ph_hasCell_11 (by decide) (fun c1 => ?_) (fun c1 => ?_)
  · rw [rz, (bI_0 _).mp c1]
    refine V_iconst (v := 0) d_Ph_hasCell_32 (by decide) ?_
    exact V_iret d_Ph_hasCell_33 rfl (by first | rfl | exact bI_n _)
  · rw [(show wiB x 0 (nI w - 1) = true by simpa [bI_0] using c1)]
    refine V_iload_n d_Ph_hasCell_14 rfl ?_
    refine V_iconst (v := 0) d_Ph_hasCell_15 (by decide) ?_
    refine V_aload_n d_Ph_hasCell_16 rfl ?_
    refine V_gf g_Ph_hasCell_17 c_Ph rfl ?_
    refine V_iconst (v := 1) d_Ph_hasCell_20 (by decide) ?_
    refine V_isub d_Ph_hasCell_21 ?_
    refine V_cS s_Ph_hasCell_22 (do_isWithin y 0 (nI ht - 1)) rfl rfl (Nat.le_of_ble_eq_true rfl) ?_
    refine V_if_eq (tgt := 32) d_Ph_hasCell_25 (by decide) (fun c2 => ?_) (fun c2 => ?_)
    · rw [rz, (bI_0 _).mp c2]
      refine V_iconst (v := 0) d_Ph_hasCell_32 (by decide) ?_
      exact V_iret d_Ph_hasCell_33 rfl (by first | rfl | exact bI_n _)
    · rw [rz, (show wiB y 0 (nI ht - 1) = true by simpa [bI_0] using c2)]
      refine V_iconst (v := 1) d_Ph_hasCell_28 (by decide) ?_
      refine V_goto (tgt := 33) d_Ph_hasCell_29 (by decide) ?_
      exact V_iret d_Ph_hasCell_33 rfl (by first | rfl | exact bI_n _)
theorem do_Ph_hasWindow (c_Ph : h[1]? = some (PhO w ht)) (x y : Int32) : Do l G k_Ph_hasWindow [.ref 2, .int x, .int y] h (rz (wiB x 1 (nI w - 2) && wiB y 1 (nI ht - 2))) h := by
  refine Do.of (by decide) (Nat.le_of_ble_eq_true rfl) kw_Ph_hasWindow ?_
  refine V_iload_n d_Ph_hasWindow_0 rfl ?_
  refine V_iconst (v := 1) d_Ph_hasWindow_1 (by decide) ?_
  refine V_aload_n d_Ph_hasWindow_2 rfl ?_
  refine V_gf g_Ph_hasWindow_3 c_Ph rfl ?_
  refine V_iconst (v := 2) d_Ph_hasWindow_6 (by decide) ?_
  refine V_isub d_Ph_hasWindow_7 ?_
  refine V_cS s_Ph_hasWindow_8 (do_isWithin x 1 (nI w - 2)) rfl rfl (Nat.le_of_ble_eq_true rfl) ?_
  refine V_if_eq (tgt := 32) d_Ph_hasWindow_11 (by decide) (fun c1 => ?_) (fun c1 => ?_)
  · rw [rz, (bI_0 _).mp c1]
    refine V_iconst (v := 0) d_Ph_hasWindow_32 (by decide) ?_
    exact V_iret d_Ph_hasWindow_33 rfl (by first | rfl | exact bI_n _)
  · rw [(show wiB x 1 (nI w - 2) = true by simpa [bI_0] using c1)]
    refine V_iload_n d_Ph_hasWindow_14 rfl ?_
    refine V_iconst (v := 1) d_Ph_hasWindow_15 (by decide) ?_
    refine V_aload_n d_Ph_hasWindow_16 rfl ?_
    refine V_gf g_Ph_hasWindow_17 c_Ph rfl ?_
    refine V_iconst (v := 2) d_Ph_hasWindow_20 (by decide) ?_
    refine V_isub d_Ph_hasWindow_21 ?_
    refine V_cS s_Ph_hasWindow_22 (do_isWithin y 1 (nI ht - 2)) rfl rfl (Nat.le_of_ble_eq_true rfl) ?_
    refine V_if_eq (tgt := 32) d_Ph_hasWindow_25 (by decide) (fun c2 => ?_) (fun c2 => ?_)
    · rw [rz, (bI_0 _).mp c2]
      refine V_iconst (v := 0) d_Ph_hasWindow_32 (by decide) ?_
      exact V_iret d_Ph_hasWindow_33 rfl (by first | rfl | exact bI_n _)
    · rw [rz, (show wiB y 1 (nI ht - 2) = true by simpa [bI_0] using c2)]
      refine V_iconst (v := 1) d_Ph_hasWindow_28 (by decide) ?_
      refine V_goto (tgt := 33) d_Ph_hasWindow_29 (by decide) ?_
      exact V_iret d_Ph_hasWindow_33 rfl (by first | rfl | exact bI_n _)
/-- the place of a photo's cell -/
def px (w ht p x y : Nat) : Nat := (p * ht + y) * w + x
theorem px_lt {p x y : Nat} (hp : p < 4) (hx : x < w) (hy : y < ht) : px w ht p x y < 4 * ht * w := by
  have h1 : p * ht ≤ 3 * ht := Nat.mul_le_mul_right _ (by omega)
  have h2 : (p * ht + y + 1) * w ≤ 4 * ht * w := Nat.mul_le_mul_right _ (by omega)
  have h3 : (p * ht + y + 1) * w = (p * ht + y) * w + w := by rw [Nat.add_mul, Nat.one_mul]
  unfold px
  omega
theorem do_Ph_index (c_Ph : h[1]? = some (PhO w ht)) (p x y : Nat) : Do l G k_Ph_index [.ref 2, .int (nI p), .int (nI x), .int (nI y)] h (ri (nI (px w ht p x y))) h := by
  refine Do.of (by decide) (Nat.le_of_ble_eq_true rfl) kw_Ph_index ?_
  have e : (nI p * nI ht + nI y) * nI w + nI x = nI (px w ht p x y) := by rw [pk_mul, nI_add, pk_mul, nI_add]; rfl
  rw [← e]
  refine V_iload_n d_Ph_index_0 rfl ?_
  refine V_aload_n d_Ph_index_1 rfl ?_
  refine V_gf g_Ph_index_2 c_Ph rfl ?_
  refine V_imul d_Ph_index_5 ?_
  refine V_iload_n d_Ph_index_6 rfl ?_
  refine V_iadd d_Ph_index_7 ?_
  refine V_aload_n d_Ph_index_8 rfl ?_
  refine V_gf g_Ph_index_9 c_Ph rfl ?_
  refine V_imul d_Ph_index_12 ?_
  refine V_iload_n d_Ph_index_13 rfl ?_
  refine V_iadd d_Ph_index_14 ?_
  exact V_iret d_Ph_index_15 rfl rfl
theorem do_Ph_value (c_Ph : h[1]? = some (PhO w ht)) (a_Ph_values : h[2]? = some (IA N f)) (p x y : Nat) (hi : px w ht p x y < N) (hN : N < 2 ^ 31) : Do l G k_Ph_value [.ref 2, .int (nI p), .int (nI x), .int (nI y)] h (ri (f (px w ht p x y))) h := by
  refine Do.of (by decide) (Nat.le_of_ble_eq_true rfl) kw_Ph_value ?_
  refine V_aload_n d_Ph_value_0 rfl ?_
  refine V_gf g_Ph_value_1 c_Ph rfl ?_
  refine V_aload_n d_Ph_value_4 rfl ?_
  refine V_iload_n d_Ph_value_5 rfl ?_
  refine V_iload_n d_Ph_value_6 rfl ?_
  refine V_iload_n d_Ph_value_7 rfl ?_
  refine V_cV s_Ph_value_8 (do_Ph_index c_Ph p x y) c_Ph rfl rfl (Nat.le_of_ble_eq_true rfl) ?_
  refine V_ialdN d_Ph_value_11 a_Ph_values (Ix.of hi hN) ?_
  exact V_iret d_Ph_value_12 rfl rfl
theorem do_Ph_change (c_Ph : h[1]? = some (PhO w ht)) (a_Ph_values : h[2]? = some (IA N f)) (p x y : Nat) (v : Int32) (hi : px w ht p x y < N) (hN : N < 2 ^ 31) : Do l G k_Ph_change [.ref 2, .int (nI p), .int (nI x), .int (nI y), .int v] h (ri (f (px w ht p x y))) (h.set 2 (IA N (upd f (px w ht p x y) v))) := by
  refine Do.of (by decide) (Nat.le_of_ble_eq_true rfl) kw_Ph_change ?_
  refine V_aload_n d_Ph_change_0 rfl ?_
  refine V_iload_n d_Ph_change_1 rfl ?_
  refine V_iload_n d_Ph_change_2 rfl ?_
  refine V_iload_n d_Ph_change_3 rfl ?_
  refine V_cV s_Ph_change_4 (do_Ph_index c_Ph p x y) c_Ph rfl rfl (Nat.le_of_ble_eq_true rfl) ?_
  refine V_istore d_Ph_change_7 (by decide) rfl ?_
  refine V_aload_n d_Ph_change_9 rfl ?_
  refine V_gf g_Ph_change_10 c_Ph rfl ?_
  refine V_iload d_Ph_change_13 rfl ?_
  refine V_ialdN d_Ph_change_15 a_Ph_values (Ix.of hi hN) ?_
  refine V_istore d_Ph_change_16 (by decide) rfl ?_
  refine V_aload_n d_Ph_change_18 rfl ?_
  refine V_gf g_Ph_change_19 c_Ph rfl ?_
  refine V_iload d_Ph_change_22 rfl ?_
  refine V_iload d_Ph_change_24 rfl ?_
  refine V_iastN d_Ph_change_26 a_Ph_values (Ix.of hi hN) ?_
  refine V_iload d_Ph_change_27 rfl ?_
  exact V_iret d_Ph_change_29 rfl rfl
/-- the square of a difference -/
def sqd (a b : Int32) : Int32 := (a - b) * (a - b)
theorem nI_dn {a d : Nat} (h : 1 ≤ a) : nI a + (nI d - 1) = nI (a - 1 + d) := by
  obtain ⟨b, rfl⟩ : ∃ b, a = b + 1 := ⟨a - 1, by omega⟩
  rw [Nat.add_sub_cancel, ← nI_add b d, ← nI_add b 1, show nI 1 = (1 : Int32) from by decide]
  rw [Int32.add_assoc, Int32.sub_eq_add_neg, ← Int32.add_assoc 1, Int32.add_comm 1 (nI d), Int32.add_assoc (nI d), Int32.add_right_neg, Int32.add_zero]
theorem nI_dn1 (d : Nat) : nI d - 1 + 1 = nI (d + 1) - 1 := by
  rw [← nI_1, Int32.sub_eq_add_neg, Int32.sub_eq_add_neg, Int32.add_assoc, Int32.add_assoc, Int32.add_comm (-1) 1]
/-- the miss of two windows -/
def wmiss (f : Nat → Int32) (w ht a ax ay b bx y : Nat) : Int32 :=
  fori (fun d t => fori (fun e t => t + sqd (f (px w ht a ax (ay - 1 + d) - 1 + e)) (f (px w ht b bx (y - 1 + d) - 1 + e))) 3 0 t) 3 0 0
theorem do_Ph_windowMiss (c_Ph : h[1]? = some (PhO w ht)) (a_Ph_values : h[2]? = some (IA (4 * ht * w) f)) (hw : w ≤ 20) (hht : ht ≤ 20) (a ax ay b bx y : Nat) (ha : a < 4) (hb : b < 4) (hax : 1 ≤ ax ∧ ax + 1 < w) (hay : 1 ≤ ay ∧ ay + 1 < ht) (hbx : 1 ≤ bx ∧ bx + 1 < w) (hy : 1 ≤ y ∧ y + 1 < ht) : Do l G k_Ph_windowMiss [.ref 2, .int (nI a), .int (nI ax), .int (nI ay), .int (nI b), .int (nI bx), .int (nI y)] h (ri (wmiss f w ht a ax ay b bx y)) h := by
  refine Do.of (by decide) (Nat.le_of_ble_eq_true rfl) kw_Ph_windowMiss ?_
  have hN : 4 * ht * w < 2 ^ 31 := by
    have : 4 * ht * w ≤ 4 * 20 * 20 := Nat.mul_le_mul (Nat.mul_le_mul_left _ hht) hw
    omega
  have inner : ∀ (d : Nat), d < 3 → ∀ (n e : Nat) (t : Int32), e + n = 3 → V l G k_Ph_windowMiss h 87 [(0, .ref 2), (1, .int (nI a)), (2, .int (nI ax)), (3, .int (nI ay)), (4, .int (nI b)), (5, .int (nI bx)), (6, .int (nI y)), (7, .int (fori (fun e t => t + sqd (f (px w ht a ax (ay - 1 + d) - 1 + e)) (f (px w ht b bx (y - 1 + d) - 1 + e))) n e t)), (8, .int (nI d - 1))] [] h (ri (wmiss f w ht a ax ay b bx y)) h → V l G k_Ph_windowMiss h 42 [(0, .ref 2), (1, .int (nI a)), (2, .int (nI ax)), (3, .int (nI ay)), (4, .int (nI b)), (5, .int (nI bx)), (6, .int (nI y)), (7, .int t), (8, .int (nI d - 1)), (9, .int (nI (px w ht a ax (ay - 1 + d)))), (10, .int (nI (px w ht b bx (y - 1 + d)))), (11, .int (nI e - 1))] [] h (ri (wmiss f w ht a ax ay b bx y)) h := by
    intro d hd n
    induction n with
    | zero =>
      intro e t he kk
      obtain rfl : e = 3 := by omega
      refine V_iload d_Ph_windowMiss_42 rfl ?_
      refine V_iconst (v := 1) d_Ph_windowMiss_44 (by decide) ?_
      refine V_icmp_gt (tgt := 87) d_Ph_windowMiss_45 (by decide) (fun _ => ?_) (fun c9 => absurd ((by decide : (1 : Int32) < nI 3 - 1)) c9)
      exact V_keep [0, 1, 2, 3, 4, 5, 6, 7, 8] kk
    | succ n ih =>
      intro e t he kk
      have hpa := px_lt (w := w) (ht := ht) (x := ax + 1) (y := ay - 1 + d) ha (by omega) (by omega)
      have hpb := px_lt (w := w) (ht := ht) (x := bx + 1) (y := y - 1 + d) hb (by omega) (by omega)
      have ea : px w ht a (ax + 1) (ay - 1 + d) = px w ht a ax (ay - 1 + d) + 1 := rfl
      have eb : px w ht b (bx + 1) (y - 1 + d) = px w ht b bx (y - 1 + d) + 1 := rfl
      have ga : 1 ≤ px w ht a ax (ay - 1 + d) := by unfold px; omega
      have gb : 1 ≤ px w ht b bx (y - 1 + d) := by unfold px; omega
      refine V_iload d_Ph_windowMiss_42 rfl ?_
      refine V_iconst (v := 1) d_Ph_windowMiss_44 (by decide) ?_
      refine V_icmp_gt (tgt := 87) d_Ph_windowMiss_45 (by decide) (fun c9 => absurd c9 ((by rcases (show e = 0 ∨ e = 1 ∨ e = 2 by omega) with q | q | q <;> subst q <;> decide : ¬ (1 : Int32) < nI e - 1))) (fun _ => ?_)
      refine V_aload_n d_Ph_windowMiss_48 rfl ?_
      refine V_gf g_Ph_windowMiss_49 c_Ph rfl ?_
      refine V_iload d_Ph_windowMiss_52 rfl ?_
      refine V_iload d_Ph_windowMiss_54 rfl ?_
      refine V_iadd d_Ph_windowMiss_56 ?_
      refine V_ialdN d_Ph_windowMiss_57 a_Ph_values (⟨nI_dn ga, by omega, hN⟩) ?_
      refine V_aload_n d_Ph_windowMiss_58 rfl ?_
      refine V_gf g_Ph_windowMiss_59 c_Ph rfl ?_
      refine V_iload d_Ph_windowMiss_62 rfl ?_
      refine V_iload d_Ph_windowMiss_64 rfl ?_
      refine V_iadd d_Ph_windowMiss_66 ?_
      refine V_ialdN d_Ph_windowMiss_67 a_Ph_values (⟨nI_dn gb, by omega, hN⟩) ?_
      refine V_isub d_Ph_windowMiss_68 ?_
      refine V_istore d_Ph_windowMiss_69 (by decide) rfl ?_
      refine V_iload d_Ph_windowMiss_71 rfl ?_
      refine V_iload d_Ph_windowMiss_73 rfl ?_
      refine V_iload d_Ph_windowMiss_75 rfl ?_
      refine V_imul d_Ph_windowMiss_77 ?_
      refine V_iadd d_Ph_windowMiss_78 ?_
      refine V_istore d_Ph_windowMiss_79 (by decide) rfl ?_
      refine V_iinc1 d_Ph_windowMiss_81 rfl (by decide) rfl ?_
      refine V_goto (tgt := 42) d_Ph_windowMiss_84 (by decide) ?_
      refine V_keep [0, 1, 2, 3, 4, 5, 6, 7, 8, 9, 10, 11] ?_
      rw [nI_dn1]
      exact ih (e + 1) _ (by omega) kk
  have outer : ∀ (n d : Nat) (t : Int32), d + n = 3 → wmiss f w ht a ax ay b bx y = fori (fun d t => fori (fun e t => t + sqd (f (px w ht a ax (ay - 1 + d) - 1 + e)) (f (px w ht b bx (y - 1 + d) - 1 + e))) 3 0 t) n d t → V l G k_Ph_windowMiss h 6 [(0, .ref 2), (1, .int (nI a)), (2, .int (nI ax)), (3, .int (nI ay)), (4, .int (nI b)), (5, .int (nI bx)), (6, .int (nI y)), (7, .int t), (8, .int (nI d - 1))] [] h (ri (wmiss f w ht a ax ay b bx y)) h := by
    intro n
    induction n with
    | zero =>
      intro d t hd e
      obtain rfl : d = 3 := by omega
      rw [e]
      refine V_iload d_Ph_windowMiss_6 rfl ?_
      refine V_iconst (v := 1) d_Ph_windowMiss_8 (by decide) ?_
      refine V_icmp_gt (tgt := 93) d_Ph_windowMiss_9 (by decide) (fun _ => ?_) (fun c9 => absurd ((by decide : (1 : Int32) < nI 3 - 1)) c9)
      refine V_iload d_Ph_windowMiss_93 rfl ?_
      exact V_iret d_Ph_windowMiss_95 rfl rfl
    | succ n ih =>
      intro d t hd e
      refine V_iload d_Ph_windowMiss_6 rfl ?_
      refine V_iconst (v := 1) d_Ph_windowMiss_8 (by decide) ?_
      refine V_icmp_gt (tgt := 93) d_Ph_windowMiss_9 (by decide) (fun c9 => absurd c9 ((by rcases (show d = 0 ∨ d = 1 ∨ d = 2 by omega) with q | q | q <;> subst q <;> decide : ¬ (1 : Int32) < nI d - 1))) (fun _ => ?_)
      refine V_aload_n d_Ph_windowMiss_12 rfl ?_
      refine V_iload_n d_Ph_windowMiss_13 rfl ?_
      refine V_iload_n d_Ph_windowMiss_14 rfl ?_
      refine V_iload_n d_Ph_windowMiss_15 rfl ?_
      refine V_iload d_Ph_windowMiss_16 rfl ?_
      refine V_iadd d_Ph_windowMiss_18 ?_
      rw [nI_dn hay.1]
      refine V_cV s_Ph_windowMiss_19 (do_Ph_index c_Ph a ax (ay - 1 + d)) c_Ph rfl rfl (Nat.le_of_ble_eq_true rfl) ?_
      refine V_istore d_Ph_windowMiss_22 (by decide) rfl ?_
      refine V_aload_n d_Ph_windowMiss_24 rfl ?_
      refine V_iload d_Ph_windowMiss_25 rfl ?_
      refine V_iload d_Ph_windowMiss_27 rfl ?_
      refine V_iload d_Ph_windowMiss_29 rfl ?_
      refine V_iload d_Ph_windowMiss_31 rfl ?_
      refine V_iadd d_Ph_windowMiss_33 ?_
      rw [nI_dn hy.1]
      refine V_cV s_Ph_windowMiss_34 (do_Ph_index c_Ph b bx (y - 1 + d)) c_Ph rfl rfl (Nat.le_of_ble_eq_true rfl) ?_
      refine V_istore d_Ph_windowMiss_37 (by decide) rfl ?_
      refine V_iconst (v := (-1)) d_Ph_windowMiss_39 (by decide) ?_
      refine V_istore d_Ph_windowMiss_40 (by decide) rfl ?_
      refine inner d (by omega) 3 0 t (by omega) ?_
      refine V_iinc1 d_Ph_windowMiss_87 rfl (by decide) rfl ?_
      refine V_goto (tgt := 6) d_Ph_windowMiss_90 (by decide) ?_
      rw [nI_dn1]
      exact ih (d + 1) _ (by omega) e
  refine V_iconst (v := 0) d_Ph_windowMiss_0 (by decide) ?_
  refine V_istore d_Ph_windowMiss_1 (by decide) rfl ?_
  refine V_iconst (v := (-1)) d_Ph_windowMiss_3 (by decide) ?_
  refine V_istore d_Ph_windowMiss_4 (by decide) rfl ?_
  exact outer 3 0 0 (by omega) rfl
end P10
end
section
section P11
variable {l : Launch} {G : Gb} {h : List Ce} {n : Nat} {sp : Int32} {As Bn : Nat → Bool} {wh : Nat → Int32}
abbrev PlO (n : Nat) (sp : Int32) : Ce := .inr (4, [.ref 7, .ref 8, .ref 9, .int (nI n), .int sp])
theorem do_Pl_number (c_Pl : h[5]? = some (PlO n sp)) : Do l G k_Pl_number [.ref 6] h (ri (nI n)) h := by
  refine Do.of (by decide) (Nat.le_of_ble_eq_true rfl) kw_Pl_number ?_
  refine V_aload_n d_Pl_number_0 rfl ?_
  refine V_gf g_Pl_number_1 c_Pl rfl ?_
  exact V_iret d_Pl_number_4 rfl rfl
theorem do_Pl_spares (c_Pl : h[5]? = some (PlO n sp)) : Do l G k_Pl_spares [.ref 6] h (ri sp) h := by
  refine Do.of (by decide) (Nat.le_of_ble_eq_true rfl) kw_Pl_spares ?_
  refine V_aload_n d_Pl_spares_0 rfl ?_
  refine V_gf g_Pl_spares_1 c_Pl rfl ?_
  exact V_iret d_Pl_spares_4 rfl rfl
/-- is x the number of one of n? -/
def hasB (x : Int32) (n : Nat) : Bool := decide (0 ≤ x) && decide (x < nI n)
theorem nle_iff {a b : Int32} : ¬ a ≤ b ↔ b < a := by rw [Int32.le_iff_toInt_le, Int32.lt_iff_toInt_lt]; omega
theorem nlt_iff {a b : Int32} : ¬ a < b ↔ b ≤ a := by rw [Int32.le_iff_toInt_le, Int32.lt_iff_toInt_lt]; omega
theorem do_Pl_has (c_Pl : h[5]? = some (PlO n sp)) (x : Int32) : Do l G k_Pl_has [.ref 6, .int x] h (rz (hasB x n)) h := by
  refine Do.of (by decide) (Nat.le_of_ble_eq_true rfl) kw_Pl_has ?_
  refine V_iload_n d_Pl_has_0 rfl ?_
  refine V_if_lt (tgt := 16) d_Pl_has_1 (by decide) (fun c1 => ?_) (fun c1 => ?_)
  · rw [rz, show hasB x n = false by simp [hasB, nle_iff.mpr c1]]
    refine V_iconst (v := 0) d_Pl_has_16 (by decide) ?_
    exact V_iret d_Pl_has_17 rfl (by first | rfl | exact bI_n _)
  · refine V_iload_n d_Pl_has_4 rfl ?_
    refine V_aload_n d_Pl_has_5 rfl ?_
    refine V_gf g_Pl_has_6 c_Pl rfl ?_
    refine V_icmp_ge (tgt := 16) d_Pl_has_9 (by decide) (fun c2 => ?_) (fun c2 => ?_)
    · rw [rz, show hasB x n = false by simp [hasB, nlt_iff.mpr c2]]
      refine V_iconst (v := 0) d_Pl_has_16 (by decide) ?_
      exact V_iret d_Pl_has_17 rfl (by first | rfl | exact bI_n _)
    · rw [rz, show hasB x n = true by simp [hasB, nlt_iff.mp c1, nle_iff.mp c2]]
      refine V_iconst (v := 1) d_Pl_has_12 (by decide) ?_
      refine V_goto (tgt := 17) d_Pl_has_13 (by decide) ?_
      exact V_iret d_Pl_has_17 rfl (by first | rfl | exact bI_n _)
theorem do_Pl_add (c_Pl : h[5]? = some (PlO n sp)) : Do l G k_Pl_add [.ref 6] h (ri (nI n)) (h.set 5 (PlO (n + 1) sp)) := by
  refine Do.of (by decide) (Nat.le_of_ble_eq_true rfl) kw_Pl_add ?_
  refine V_aload_n d_Pl_add_0 rfl ?_
  refine V_gf g_Pl_add_1 c_Pl rfl ?_
  refine V_istore_n d_Pl_add_4 (by decide) rfl ?_
  refine V_aload_n d_Pl_add_5 rfl ?_
  refine V_dup d_Pl_add_6 rfl ?_
  refine V_gf g_Pl_add_7 c_Pl rfl ?_
  refine V_iconst (v := 1) d_Pl_add_10 (by decide) ?_
  refine V_iadd d_Pl_add_11 ?_
  rw [nI_1]
  refine V_pf p_Pl_add_12 c_Pl (Nat.le_of_ble_eq_true rfl) rfl rfl ?_
  refine V_iload_n d_Pl_add_15 rfl ?_
  exact V_iret d_Pl_add_16 rfl rfl
theorem do_Pl_isSpare (c_Pl : h[5]? = some (PlO n sp)) (a_Pl_aside : h[6]? = some (ZA 12 As)) {p : Nat} (hp : p < 12) : Do l G k_Pl_isSpare [.ref 6, .int (nI p)] h (rz (As p)) h := by
  refine Do.of (by decide) (Nat.le_of_ble_eq_true rfl) kw_Pl_isSpare ?_
  refine V_aload_n d_Pl_isSpare_0 rfl ?_
  refine V_gf g_Pl_isSpare_1 c_Pl rfl ?_
  refine V_iload_n d_Pl_isSpare_4 rfl ?_
  refine V_zaldN d_Pl_isSpare_5 a_Pl_aside (Ix.of hp (by decide)) ?_
  exact V_iret d_Pl_isSpare_6 rfl (by first | rfl | exact bI_n _)
theorem do_Pl_setAside (c_Pl : h[5]? = some (PlO n sp)) (a_Pl_aside : h[6]? = some (ZA 12 As)) {p : Nat} (hp : p < 12) (b : Bool) : Do l G k_Pl_setAside [.ref 6, .int (nI p), .int (bI b)] h (rz (As p != b)) (if As p = b then h else (h.set 6 (ZA 12 (updB As p b))).set 5 (PlO n (sp + if b then 1 else -1))) := by
  refine Do.of (by decide) (Nat.le_of_ble_eq_true rfl) kw_Pl_setAside ?_
  refine V_aload_n d_Pl_setAside_0 rfl ?_
  refine V_gf g_Pl_setAside_1 c_Pl rfl ?_
  refine V_iload_n d_Pl_setAside_4 rfl ?_
  refine V_zaldN d_Pl_setAside_5 a_Pl_aside (Ix.of hp (by decide)) ?_
  refine V_iload_n d_Pl_setAside_6 rfl ?_
  refine V_icmp_ne (tgt := 12) d_Pl_setAside_7 (by decide) (fun c1 => ?_) (fun c1 => ?_)
  · have e : ¬ As p = b := fun q => c1 ((bI_ne _ _).mpr q)
    rw [if_neg e, rz, show (As p != b) = true by simp [e]]
    refine V_aload_n d_Pl_setAside_12 rfl ?_
    refine V_gf g_Pl_setAside_13 c_Pl rfl ?_
    refine V_iload_n d_Pl_setAside_16 rfl ?_
    refine V_iload_n d_Pl_setAside_17 rfl ?_
    refine V_zastN d_Pl_setAside_18 a_Pl_aside (Ix.of hp (by decide)) ?_
    have c_Pl : (h.set 6 (ZA 12 (updB As p b)))[5]? = some (PlO n sp) := by rw [List.getElem?_set_ne (by decide)]; exact c_Pl
    refine V_aload_n d_Pl_setAside_19 rfl ?_
    refine V_dup d_Pl_setAside_20 rfl ?_
    refine V_gf g_Pl_setAside_21 c_Pl rfl ?_
    refine V_iload_n d_Pl_setAside_24 rfl ?_
    refine V_if_eq (tgt := 32) d_Pl_setAside_25 (by decide) (fun c2 => ?_) (fun c2 => ?_)
    · obtain rfl := (bI_0 _).mp c2
      refine V_iconst (v := (-1)) d_Pl_setAside_32 (by decide) ?_
      refine V_iadd d_Pl_setAside_33 ?_
      refine V_pf p_Pl_setAside_34 c_Pl (Nat.le_of_ble_eq_true rfl) rfl rfl ?_
      refine V_iconst (v := 1) d_Pl_setAside_37 (by decide) ?_
      exact V_iret d_Pl_setAside_38 rfl (by first | rfl | exact bI_n _)
    · obtain rfl : b = true := by simpa [bI_0] using c2
      refine V_iconst (v := 1) d_Pl_setAside_28 (by decide) ?_
      refine V_goto (tgt := 33) d_Pl_setAside_29 (by decide) ?_
      refine V_iadd d_Pl_setAside_33 ?_
      refine V_pf p_Pl_setAside_34 c_Pl (Nat.le_of_ble_eq_true rfl) rfl rfl ?_
      refine V_iconst (v := 1) d_Pl_setAside_37 (by decide) ?_
      exact V_iret d_Pl_setAside_38 rfl (by first | rfl | exact bI_n _)
  · have e : As p = b := (bI_ne _ _).mp c1
    rw [if_pos e, rz, show (As p != b) = false by simp [e]]
    refine V_iconst (v := 0) d_Pl_setAside_10 (by decide) ?_
    exact V_iret d_Pl_setAside_11 rfl (by first | rfl | exact bI_n _)
theorem do_Pl_isNoted (c_Pl : h[5]? = some (PlO n sp)) (a_Pl_noted : h[7]? = some (ZA 48 Bn)) {p q : Nat} (hp : p < 12) (hq : q < 4) : Do l G k_Pl_isNoted [.ref 6, .int (nI p), .int (nI q)] h (rz (Bn (p * 4 + q))) h := by
  refine Do.of (by decide) (Nat.le_of_ble_eq_true rfl) kw_Pl_isNoted ?_
  refine V_aload_n d_Pl_isNoted_0 rfl ?_
  refine V_gf g_Pl_isNoted_1 c_Pl rfl ?_
  refine V_iload_n d_Pl_isNoted_4 rfl ?_
  refine V_iconst (v := 4) d_Pl_isNoted_5 (by decide) ?_
  refine V_imul d_Pl_isNoted_6 ?_
  refine V_iload_n d_Pl_isNoted_7 rfl ?_
  refine V_iadd d_Pl_isNoted_8 ?_
  refine V_zaldN d_Pl_isNoted_9 a_Pl_noted (⟨by rw [show (4 : Int32) = nI 4 from rfl, pk_mul, nI_add], by omega, by decide⟩) ?_
  exact V_iret d_Pl_isNoted_10 rfl (by first | rfl | exact bI_n _)
theorem do_Pl_where (c_Pl : h[5]? = some (PlO n sp)) (a_Pl_where : h[8]? = some (IA 96 wh)) {p q x : Nat} (hp : p < 12) (hq : q < 4) (hx : x < 2) : Do l G k_Pl_where [.ref 6, .int (nI p), .int (nI q), .int (nI x)] h (ri (wh ((p * 4 + q) * 2 + x))) h := by
  refine Do.of (by decide) (Nat.le_of_ble_eq_true rfl) kw_Pl_where ?_
  refine V_aload_n d_Pl_where_0 rfl ?_
  refine V_gf g_Pl_where_1 c_Pl rfl ?_
  refine V_iload_n d_Pl_where_4 rfl ?_
  refine V_iconst (v := 4) d_Pl_where_5 (by decide) ?_
  refine V_imul d_Pl_where_6 ?_
  refine V_iload_n d_Pl_where_7 rfl ?_
  refine V_iadd d_Pl_where_8 ?_
  refine V_iconst (v := 2) d_Pl_where_9 (by decide) ?_
  refine V_imul d_Pl_where_10 ?_
  refine V_iload_n d_Pl_where_11 rfl ?_
  refine V_iadd d_Pl_where_12 ?_
  refine V_ialdN d_Pl_where_13 a_Pl_where (⟨by rw [show (4 : Int32) = nI 4 from rfl, pk_mul, nI_add, show (2 : Int32) = nI 2 from rfl, pk_mul, nI_add], by omega, by decide⟩) ?_
  exact V_iret d_Pl_where_14 rfl rfl
theorem do_Pl_forget (c_Pl : h[5]? = some (PlO n sp)) (a_Pl_noted : h[7]? = some (ZA 48 Bn)) {p q : Nat} (hp : p < 12) (hq : q < 4) : Do l G k_Pl_forget [.ref 6, .int (nI p), .int (nI q)] h (rz (Bn (p * 4 + q))) (h.set 7 (ZA 48 (updB Bn (p * 4 + q) false))) := by
  refine Do.of (by decide) (Nat.le_of_ble_eq_true rfl) kw_Pl_forget ?_
  refine V_aload_n d_Pl_forget_0 rfl ?_
  refine V_iload_n d_Pl_forget_1 rfl ?_
  refine V_iload_n d_Pl_forget_2 rfl ?_
  refine V_cV s_Pl_forget_3 (do_Pl_isNoted c_Pl a_Pl_noted hp hq) c_Pl rfl rfl (Nat.le_of_ble_eq_true rfl) ?_
  refine V_istore_n d_Pl_forget_6 (by decide) rfl ?_
  refine V_aload_n d_Pl_forget_7 rfl ?_
  refine V_gf g_Pl_forget_8 c_Pl rfl ?_
  refine V_iload_n d_Pl_forget_11 rfl ?_
  refine V_iconst (v := 4) d_Pl_forget_12 (by decide) ?_
  refine V_imul d_Pl_forget_13 ?_
  refine V_iload_n d_Pl_forget_14 rfl ?_
  refine V_iadd d_Pl_forget_15 ?_
  refine V_iconst (v := 0) d_Pl_forget_16 (by decide) ?_
  rw [show (0 : Int32) = bI false from rfl]
  refine V_zastN d_Pl_forget_17 a_Pl_noted (⟨by rw [show (4 : Int32) = nI 4 from rfl, pk_mul, nI_add], by omega, by decide⟩) ?_
  refine V_iload_n d_Pl_forget_18 rfl ?_
  exact V_iret d_Pl_forget_19 rfl (by first | rfl | exact bI_n _)
theorem do_Pl_note (c_Pl : h[5]? = some (PlO n sp)) (a_Pl_noted : h[7]? = some (ZA 48 Bn)) (a_Pl_where : h[8]? = some (IA 96 wh)) {p q : Nat} (hp : p < 12) (hq : q < 4) (x y : Int32) : Do l G k_Pl_note [.ref 6, .int (nI p), .int (nI q), .int x, .int y] h (rz (Bn (p * 4 + q))) ((h.set 7 (ZA 48 (updB Bn (p * 4 + q) true))).set 8 (IA 96 (upd (upd wh ((p * 4 + q) * 2) x) ((p * 4 + q) * 2 + 1) y))) := by
  refine Do.of (by decide) (Nat.le_of_ble_eq_true rfl) kw_Pl_note ?_
  refine V_iload_n d_Pl_note_0 rfl ?_
  refine V_iconst (v := 4) d_Pl_note_1 (by decide) ?_
  refine V_imul d_Pl_note_2 ?_
  refine V_iload_n d_Pl_note_3 rfl ?_
  refine V_iadd d_Pl_note_4 ?_
  rw [show (4 : Int32) = nI 4 from rfl, pk_mul, nI_add]
  refine V_istore d_Pl_note_5 (by decide) rfl ?_
  refine V_aload_n d_Pl_note_7 rfl ?_
  refine V_gf g_Pl_note_8 c_Pl rfl ?_
  refine V_iload d_Pl_note_11 rfl ?_
  refine V_zaldN d_Pl_note_13 a_Pl_noted (Ix.of (by omega) (by decide)) ?_
  refine V_istore d_Pl_note_14 (by decide) rfl ?_
  refine V_aload_n d_Pl_note_16 rfl ?_
  refine V_gf g_Pl_note_17 c_Pl rfl ?_
  refine V_iload d_Pl_note_20 rfl ?_
  refine V_iconst (v := 1) d_Pl_note_22 (by decide) ?_
  rw [show V l G k_Pl_note h 23 = V l G k_Pl_note h 23 from rfl]
  have e1 : ∀ {K9 : Kt} {h9 : List Ce} {ls9 : List (Nat × Value)} {st9 : List Value} {r9 : Rs} {h8 h7 : List Ce}, V l G K9 h9 23 ls9 (.int (bI true) :: st9) h8 r9 h7 → V l G K9 h9 23 ls9 (.int 1 :: st9) h8 r9 h7 := fun q => q
  refine e1 ?_
  refine V_zastN d_Pl_note_23 a_Pl_noted (Ix.of (by omega) (by decide)) ?_
  have c_Pl' : (h.set 7 (ZA 48 (updB Bn (p * 4 + q) true)))[5]? = some (PlO n sp) := by rw [List.getElem?_set_ne (by decide)]; exact c_Pl
  have a_Pl_where' : (h.set 7 (ZA 48 (updB Bn (p * 4 + q) true)))[8]? = some (IA 96 wh) := by rw [List.getElem?_set_ne (by decide)]; exact a_Pl_where
  have e2 : nI (p * 4 + q) * 2 = nI ((p * 4 + q) * 2) := by rw [show (2 : Int32) = nI 2 from rfl, pk_mul]
  have e3 : nI ((p * 4 + q) * 2) + 1 = nI ((p * 4 + q) * 2 + 1) := nI_1 _
  revert c_Pl' a_Pl_where'
  generalize hE : h.set 7 (ZA 48 (updB Bn (p * 4 + q) true)) = E
  intro c_Pl a_Pl_where
  refine V_aload_n d_Pl_note_24 rfl ?_
  refine V_gf g_Pl_note_25 c_Pl rfl ?_
  refine V_iload d_Pl_note_28 rfl ?_
  refine V_iconst (v := 2) d_Pl_note_30 (by decide) ?_
  refine V_imul d_Pl_note_31 ?_
  rw [e2]
  refine V_iload_n d_Pl_note_32 rfl ?_
  refine V_iastN d_Pl_note_33 a_Pl_where (Ix.of (by omega) (by decide)) ?_
  have c_Pl' : (E.set 8 (IA 96 (upd wh ((p * 4 + q) * 2) x)))[5]? = some (PlO n sp) := by rw [List.getElem?_set_ne (by decide)]; exact c_Pl
  have hlen : 8 < E.length := (List.getElem?_eq_some_iff.mp a_Pl_where).1
  have a_Pl_where' : (E.set 8 (IA 96 (upd wh ((p * 4 + q) * 2) x)))[8]? = some (IA 96 (upd wh ((p * 4 + q) * 2) x)) := List.getElem?_set_self hlen
  rw [show E.set 8 (IA 96 (upd (upd wh ((p * 4 + q) * 2) x) ((p * 4 + q) * 2 + 1) y)) = (E.set 8 (IA 96 (upd wh ((p * 4 + q) * 2) x))).set 8 (IA 96 (upd (upd wh ((p * 4 + q) * 2) x) ((p * 4 + q) * 2 + 1) y)) from (List.set_set _).symm]
  revert c_Pl' a_Pl_where'
  generalize E.set 8 (IA 96 (upd wh ((p * 4 + q) * 2) x)) = E2
  intro c_Pl a_Pl_where
  refine V_aload_n d_Pl_note_34 rfl ?_
  refine V_gf g_Pl_note_35 c_Pl rfl ?_
  refine V_iload d_Pl_note_38 rfl ?_
  refine V_iconst (v := 2) d_Pl_note_40 (by decide) ?_
  refine V_imul d_Pl_note_41 ?_
  rw [e2]
  refine V_iconst (v := 1) d_Pl_note_42 (by decide) ?_
  refine V_iadd d_Pl_note_43 ?_
  rw [e3]
  refine V_iload d_Pl_note_44 rfl ?_
  refine V_iastN d_Pl_note_46 a_Pl_where (Ix.of (by omega) (by decide)) ?_
  refine V_iload d_Pl_note_47 rfl ?_
  exact V_iret d_Pl_note_49 rfl (by first | rfl | exact bI_n _)
end P11
end
section
/-! heaps by the cells that one looks at: hS h l is h with the cells of l -/
def lk (l : List (Nat × Ce)) (k : Nat) : Option Ce := match l with
  | [] => none
  | (j, c) :: t => if j = k then some c else lk t k
def put (l : List (Nat × Ce)) (k : Nat) (c : Ce) : List (Nat × Ce) := match l with
  | [] => [(k, c)]
  | (j, d) :: t => if j = k then (j, c) :: t else (j, d) :: put t k c
theorem lk_put (l : List (Nat × Ce)) (k j : Nat) (c : Ce) : lk (put l k c) j = if k = j then some c else lk l j := by
  induction l with
  | nil => simp [lk, put]
  | cons q t ih =>
    obtain ⟨i, d⟩ := q
    simp only [put]
    by_cases e : i = k
    · subst e
      simp only [if_true, lk]
      by_cases e2 : i = j <;> simp [e2]
    · simp only [e, if_false, lk, ih]
      by_cases e2 : i = j
      · subst e2
        simp [Ne.symm e]
      · simp [e2]
def hS (h : List Ce) (l : List (Nat × Ce)) : List Ce := h.mapIdx (fun k c => (lk l k).getD c)
theorem hS_len (h : List Ce) (l : List (Nat × Ce)) : (hS h l).length = h.length := by simp [hS]
theorem hS_at (h : List Ce) (l : List (Nat × Ce)) (k : Nat) : (hS h l)[k]? = h[k]?.map (fun c => (lk l k).getD c) := by simp [hS]
theorem rd {h : List Ce} {l : List (Nat × Ce)} {n k : Nat} {c : Ce} (hL : n ≤ h.length) (hk : Nat.blt k n = true) (e : lk l k = some c) : (hS h l)[k]? = some c := by
  have hk : k < n := by simpa [Nat.blt_eq] using hk
  rw [hS_at, e, List.getElem?_eq_getElem (by omega)]
  rfl
theorem ro {h : List Ce} {l : List (Nat × Ce)} {k : Nat} {c : Ce} (hk : h[k]? = some c) (e : lk l k = none) : (hS h l)[k]? = some c := by
  rw [hS_at, e, hk]
  rfl
theorem hS_set (h : List Ce) (l : List (Nat × Ce)) (k : Nat) (c : Ce) : (hS h l).set k c = hS h (put l k c) := by
  apply List.ext_getElem?
  intro i
  rw [List.getElem?_set, hS_at, hS_at, hS_len, lk_put]
  by_cases e : k = i
  · subst e
    by_cases hl : k < h.length
    · simp [hl]
    · simp [hl]
  · simp [e]
theorem hS_nil (h : List Ce) : hS h [] = h := by
  apply List.ext_getElem?
  intro i
  rw [hS_at]
  cases h[i]? <;> rfl
theorem hS_id {h : List Ce} {l : List (Nat × Ce)} (e : ∀ k c, lk l k = some c → h[k]? = some c) : hS h l = h := by
  apply List.ext_getElem?
  intro i
  rw [hS_at]
  cases q : lk l i with
  | none => cases h[i]? <;> rfl
  | some c => rw [e i c q]; rfl
theorem hS_push {h : List Ce} {l : List (Nat × Ce)} (c : Ce) (e : lk l h.length = none) : hS h l ++ [c] = hS (h ++ [c]) l := by
  apply List.ext_getElem?
  intro i
  rw [hS_at, List.getElem?_append, List.getElem?_append, hS_len, hS_at]
  by_cases hl : i < h.length
  · simp [hl]
  · simp only [hl, if_false]
    by_cases h2 : i - h.length = 0
    · have : i = h.length := by omega
      subst this
      simp [e]
    · rw [List.getElem?_eq_none (by simp; omega)]
      rfl
section R12
variable {l : Launch} {G : Gb} {K : Kt} {h0 : List Ce} {pc : Nat} {ls : List (Nat × Value)} {st : List Value} {h : List Ce} {r : Rs} {h' : List Ce}
/-- behind a write -/
theorem V_hS {l9 l8 : List (Nat × Ce)} {k : Nat} {c : Ce} (e : put l9 k c = l8) (kk : V l G K h0 pc ls st (hS h l8) r h') : V l G K h0 pc ls st ((hS h l9).set k c) r h' := by
  rw [hS_set, e]
  exact kk
theorem V_eqh {h1 h2 : List Ce} (e : h1 = h2) (kk : V l G K h0 pc ls st h2 r h') : V l G K h0 pc ls st h1 r h' := e ▸ kk
theorem V_eqr {r1 : Rs} {h1 : List Ce} (e : r1 = r) (e2 : h1 = h') (kk : V l G K h0 pc ls st h r1 h1) : V l G K h0 pc ls st h r h' := e2 ▸ e ▸ kk
theorem V_eqs {st1 : List Value} (e : st1 = st) (kk : V l G K h0 pc ls st1 h r h') : V l G K h0 pc ls st h r h' := e ▸ kk
theorem Do.eqh {vs : List Value} {h1 h2 : List Ce} (e1 : h1 = h) (e2 : h2 = h') (d : Do l G K vs h1 r h2) : Do l G K vs h r h' := e1 ▸ e2 ▸ d
end R12
end
section
section P13
variable {l : Launch} {G : Gb} {h : List Ce} {w ht : Nat} {dn : Bool} {fx fy le : Int32} {ms : Nat → Int32}
abbrev SeO (w ht : Nat) (dn : Bool) (fx fy le : Int32) : Ce := .inr (6, [.int (nI w), .int (nI ht), .ref 5, .int (bI dn), .int fx, .int fy, .int le])
theorem do_Se_isDone (c_Se : h[3]? = some (SeO w ht dn fx fy le)) : Do l G k_Se_isDone [.ref 4] h (rz dn) h := by
  refine Do.of (by decide) (Nat.le_of_ble_eq_true rfl) kw_Se_isDone ?_
  refine V_aload_n d_Se_isDone_0 rfl ?_
  refine V_gf g_Se_isDone_1 c_Se rfl ?_
  exact V_iret d_Se_isDone_4 rfl (by first | rfl | exact bI_n _)
theorem do_Se_answer (c_Se : h[3]? = some (SeO w ht dn fx fy le)) (x : Int32) : Do l G k_Se_answer [.ref 4, .int x] h (ri (if x = 2 then le else if x = 0 then fx else fy)) h := by
  refine Do.of (by decide) (Nat.le_of_ble_eq_true rfl) kw_Se_answer ?_
  refine V_iload_n d_Se_answer_0 rfl ?_
  refine V_iconst (v := 2) d_Se_answer_1 (by decide) ?_
  refine V_icmp_ne (tgt := 10) d_Se_answer_2 (by decide) (fun c1 => ?_) (fun c1 => ?_)
  · rw [if_neg c1]
    refine V_iload_n d_Se_answer_10 rfl ?_
    refine V_if_ne (tgt := 21) d_Se_answer_11 (by decide) (fun c2 => ?_) (fun c2 => ?_)
    · rw [if_neg c2]
      refine V_aload_n d_Se_answer_21 rfl ?_
      refine V_gf g_Se_answer_22 c_Se rfl ?_
      exact V_iret d_Se_answer_25 rfl rfl
    · rw [if_pos c2]
      refine V_aload_n d_Se_answer_14 rfl ?_
      refine V_gf g_Se_answer_15 c_Se rfl ?_
      refine V_goto (tgt := 25) d_Se_answer_18 (by decide) ?_
      exact V_iret d_Se_answer_25 rfl rfl
  · rw [if_pos c1]
    refine V_aload_n d_Se_answer_5 rfl ?_
    refine V_gf g_Se_answer_6 c_Se rfl ?_
    exact V_iret d_Se_answer_9 rfl rfl
/-- a number without its sign, as Math.abs has it -/
def ab (z : Int32) : Int32 := if 0 ≤ z then z else 0 - z
def farB (x y fx fy : Int32) : Bool := decide (1 < ab (x - fx)) || decide (1 < ab (y - fy))
theorem do_Se_far (c_Se : h[3]? = some (SeO w ht dn fx fy le)) (x y : Int32) : Do l G k_Se_isFarFromFound [.ref 4, .int x, .int y] h (rz (farB x y fx fy)) h := by
  refine Do.of (by decide) (Nat.le_of_ble_eq_true rfl) kw_Se_isFarFromFound ?_
  refine V_iload_n d_Se_isFarFromFound_0 rfl ?_
  refine V_aload_n d_Se_isFarFromFound_1 rfl ?_
  refine V_gf g_Se_isFarFromFound_2 c_Se rfl ?_
  refine V_isub d_Se_isFarFromFound_5 ?_
  refine V_abs s_Se_isFarFromFound_6 (Nat.le_of_ble_eq_true rfl) ?_
  refine V_iconst (v := 1) d_Se_isFarFromFound_9 (by decide) ?_
  rw [show (if 0 ≤ x - fx then x - fx else 0 - (x - fx)) = ab (x - fx) from rfl]
  refine V_icmp_gt (tgt := 26) d_Se_isFarFromFound_10 (by decide) (fun c1 => ?_) (fun c1 => ?_)
  · rw [rz, show farB x y fx fy = true by simp [farB, c1]]
    refine V_iconst (v := 1) d_Se_isFarFromFound_26 (by decide) ?_
    refine V_goto (tgt := 31) d_Se_isFarFromFound_27 (by decide) ?_
    exact V_iret d_Se_isFarFromFound_31 rfl (by first | rfl | exact bI_n _)
  · refine V_iload_n d_Se_isFarFromFound_13 rfl ?_
    refine V_aload_n d_Se_isFarFromFound_14 rfl ?_
    refine V_gf g_Se_isFarFromFound_15 c_Se rfl ?_
    refine V_isub d_Se_isFarFromFound_18 ?_
    refine V_abs s_Se_isFarFromFound_19 (Nat.le_of_ble_eq_true rfl) ?_
    refine V_iconst (v := 1) d_Se_isFarFromFound_22 (by decide) ?_
    rw [show (if 0 ≤ y - fy then y - fy else 0 - (y - fy)) = ab (y - fy) from rfl]
    refine V_icmp_le (tgt := 30) d_Se_isFarFromFound_23 (by decide) (fun c2 => ?_) (fun c2 => ?_)
    · rw [rz, show farB x y fx fy = false by simp [farB, c1, nlt_iff.mpr c2]]
      refine V_iconst (v := 0) d_Se_isFarFromFound_30 (by decide) ?_
      exact V_iret d_Se_isFarFromFound_31 rfl (by first | rfl | exact bI_n _)
    · rw [rz, show farB x y fx fy = true by simp [farB, nle_iff.mp c2]]
      refine V_iconst (v := 1) d_Se_isFarFromFound_26 (by decide) ?_
      refine V_goto (tgt := 31) d_Se_isFarFromFound_27 (by decide) ?_
      exact V_iret d_Se_isFarFromFound_31 rfl (by first | rfl | exact bI_n _)
/-- one cell of the second search -/
def lfS (ms : Nat → Int32) (w : Nat) (fx fy : Int32) (y x : Nat) (t : Int32) : Int32 := if farB (nI x) (nI y) fx fy && (decide (t = -1) || decide (ms (y * w + x) < t)) then ms (y * w + x) else t
def lfR (ms : Nat → Int32) (w ht : Nat) (fx fy : Int32) : Int32 := fori (fun y t => fori (fun x t => lfS ms w fx fy y x t) (w - 2) 1 t) (ht - 2) 1 (-1)
theorem nIm1 {a : Nat} (h : 1 ≤ a) : nI a - 1 = nI (a - 1) := pk_sub (b := 1) h
theorem nIm2 {a : Nat} (h : 2 ≤ a) : nI a - 2 = nI (a - 2) := pk_sub (b := 2) h
theorem do_Se_lf (c_Se : h[3]? = some (SeO w ht dn fx fy le)) (a_Se_misses : h[4]? = some (IA (w * ht) ms)) (hw : 6 ≤ w ∧ w ≤ 20) (hht : 6 ≤ ht ∧ ht ≤ 20) : Do l G k_Se_leastFarFromFound [.ref 4] h (ri (lfR ms w ht fx fy)) h := by
  refine Do.of (by decide) (Nat.le_of_ble_eq_true rfl) kw_Se_leastFarFromFound ?_
  have hN : w * ht < 2 ^ 31 := by
    have : w * ht ≤ 20 * 20 := Nat.mul_le_mul hw.2 hht.2
    omega
  have inner : ∀ (y : Nat), 1 ≤ y → y + 1 < ht → ∀ (n x : Nat) (t : Int32), 1 ≤ x → x + n = w - 1 → V l G k_Se_leastFarFromFound h 70 [(0, .ref 4), (1, .int (fori (fun x t => lfS ms w fx fy y x t) n x t)), (2, .int (nI y))] [] h (ri (lfR ms w ht fx fy)) h → V l G k_Se_leastFarFromFound h 16 [(0, .ref 4), (1, .int t), (2, .int (nI y)), (3, .int (nI x))] [] h (ri (lfR ms w ht fx fy)) h := by
    intro y hy1 hy2 n
    induction n with
    | zero =>
      intro x t hx e kk
      refine V_iload_n d_Se_leastFarFromFound_16 rfl ?_
      refine V_aload_n d_Se_leastFarFromFound_17 rfl ?_
      refine V_gf g_Se_leastFarFromFound_18 c_Se rfl ?_
      refine V_iconst (v := 1) d_Se_leastFarFromFound_21 (by decide) ?_
      refine V_isub d_Se_leastFarFromFound_22 ?_
      rw [nIm1 (by omega)]
      refine V_icmp_ge (tgt := 70) d_Se_leastFarFromFound_23 (by decide) (fun _ => ?_) (fun c9 => absurd ((nI_le (by omega) (by omega) : nI (w - 1) ≤ nI x)) c9)
      exact V_keep [0, 1, 2] kk
    | succ n ih =>
      intro x t hx e kk
      have hlt : y * w + x < w * ht := by
        have h1 : (y + 1) * w ≤ ht * w := Nat.mul_le_mul_right _ (by omega)
        have h2 : (y + 1) * w = y * w + w := by rw [Nat.add_mul, Nat.one_mul]
        have h3 : ht * w = w * ht := Nat.mul_comm _ _
        omega
      refine V_iload_n d_Se_leastFarFromFound_16 rfl ?_
      refine V_aload_n d_Se_leastFarFromFound_17 rfl ?_
      refine V_gf g_Se_leastFarFromFound_18 c_Se rfl ?_
      refine V_iconst (v := 1) d_Se_leastFarFromFound_21 (by decide) ?_
      refine V_isub d_Se_leastFarFromFound_22 ?_
      rw [nIm1 (by omega)]
      refine V_icmp_ge (tgt := 70) d_Se_leastFarFromFound_23 (by decide) (fun c9 => absurd c9 ((nI_ge (by omega) (by omega) : ¬ nI (w - 1) ≤ nI x))) (fun _ => ?_)
      refine V_aload_n d_Se_leastFarFromFound_26 rfl ?_
      refine V_gf g_Se_leastFarFromFound_27 c_Se rfl ?_
      refine V_iload_n d_Se_leastFarFromFound_30 rfl ?_
      refine V_aload_n d_Se_leastFarFromFound_31 rfl ?_
      refine V_gf g_Se_leastFarFromFound_32 c_Se rfl ?_
      refine V_imul d_Se_leastFarFromFound_35 ?_
      refine V_iload_n d_Se_leastFarFromFound_36 rfl ?_
      refine V_iadd d_Se_leastFarFromFound_37 ?_
      refine V_ialdN d_Se_leastFarFromFound_38 a_Se_misses (⟨by rw [pk_mul, nI_add], hlt, hN⟩) ?_
      refine V_istore d_Se_leastFarFromFound_39 (by decide) rfl ?_
      refine V_aload_n d_Se_leastFarFromFound_41 rfl ?_
      refine V_iload_n d_Se_leastFarFromFound_42 rfl ?_
      refine V_iload_n d_Se_leastFarFromFound_43 rfl ?_
      refine V_cV s_Se_leastFarFromFound_44 (do_Se_far c_Se (nI x) (nI y)) c_Se rfl rfl (Nat.le_of_ble_eq_true rfl) ?_
      have step : ∀ t' : Int32, t' = lfS ms w fx fy y x t → V l G k_Se_leastFarFromFound h 64 [(0, .ref 4), (1, .int t'), (2, .int (nI y)), (3, .int (nI x)), (4, .int (ms (y * w + x)))] [] h (ri (lfR ms w ht fx fy)) h := by
        intro t' ht'
        refine V_iinc1 d_Se_leastFarFromFound_64 rfl (by decide) rfl ?_
        refine V_goto (tgt := 16) d_Se_leastFarFromFound_67 (by decide) ?_
        rw [nI_1]
        refine V_keep [0, 1, 2, 3] ?_
        exact ih (x + 1) t' (by omega) (by omega) (by rw [ht']; exact kk)
      refine V_if_eq (tgt := 64) d_Se_leastFarFromFound_47 (by decide) (fun c1 => ?_) (fun c1 => ?_)
      · exact step t (by simp [lfS, (bI_0 _).mp c1])
      · have c1' : farB (nI x) (nI y) fx fy = true := by simpa [bI_0] using c1
        refine V_iload_n d_Se_leastFarFromFound_50 rfl ?_
        refine V_iconst (v := (-1)) d_Se_leastFarFromFound_51 (by decide) ?_
        refine V_icmp_eq (tgt := 61) d_Se_leastFarFromFound_52 (by decide) (fun c2 => ?_) (fun c2 => ?_)
        · refine V_iload d_Se_leastFarFromFound_61 rfl ?_
          refine V_istore_n d_Se_leastFarFromFound_63 (by decide) rfl ?_
          exact step _ (by simp [lfS, c1', c2])
        · refine V_iload d_Se_leastFarFromFound_55 rfl ?_
          refine V_iload_n d_Se_leastFarFromFound_57 rfl ?_
          refine V_icmp_ge (tgt := 64) d_Se_leastFarFromFound_58 (by decide) (fun c3 => ?_) (fun c3 => ?_)
          · exact step t (by simp [lfS, c1', c2, nlt_iff.mpr c3])
          · refine V_iload d_Se_leastFarFromFound_61 rfl ?_
            refine V_istore_n d_Se_leastFarFromFound_63 (by decide) rfl ?_
            exact step _ (by simp [lfS, c1', nle_iff.mp c3])
  have outer : ∀ (n y : Nat) (t : Int32), 1 ≤ y → y + n = ht - 1 → lfR ms w ht fx fy = fori (fun y t => fori (fun x t => lfS ms w fx fy y x t) (w - 2) 1 t) n y t → V l G k_Se_leastFarFromFound h 4 [(0, .ref 4), (1, .int t), (2, .int (nI y))] [] h (ri (lfR ms w ht fx fy)) h := by
    intro n
    induction n with
    | zero =>
      intro y t hy e e2
      rw [e2]
      refine V_iload_n d_Se_leastFarFromFound_4 rfl ?_
      refine V_aload_n d_Se_leastFarFromFound_5 rfl ?_
      refine V_gf g_Se_leastFarFromFound_6 c_Se rfl ?_
      refine V_iconst (v := 1) d_Se_leastFarFromFound_9 (by decide) ?_
      refine V_isub d_Se_leastFarFromFound_10 ?_
      rw [nIm1 (by omega)]
      refine V_icmp_ge (tgt := 76) d_Se_leastFarFromFound_11 (by decide) (fun _ => ?_) (fun c9 => absurd ((nI_le (by omega) (by omega) : nI (ht - 1) ≤ nI y)) c9)
      refine V_iload_n d_Se_leastFarFromFound_76 rfl ?_
      exact V_iret d_Se_leastFarFromFound_77 rfl rfl
    | succ n ih =>
      intro y t hy e e2
      refine V_iload_n d_Se_leastFarFromFound_4 rfl ?_
      refine V_aload_n d_Se_leastFarFromFound_5 rfl ?_
      refine V_gf g_Se_leastFarFromFound_6 c_Se rfl ?_
      refine V_iconst (v := 1) d_Se_leastFarFromFound_9 (by decide) ?_
      refine V_isub d_Se_leastFarFromFound_10 ?_
      rw [nIm1 (by omega)]
      refine V_icmp_ge (tgt := 76) d_Se_leastFarFromFound_11 (by decide) (fun c9 => absurd c9 ((nI_ge (by omega) (by omega) : ¬ nI (ht - 1) ≤ nI y))) (fun _ => ?_)
      refine V_iconst (v := 1) d_Se_leastFarFromFound_14 (by decide) ?_
      refine V_istore_n d_Se_leastFarFromFound_15 (by decide) rfl ?_
      refine inner y hy (by omega) (w - 2) 1 t (by omega) (by omega) ?_
      refine V_iinc1 d_Se_leastFarFromFound_70 rfl (by decide) rfl ?_
      refine V_goto (tgt := 4) d_Se_leastFarFromFound_73 (by decide) ?_
      rw [nI_1]
      exact ih (y + 1) _ (by omega) (by omega) e2
  refine V_iconst (v := (-1)) d_Se_leastFarFromFound_0 (by decide) ?_
  refine V_istore_n d_Se_leastFarFromFound_1 (by decide) rfl ?_
  refine V_iconst (v := 1) d_Se_leastFarFromFound_2 (by decide) ?_
  refine V_istore_n d_Se_leastFarFromFound_3 (by decide) rfl ?_
  exact outer (ht - 2) 1 (-1) (by omega) (by omega) rfl
end P13
end
section
section P14
variable {l : Launch} {G : Gb} {h : List Ce} {w ht : Nat} {dn : Bool} {le : Int32} {f : Nat → Int32}
abbrev Lk : Type := Int32 × Int32 × Int32 × (Nat → Int32)
/-- one cell of the first search: least, its x and y, all misses -/
def lookS (M : Nat → Nat → Int32) (w y x : Nat) (s : Lk) : Lk := if M x y < s.1 then (M x y, nI x, nI y, upd s.2.2.2 (y * w + x) (M x y)) else (s.1, s.2.1, s.2.2.1, upd s.2.2.2 (y * w + x) (M x y))
def lookR (M : Nat → Nat → Int32) (w ht : Nat) (s : Lk) : Lk := fori (fun y s => fori (fun x s => lookS M w y x s) (w - 2) 1 s) (ht - 2) 1 s
abbrev lkH (h : List Ce) (w ht : Nat) (f : Nat → Int32) (dn : Bool) (le : Int32) (s : Lk) : List Ce := hS h [(1, PhO w ht), (2, IA (4 * ht * w) f), (3, SeO w ht dn s.2.1 s.2.2.1 le), (4, IA (w * ht) s.2.2.2)]
theorem do_Se_look (hL : 27 ≤ h.length) (hw : 6 ≤ w ∧ w ≤ 20) (hht : 6 ≤ ht ∧ ht ≤ 20) (a b x y : Nat) (ha : a < 4) (hb : b < 4) (hx : 1 ≤ x ∧ x + 1 < w) (hy : 1 ≤ y ∧ y + 1 < ht) (fx fy : Int32) (ms : Nat → Int32) (S : Lk) (hS9 : S = lookR (fun u v => wmiss f w ht a x y b u v) w ht (2147483647, fx, fy, ms)) : Do l G k_Se_look [.ref 4, .ref 2, .int (nI a), .int (nI b), .int (nI x), .int (nI y)] (lkH h w ht f dn le (0, fx, fy, ms)) (ri S.1) (lkH h w ht f true (lfR S.2.2.2 w ht S.2.1 S.2.2.1) S) := by
  refine Do.of (by decide) (Nat.le_of_ble_eq_true rfl) kw_Se_look ?_
  have hN : w * ht < 2 ^ 31 := by
    have : w * ht ≤ 20 * 20 := Nat.mul_le_mul hw.2 hht.2
    omega
  generalize hH0 : lkH h w ht f dn le (0, fx, fy, ms) = H0
  have inner : ∀ (v : Nat), 1 ≤ v → v + 1 < ht → ∀ (n u : Nat) (s : Lk), 1 ≤ u → u + n = w - 1 → V l G k_Se_look H0 94 [(0, .ref 4), (1, .ref 2), (2, .int (nI a)), (3, .int (nI b)), (4, .int (nI x)), (5, .int (nI y)), (6, .int (fori (fun u s => lookS (fun u v => wmiss f w ht a x y b u v) w v u s) n u s).1), (7, .int (nI v))] [] (lkH h w ht f dn le (fori (fun u s => lookS (fun u v => wmiss f w ht a x y b u v) w v u s) n u s)) (ri S.1) (lkH h w ht f true (lfR S.2.2.2 w ht S.2.1 S.2.2.1) S) → V l G k_Se_look H0 21 [(0, .ref 4), (1, .ref 2), (2, .int (nI a)), (3, .int (nI b)), (4, .int (nI x)), (5, .int (nI y)), (6, .int s.1), (7, .int (nI v)), (8, .int (nI u))] [] (lkH h w ht f dn le s) (ri S.1) (lkH h w ht f true (lfR S.2.2.2 w ht S.2.1 S.2.2.1) S) := by
    intro v hv1 hv2 n
    induction n with
    | zero =>
      intro u s hu e kk
      refine V_iload d_Se_look_21 rfl ?_
      refine V_aload_n d_Se_look_23 rfl ?_
      refine V_gf g_Se_look_24 (rd hL rfl rfl) rfl ?_
      refine V_iconst (v := 1) d_Se_look_27 (by decide) ?_
      refine V_isub d_Se_look_28 ?_
      rw [nIm1 (by omega)]
      refine V_icmp_ge (tgt := 94) d_Se_look_29 (by decide) (fun _ => ?_) (fun c9 => absurd ((nI_le (by omega) (by omega) : nI (w - 1) ≤ nI u)) c9)
      exact V_keep [0, 1, 2, 3, 4, 5, 6, 7] kk
    | succ n ih =>
      intro u s hu e kk
      have hlt : v * w + u < w * ht := by
        have h1 : (v + 1) * w ≤ ht * w := Nat.mul_le_mul_right _ (by omega)
        have h2 : (v + 1) * w = v * w + w := by rw [Nat.add_mul, Nat.one_mul]
        have h3 : ht * w = w * ht := Nat.mul_comm _ _
        omega
      refine V_iload d_Se_look_21 rfl ?_
      refine V_aload_n d_Se_look_23 rfl ?_
      refine V_gf g_Se_look_24 (rd hL rfl rfl) rfl ?_
      refine V_iconst (v := 1) d_Se_look_27 (by decide) ?_
      refine V_isub d_Se_look_28 ?_
      rw [nIm1 (by omega)]
      refine V_icmp_ge (tgt := 94) d_Se_look_29 (by decide) (fun c9 => absurd c9 ((nI_ge (by omega) (by omega) : ¬ nI (w - 1) ≤ nI u))) (fun _ => ?_)
      refine V_aload_n d_Se_look_32 rfl ?_
      refine V_iload_n d_Se_look_33 rfl ?_
      refine V_iload d_Se_look_34 rfl ?_
      refine V_iload d_Se_look_36 rfl ?_
      refine V_iload_n d_Se_look_38 rfl ?_
      refine V_iload d_Se_look_39 rfl ?_
      refine V_iload d_Se_look_41 rfl ?_
      refine V_cV s_Se_look_43 (do_Ph_windowMiss (rd hL rfl rfl) (rd hL rfl rfl) hw.2 hht.2 a x y b u v ha hb hx hy ⟨hu, by omega⟩ ⟨hv1, by omega⟩) (rd hL rfl rfl) rfl rfl (Nat.le_of_ble_eq_true rfl) ?_
      refine V_istore d_Se_look_46 (by decide) rfl ?_
      refine V_aload_n d_Se_look_48 rfl ?_
      refine V_gf g_Se_look_49 (rd hL rfl rfl) rfl ?_
      refine V_iload d_Se_look_52 rfl ?_
      refine V_aload_n d_Se_look_54 rfl ?_
      refine V_gf g_Se_look_55 (rd hL rfl rfl) rfl ?_
      refine V_imul d_Se_look_58 ?_
      refine V_iload d_Se_look_59 rfl ?_
      refine V_iadd d_Se_look_61 ?_
      refine V_iload d_Se_look_62 rfl ?_
      refine V_iastN d_Se_look_64 (rd hL rfl rfl) (⟨by rw [pk_mul, nI_add], hlt, hN⟩) ?_
      refine V_hS rfl ?_
      refine V_iload d_Se_look_65 rfl ?_
      refine V_iload d_Se_look_67 rfl ?_
      refine V_icmp_ge (tgt := 88) d_Se_look_69 (by decide) (fun c1 => ?_) (fun c1 => ?_)
      · have es : lookS (fun u v => wmiss f w ht a x y b u v) w v u s = (s.1, s.2.1, s.2.2.1, upd s.2.2.2 (v * w + u) (wmiss f w ht a x y b u v)) := by
          unfold lookS
          rw [if_neg (nlt_iff.mpr c1)]
        refine V_iinc1 d_Se_look_88 rfl (by decide) rfl ?_
        refine V_goto (tgt := 21) d_Se_look_91 (by decide) ?_
        rw [nI_1]
        refine V_keep [0, 1, 2, 3, 4, 5, 6, 7, 8] ?_
        refine ih (u + 1) (s.1, s.2.1, s.2.2.1, upd s.2.2.2 (v * w + u) (wmiss f w ht a x y b u v)) (by omega) (by omega) ?_
        rw [← es]
        exact kk
      · have es : lookS (fun u v => wmiss f w ht a x y b u v) w v u s = (wmiss f w ht a x y b u v, nI u, nI v, upd s.2.2.2 (v * w + u) (wmiss f w ht a x y b u v)) := by
          unfold lookS
          rw [if_pos (nle_iff.mp c1)]
        refine V_iload d_Se_look_72 rfl ?_
        refine V_istore d_Se_look_74 (by decide) rfl ?_
        refine V_aload_n d_Se_look_76 rfl ?_
        refine V_iload d_Se_look_77 rfl ?_
        refine V_pf p_Se_look_79 (rd hL rfl rfl) (Nat.le_of_ble_eq_true rfl) rfl rfl ?_
        refine V_hS rfl ?_
        refine V_aload_n d_Se_look_82 rfl ?_
        refine V_iload d_Se_look_83 rfl ?_
        refine V_pf p_Se_look_85 (rd hL rfl rfl) (Nat.le_of_ble_eq_true rfl) rfl rfl ?_
        refine V_hS rfl ?_
        refine V_iinc1 d_Se_look_88 rfl (by decide) rfl ?_
        refine V_goto (tgt := 21) d_Se_look_91 (by decide) ?_
        rw [nI_1]
        refine V_keep [0, 1, 2, 3, 4, 5, 6, 7, 8] ?_
        refine ih (u + 1) (wmiss f w ht a x y b u v, nI u, nI v, upd s.2.2.2 (v * w + u) (wmiss f w ht a x y b u v)) (by omega) (by omega) ?_
        rw [← es]
        exact kk
  have outer : ∀ (n v : Nat) (s : Lk), 1 ≤ v → v + n = ht - 1 → S = fori (fun y9 s => fori (fun x9 s => lookS (fun u v => wmiss f w ht a x y b u v) w y9 x9 s) (w - 2) 1 s) n v s → V l G k_Se_look H0 7 [(0, .ref 4), (1, .ref 2), (2, .int (nI a)), (3, .int (nI b)), (4, .int (nI x)), (5, .int (nI y)), (6, .int s.1), (7, .int (nI v))] [] (lkH h w ht f dn le s) (ri S.1) (lkH h w ht f true (lfR S.2.2.2 w ht S.2.1 S.2.2.1) S) := by
    intro n
    induction n with
    | zero =>
      intro v s hv e e2
      rw [show S = s from e2]
      refine V_iload d_Se_look_7 rfl ?_
      refine V_aload_n d_Se_look_9 rfl ?_
      refine V_gf g_Se_look_10 (rd hL rfl rfl) rfl ?_
      refine V_iconst (v := 1) d_Se_look_13 (by decide) ?_
      refine V_isub d_Se_look_14 ?_
      rw [nIm1 (by omega)]
      refine V_icmp_ge (tgt := 100) d_Se_look_15 (by decide) (fun _ => ?_) (fun c9 => absurd ((nI_le (by omega) (by omega) : nI (ht - 1) ≤ nI v)) c9)
      refine V_aload_n d_Se_look_100 rfl ?_
      refine V_aload_n d_Se_look_101 rfl ?_
      refine V_cV s_Se_look_102 (do_Se_lf (rd hL rfl rfl) (rd hL rfl rfl) hw hht) (rd hL rfl rfl) rfl rfl (Nat.le_of_ble_eq_true rfl) ?_
      refine V_pf p_Se_look_105 (rd hL rfl rfl) (Nat.le_of_ble_eq_true rfl) rfl rfl ?_
      refine V_hS rfl ?_
      refine V_aload_n d_Se_look_108 rfl ?_
      refine V_iconst (v := 1) d_Se_look_109 (by decide) ?_
      refine V_pf p_Se_look_110 (rd hL rfl rfl) (Nat.le_of_ble_eq_true rfl) rfl rfl ?_
      refine V_hS rfl ?_
      refine V_iload d_Se_look_113 rfl ?_
      exact V_iret d_Se_look_115 rfl rfl
    | succ n ih =>
      intro v s hv e e2
      refine V_iload d_Se_look_7 rfl ?_
      refine V_aload_n d_Se_look_9 rfl ?_
      refine V_gf g_Se_look_10 (rd hL rfl rfl) rfl ?_
      refine V_iconst (v := 1) d_Se_look_13 (by decide) ?_
      refine V_isub d_Se_look_14 ?_
      rw [nIm1 (by omega)]
      refine V_icmp_ge (tgt := 100) d_Se_look_15 (by decide) (fun c9 => absurd c9 ((nI_ge (by omega) (by omega) : ¬ nI (ht - 1) ≤ nI v))) (fun _ => ?_)
      refine V_iconst (v := 1) d_Se_look_18 (by decide) ?_
      refine V_istore d_Se_look_19 (by decide) rfl ?_
      refine inner v hv (by omega) (w - 2) 1 s (by omega) (by omega) ?_
      refine V_iinc1 d_Se_look_94 rfl (by decide) rfl ?_
      refine V_goto (tgt := 7) d_Se_look_97 (by decide) ?_
      rw [nI_1]
      exact ih (v + 1) _ (by omega) (by omega) e2
  refine V_ldc d_Se_look_0 c_Se_look_0 ?_
  refine V_istore d_Se_look_2 (by decide) rfl ?_
  refine V_iconst (v := 1) d_Se_look_4 (by decide) ?_
  refine V_istore d_Se_look_5 (by decide) rfl ?_
  rw [← hH0]
  rw [← hH0] at outer
  exact outer (ht - 2) 1 (2147483647, fx, fy, ms) (by omega) (by omega) hS9
end P14
end
section
section P15
theorem bI_f (b : Bool) : fits .boolean (.int (bI b)) = true := by cases b <;> decide
variable {l : Launch} {G : Gb} {h : List Ce} {sd nm : Nat} {rc : Bool} {bx y9 : Int32} {sx sy : Nat → Int32}
abbrev AgO (sd nm : Nat) (rc : Bool) (bx y9 : Int32) : Ce := .inr (1, [.int (nI sd), .ref 11, .ref 12, .int (nI nm), .int (bI rc), .int bx, .int y9])
theorem do_Ag_isReached (c_Ag : h[9]? = some (AgO sd nm rc bx y9)) : Do l G k_Ag_isReached [.ref 10] h (rz rc) h := by
  refine Do.of (by decide) (Nat.le_of_ble_eq_true rfl) kw_Ag_isReached ?_
  refine V_aload_n d_Ag_isReached_0 rfl ?_
  refine V_gf g_Ag_isReached_1 c_Ag rfl ?_
  exact V_iret d_Ag_isReached_4 rfl (by first | rfl | exact bI_n _)
theorem do_Ag_along (c_Ag : h[9]? = some (AgO sd nm rc bx y9)) (x : Int32) : Do l G k_Ag_along [.ref 10, .int x] h (ri (if x = 0 then bx else y9)) h := by
  refine Do.of (by decide) (Nat.le_of_ble_eq_true rfl) kw_Ag_along ?_
  refine V_iload_n d_Ag_along_0 rfl ?_
  refine V_if_ne (tgt := 11) d_Ag_along_1 (by decide) (fun c2 => ?_) (fun c2 => ?_)
  · rw [if_neg c2]
    refine V_aload_n d_Ag_along_11 rfl ?_
    refine V_gf g_Ag_along_12 c_Ag rfl ?_
    exact V_iret d_Ag_along_15 rfl rfl
  · rw [if_pos c2]
    refine V_aload_n d_Ag_along_4 rfl ?_
    refine V_gf g_Ag_along_5 c_Ag rfl ?_
    refine V_goto (tgt := 15) d_Ag_along_8 (by decide) ?_
    exact V_iret d_Ag_along_15 rfl rfl
/-- the drawn number t -/
def dzN (s t : Nat) : Nat := fori (fun _ z => (75 * z + 74) % 65537) 3 0 ((s + 101 * t) % 65537)
theorem do_Ag_drawnNumber (c_Ag : h[9]? = some (AgO sd nm rc bx y9)) (hs : sd ≤ 65536) (t : Nat) (ht : t ≤ 20) : Do l G k_Ag_drawnNumber [.ref 10, .int (nI t)] h (ri (nI (dzN sd t))) h := by
  refine Do.of (by decide) (Nat.le_of_ble_eq_true rfl) kw_Ag_drawnNumber ?_
  have loop : ∀ (n i z : Nat), i + n = 3 → z < 65537 → dzN sd t = fori (fun _ z => (75 * z + 74) % 65537) n i z → V l G k_Ag_drawnNumber h 15 [(0, .ref 10), (1, .int (nI t)), (2, .int (nI z)), (3, .int (nI i))] [] h (ri (nI (dzN sd t))) h := by
    intro n
    induction n with
    | zero =>
      intro i z hi hz e
      obtain rfl : i = 3 := by omega
      rw [e]
      refine V_iload_n d_Ag_drawnNumber_15 rfl ?_
      refine V_iconst (v := 3) d_Ag_drawnNumber_16 (by decide) ?_
      refine V_icmp_ge (tgt := 37) d_Ag_drawnNumber_17 (by decide) (fun _ => ?_) (fun c9 => absurd ((by decide : (3 : Int32) ≤ nI 3)) c9)
      refine V_iload_n d_Ag_drawnNumber_37 rfl ?_
      exact V_iret d_Ag_drawnNumber_38 rfl rfl
    | succ n ih =>
      intro i z hi hz e
      refine V_iload_n d_Ag_drawnNumber_15 rfl ?_
      refine V_iconst (v := 3) d_Ag_drawnNumber_16 (by decide) ?_
      refine V_icmp_ge (tgt := 37) d_Ag_drawnNumber_17 (by decide) (fun c9 => absurd c9 ((nI_ge (b := 3) (by omega) (by decide) : ¬ (3 : Int32) ≤ nI i))) (fun _ => ?_)
      refine V_bipush (v := 75) d_Ag_drawnNumber_20 (by decide) ?_
      refine V_iload_n d_Ag_drawnNumber_22 rfl ?_
      refine V_imul d_Ag_drawnNumber_23 ?_
      refine V_bipush (v := 74) d_Ag_drawnNumber_24 (by decide) ?_
      refine V_iadd d_Ag_drawnNumber_26 ?_
      refine V_ldc d_Ag_drawnNumber_27 c_Ag_drawnNumber_27 ?_
      refine V_irem d_Ag_drawnNumber_29 (by decide) ?_
      have e1 : (75 * nI z + 74) - (75 * nI z + 74) / 65537 * 65537 = nI ((75 * z + 74) % 65537) := by
        rw [show (75 : Int32) = nI 75 from rfl, show (74 : Int32) = nI 74 from rfl, show (65537 : Int32) = nI 65537 from rfl, pk_mul, nI_add]
        exact pk_rem (by omega) (by decide) (by decide)
      rw [e1]
      refine V_istore_n d_Ag_drawnNumber_30 (by decide) rfl ?_
      refine V_iinc1 d_Ag_drawnNumber_31 rfl (by decide) rfl ?_
      refine V_goto (tgt := 15) d_Ag_drawnNumber_34 (by decide) ?_
      rw [nI_1]
      exact ih (i + 1) _ (by omega) (Nat.mod_lt _ (by decide)) e
  refine V_aload_n d_Ag_drawnNumber_0 rfl ?_
  refine V_gf g_Ag_drawnNumber_1 c_Ag rfl ?_
  refine V_bipush (v := 101) d_Ag_drawnNumber_4 (by decide) ?_
  refine V_iload_n d_Ag_drawnNumber_6 rfl ?_
  refine V_imul d_Ag_drawnNumber_7 ?_
  refine V_iadd d_Ag_drawnNumber_8 ?_
  refine V_ldc d_Ag_drawnNumber_9 c_Ag_drawnNumber_9 ?_
  refine V_irem d_Ag_drawnNumber_11 (by decide) ?_
  have e1 : (nI sd + 101 * nI t) - (nI sd + 101 * nI t) / 65537 * 65537 = nI ((sd + 101 * t) % 65537) := by
    rw [show (101 : Int32) = nI 101 from rfl, show (65537 : Int32) = nI 65537 from rfl, pk_mul, nI_add]
    exact pk_rem (by omega) (by decide) (by decide)
  rw [e1]
  refine V_istore_n d_Ag_drawnNumber_12 (by decide) rfl ?_
  refine V_iconst (v := 0) d_Ag_drawnNumber_13 (by decide) ?_
  refine V_istore_n d_Ag_drawnNumber_14 (by decide) rfl ?_
  exact loop 3 0 _ (by omega) (Nat.mod_lt _ (by decide)) rfl
/-- how many of the nm shifts agree with the one at d -/
def agC (sx sy : Nat → Int32) (nm d : Nat) (tol : Int32) : Nat := fori (fun i c => if decide (ab (sx i - sx d) ≤ tol) && decide (ab (sy i - sy d) ≤ tol) then c + 1 else c) nm 0 0
theorem do_Ag_agreeingWith (c_Ag : h[9]? = some (AgO sd nm rc bx y9)) (a_Ag_shiftX : h[10]? = some (IA 12 sx)) (a_Ag_shiftY : h[11]? = some (IA 12 sy)) (hn : nm ≤ 12) (d : Nat) (hd : d < 12) (tol : Int32) : Do l G k_Ag_agreeingWith [.ref 10, .int (nI d), .int tol] h (ri (nI (agC sx sy nm d tol))) h := by
  refine Do.of (by decide) (Nat.le_of_ble_eq_true rfl) kw_Ag_agreeingWith ?_
  have loop : ∀ (n i c : Nat), i + n = nm → agC sx sy nm d tol = fori (fun i c => if decide (ab (sx i - sx d) ≤ tol) && decide (ab (sy i - sy d) ≤ tol) then c + 1 else c) n i c → V l G k_Ag_agreeingWith h 5 [(0, .ref 10), (1, .int (nI d)), (2, .int tol), (3, .int (nI c)), (4, .int (nI i))] [] h (ri (nI (agC sx sy nm d tol))) h := by
    intro n
    induction n with
    | zero =>
      intro i c hi e
      obtain rfl : i = nm := by omega
      rw [e]
      refine V_iload d_Ag_agreeingWith_5 rfl ?_
      refine V_aload_n d_Ag_agreeingWith_7 rfl ?_
      refine V_gf g_Ag_agreeingWith_8 c_Ag rfl ?_
      refine V_icmp_ge (tgt := 65) d_Ag_agreeingWith_11 (by decide) (fun _ => ?_) (fun c9 => absurd ((nI_le (Nat.le_refl _) (by omega))) c9)
      refine V_iload_n d_Ag_agreeingWith_65 rfl ?_
      exact V_iret d_Ag_agreeingWith_66 rfl rfl
    | succ n ih =>
      intro i c hi e
      refine V_iload d_Ag_agreeingWith_5 rfl ?_
      refine V_aload_n d_Ag_agreeingWith_7 rfl ?_
      refine V_gf g_Ag_agreeingWith_8 c_Ag rfl ?_
      refine V_icmp_ge (tgt := 65) d_Ag_agreeingWith_11 (by decide) (fun c9 => absurd c9 ((nI_ge (by omega) (by omega) : ¬ nI nm ≤ nI i))) (fun _ => ?_)
      have skip : ∀ c' : Nat, c' = (if decide (ab (sx i - sx d) ≤ tol) && decide (ab (sy i - sy d) ≤ tol) then c + 1 else c) → V l G k_Ag_agreeingWith h 59 [(0, .ref 10), (1, .int (nI d)), (2, .int tol), (3, .int (nI c')), (4, .int (nI i))] [] h (ri (nI (agC sx sy nm d tol))) h := by
        intro c' hc'
        refine V_iinc1 d_Ag_agreeingWith_59 rfl (by decide) rfl ?_
        refine V_goto (tgt := 5) d_Ag_agreeingWith_62 (by decide) ?_
        rw [nI_1]
        exact ih (i + 1) c' (by omega) (by rw [hc']; exact e)
      refine V_aload_n d_Ag_agreeingWith_14 rfl ?_
      refine V_gf g_Ag_agreeingWith_15 c_Ag rfl ?_
      refine V_iload d_Ag_agreeingWith_18 rfl ?_
      refine V_ialdN d_Ag_agreeingWith_20 a_Ag_shiftX (Ix.of (by omega) (by decide)) ?_
      refine V_aload_n d_Ag_agreeingWith_21 rfl ?_
      refine V_gf g_Ag_agreeingWith_22 c_Ag rfl ?_
      refine V_iload_n d_Ag_agreeingWith_25 rfl ?_
      refine V_ialdN d_Ag_agreeingWith_26 a_Ag_shiftX (Ix.of hd (by decide)) ?_
      refine V_isub d_Ag_agreeingWith_27 ?_
      refine V_abs s_Ag_agreeingWith_28 (Nat.le_of_ble_eq_true rfl) ?_
      refine V_iload_n d_Ag_agreeingWith_31 rfl ?_
      rw [show (if 0 ≤ sx i - sx d then sx i - sx d else 0 - (sx i - sx d)) = ab (sx i - sx d) from rfl]
      refine V_icmp_gt (tgt := 59) d_Ag_agreeingWith_32 (by decide) (fun c1 => ?_) (fun c1 => ?_)
      · exact skip c (by simp [nle_iff.mpr c1])
      · refine V_aload_n d_Ag_agreeingWith_35 rfl ?_
        refine V_gf g_Ag_agreeingWith_36 c_Ag rfl ?_
        refine V_iload d_Ag_agreeingWith_39 rfl ?_
        refine V_ialdN d_Ag_agreeingWith_41 a_Ag_shiftY (Ix.of (by omega) (by decide)) ?_
        refine V_aload_n d_Ag_agreeingWith_42 rfl ?_
        refine V_gf g_Ag_agreeingWith_43 c_Ag rfl ?_
        refine V_iload_n d_Ag_agreeingWith_46 rfl ?_
        refine V_ialdN d_Ag_agreeingWith_47 a_Ag_shiftY (Ix.of hd (by decide)) ?_
        refine V_isub d_Ag_agreeingWith_48 ?_
        refine V_abs s_Ag_agreeingWith_49 (Nat.le_of_ble_eq_true rfl) ?_
        refine V_iload_n d_Ag_agreeingWith_52 rfl ?_
        rw [show (if 0 ≤ sy i - sy d then sy i - sy d else 0 - (sy i - sy d)) = ab (sy i - sy d) from rfl]
        refine V_icmp_gt (tgt := 59) d_Ag_agreeingWith_53 (by decide) (fun c2 => ?_) (fun c2 => ?_)
        · exact skip c (by simp [nle_iff.mpr c2])
        · refine V_iinc1 d_Ag_agreeingWith_56 rfl (by decide) rfl ?_
          rw [nI_1]
          exact skip (c + 1) (by simp [nlt_iff.mp c1, nlt_iff.mp c2])
  refine V_iconst (v := 0) d_Ag_agreeingWith_0 (by decide) ?_
  refine V_istore_n d_Ag_agreeingWith_1 (by decide) rfl ?_
  refine V_iconst (v := 0) d_Ag_agreeingWith_2 (by decide) ?_
  refine V_istore d_Ag_agreeingWith_3 (by decide) rfl ?_
  exact loop nm 0 0 (by omega) rfl
abbrev Gt : Type := Nat × (Nat → Int32) × (Nat → Int32)
/-- one place is gathered -/
def gtS (Bn : Nat → Bool) (wh : Nat → Int32) (a b p : Nat) (s : Gt) : Gt := if Bn (p * 4 + a) && Bn (p * 4 + b) then (s.1 + 1, upd s.2.1 s.1 (wh ((p * 4 + b) * 2 + 0) - wh ((p * 4 + a) * 2 + 0)), upd s.2.2 s.1 (wh ((p * 4 + b) * 2 + 1) - wh ((p * 4 + a) * 2 + 1))) else s
def gtR (Bn : Nat → Bool) (wh : Nat → Int32) (a b n : Nat) (sx sy : Nat → Int32) : Gt := fori (gtS Bn wh a b) n 0 (0, sx, sy)
abbrev plL (n : Nat) (sp : Int32) (As Bn : Nat → Bool) (wh : Nat → Int32) : List (Nat × Ce) := [(5, PlO n sp), (6, ZA 12 As), (7, ZA 48 Bn), (8, IA 96 wh)]
abbrev agH (h : List Ce) (n : Nat) (sp : Int32) (As Bn : Nat → Bool) (wh : Nat → Int32) (sd : Nat) (rc : Bool) (bx y9 : Int32) (s : Gt) : List Ce := hS h [(5, PlO n sp), (6, ZA 12 As), (7, ZA 48 Bn), (8, IA 96 wh), (9, AgO sd s.1 rc bx y9), (10, IA 12 s.2.1), (11, IA 12 s.2.2)]
theorem do_Ag_gather (hL : 27 ≤ h.length) {n : Nat} {sp : Int32} {As Bn : Nat → Bool} {wh : Nat → Int32} (hn : n ≤ 12) (a b : Nat) (ha : a < 4) (hb : b < 4) (k0 : Nat) : Do l G k_Ag_gatherShifts [.ref 10, .ref 6, .int (nI a), .int (nI b)] (agH h n sp As Bn wh sd rc bx y9 (k0, sx, sy)) rv (agH h n sp As Bn wh sd rc bx y9 (gtR Bn wh a b n sx sy)) := by
  refine Do.of (by decide) (Nat.le_of_ble_eq_true rfl) kw_Ag_gatherShifts ?_
  have loop : ∀ (H0 : List Ce) (m p : Nat) (s : Gt), p + m = n → s.1 ≤ p → gtR Bn wh a b n sx sy = fori (gtS Bn wh a b) m p s → V l G k_Ag_gatherShifts H0 8 [(0, .ref 10), (1, .ref 6), (2, .int (nI a)), (3, .int (nI b)), (4, .int (nI p))] [] (agH h n sp As Bn wh sd rc bx y9 s) rv (agH h n sp As Bn wh sd rc bx y9 (gtR Bn wh a b n sx sy)) := by
    intro H0 m
    induction m with
    | zero =>
      intro p s hp hs e
      obtain rfl : p = n := by omega
      rw [e]
      refine V_iload d_Ag_gatherShifts_8 rfl ?_
      refine V_aload_n d_Ag_gatherShifts_10 rfl ?_
      refine V_cV s_Ag_gatherShifts_11 (do_Pl_number (rd hL rfl rfl)) (rd hL rfl rfl) rfl rfl (Nat.le_of_ble_eq_true rfl) ?_
      refine V_icmp_ge (tgt := 105) d_Ag_gatherShifts_14 (by decide) (fun _ => ?_) (fun c9 => absurd ((nI_le (Nat.le_refl _) (by omega))) c9)
      exact V_vret d_Ag_gatherShifts_105 rfl
    | succ m ih =>
      intro p s hp hs e
      refine V_iload d_Ag_gatherShifts_8 rfl ?_
      refine V_aload_n d_Ag_gatherShifts_10 rfl ?_
      refine V_cV s_Ag_gatherShifts_11 (do_Pl_number (rd hL rfl rfl)) (rd hL rfl rfl) rfl rfl (Nat.le_of_ble_eq_true rfl) ?_
      refine V_icmp_ge (tgt := 105) d_Ag_gatherShifts_14 (by decide) (fun c9 => absurd c9 ((nI_ge (by omega) (by omega) : ¬ nI n ≤ nI p))) (fun _ => ?_)
      have skip : ∀ s' : Gt, s' = gtS Bn wh a b p s → s'.1 ≤ p + 1 → V l G k_Ag_gatherShifts H0 99 [(0, .ref 10), (1, .ref 6), (2, .int (nI a)), (3, .int (nI b)), (4, .int (nI p))] [] (agH h n sp As Bn wh sd rc bx y9 s') rv (agH h n sp As Bn wh sd rc bx y9 (gtR Bn wh a b n sx sy)) := by
        intro s' hs' hb'
        refine V_iinc1 d_Ag_gatherShifts_99 rfl (by decide) rfl ?_
        refine V_goto (tgt := 8) d_Ag_gatherShifts_102 (by decide) ?_
        rw [nI_1]
        exact ih (p + 1) s' (by omega) hb' (by rw [hs']; exact e)
      refine V_aload_n d_Ag_gatherShifts_17 rfl ?_
      refine V_iload d_Ag_gatherShifts_18 rfl ?_
      refine V_iload_n d_Ag_gatherShifts_20 rfl ?_
      refine V_cV s_Ag_gatherShifts_21 (do_Pl_isNoted (rd hL rfl rfl) (rd hL rfl rfl) (p := p) (q := a) (by omega) ha) (rd hL rfl rfl) rfl rfl (Nat.le_of_ble_eq_true rfl) ?_
      refine V_if_eq (tgt := 99) d_Ag_gatherShifts_24 (by decide) (fun c1 => ?_) (fun c1 => ?_)
      · exact skip s (by simp [gtS, (bI_0 _).mp c1]) (by omega)
      · have c1' : Bn (p * 4 + a) = true := by simpa [bI_0] using c1
        refine V_aload_n d_Ag_gatherShifts_27 rfl ?_
        refine V_iload d_Ag_gatherShifts_28 rfl ?_
        refine V_iload_n d_Ag_gatherShifts_30 rfl ?_
        refine V_cV s_Ag_gatherShifts_31 (do_Pl_isNoted (rd hL rfl rfl) (rd hL rfl rfl) (p := p) (q := b) (by omega) hb) (rd hL rfl rfl) rfl rfl (Nat.le_of_ble_eq_true rfl) ?_
        refine V_if_eq (tgt := 99) d_Ag_gatherShifts_34 (by decide) (fun c2 => ?_) (fun c2 => ?_)
        · exact skip s (by simp [gtS, (bI_0 _).mp c2]) (by omega)
        · have c2' : Bn (p * 4 + b) = true := by simpa [bI_0] using c2
          refine V_aload_n d_Ag_gatherShifts_37 rfl ?_
          refine V_gf g_Ag_gatherShifts_38 (rd hL rfl rfl) rfl ?_
          refine V_aload_n d_Ag_gatherShifts_41 rfl ?_
          refine V_gf g_Ag_gatherShifts_42 (rd hL rfl rfl) rfl ?_
          refine V_aload_n d_Ag_gatherShifts_45 rfl ?_
          refine V_iload d_Ag_gatherShifts_46 rfl ?_
          refine V_iload_n d_Ag_gatherShifts_48 rfl ?_
          refine V_iconst (v := 0) d_Ag_gatherShifts_49 (by decide) ?_
          refine V_cV s_Ag_gatherShifts_50 (do_Pl_where (rd hL rfl rfl) (rd hL rfl rfl) (p := p) (q := b) (x := 0) (by omega) hb (by decide)) (rd hL rfl rfl) rfl rfl (Nat.le_of_ble_eq_true rfl) ?_
          refine V_aload_n d_Ag_gatherShifts_53 rfl ?_
          refine V_iload d_Ag_gatherShifts_54 rfl ?_
          refine V_iload_n d_Ag_gatherShifts_56 rfl ?_
          refine V_iconst (v := 0) d_Ag_gatherShifts_57 (by decide) ?_
          refine V_cV s_Ag_gatherShifts_58 (do_Pl_where (rd hL rfl rfl) (rd hL rfl rfl) (p := p) (q := a) (x := 0) (by omega) ha (by decide)) (rd hL rfl rfl) rfl rfl (Nat.le_of_ble_eq_true rfl) ?_
          refine V_isub d_Ag_gatherShifts_61 ?_
          refine V_iastN d_Ag_gatherShifts_62 (rd hL rfl rfl) (Ix.of (show s.1 < 12 by omega) (by decide)) ?_
          refine V_hS rfl ?_
          refine V_aload_n d_Ag_gatherShifts_63 rfl ?_
          refine V_gf g_Ag_gatherShifts_64 (rd hL rfl rfl) rfl ?_
          refine V_aload_n d_Ag_gatherShifts_67 rfl ?_
          refine V_gf g_Ag_gatherShifts_68 (rd hL rfl rfl) rfl ?_
          refine V_aload_n d_Ag_gatherShifts_71 rfl ?_
          refine V_iload d_Ag_gatherShifts_72 rfl ?_
          refine V_iload_n d_Ag_gatherShifts_74 rfl ?_
          refine V_iconst (v := 1) d_Ag_gatherShifts_75 (by decide) ?_
          refine V_cV s_Ag_gatherShifts_76 (do_Pl_where (rd hL rfl rfl) (rd hL rfl rfl) (p := p) (q := b) (x := 1) (by omega) hb (by decide)) (rd hL rfl rfl) rfl rfl (Nat.le_of_ble_eq_true rfl) ?_
          refine V_aload_n d_Ag_gatherShifts_79 rfl ?_
          refine V_iload d_Ag_gatherShifts_80 rfl ?_
          refine V_iload_n d_Ag_gatherShifts_82 rfl ?_
          refine V_iconst (v := 1) d_Ag_gatherShifts_83 (by decide) ?_
          refine V_cV s_Ag_gatherShifts_84 (do_Pl_where (rd hL rfl rfl) (rd hL rfl rfl) (p := p) (q := a) (x := 1) (by omega) ha (by decide)) (rd hL rfl rfl) rfl rfl (Nat.le_of_ble_eq_true rfl) ?_
          refine V_isub d_Ag_gatherShifts_87 ?_
          refine V_iastN d_Ag_gatherShifts_88 (rd hL rfl rfl) (Ix.of (show s.1 < 12 by omega) (by decide)) ?_
          refine V_hS rfl ?_
          refine V_aload_n d_Ag_gatherShifts_89 rfl ?_
          refine V_dup d_Ag_gatherShifts_90 rfl ?_
          refine V_gf g_Ag_gatherShifts_91 (rd hL rfl rfl) rfl ?_
          refine V_iconst (v := 1) d_Ag_gatherShifts_94 (by decide) ?_
          refine V_iadd d_Ag_gatherShifts_95 ?_
          rw [nI_1]
          refine V_pf p_Ag_gatherShifts_96 (rd hL rfl rfl) (Nat.le_of_ble_eq_true rfl) rfl rfl ?_
          refine V_hS rfl ?_
          exact skip (s.1 + 1, upd s.2.1 s.1 (wh ((p * 4 + b) * 2 + 0) - wh ((p * 4 + a) * 2 + 0)), upd s.2.2 s.1 (wh ((p * 4 + b) * 2 + 1) - wh ((p * 4 + a) * 2 + 1))) (by simp [gtS, c1', c2']) (by show s.1 + 1 ≤ p + 1; omega)
  refine V_aload_n d_Ag_gatherShifts_0 rfl ?_
  refine V_iconst (v := 0) d_Ag_gatherShifts_1 (by decide) ?_
  refine V_pf p_Ag_gatherShifts_2 (rd hL rfl rfl) (Nat.le_of_ble_eq_true rfl) rfl rfl ?_
  refine V_hS rfl ?_
  refine V_iconst (v := 0) d_Ag_gatherShifts_5 (by decide) ?_
  refine V_istore d_Ag_gatherShifts_6 (by decide) rfl ?_
  exact loop _ n 0 (0, sx, sy) (by omega) (Nat.le_refl _) rfl
theorem gtR_le (Bn : Nat → Bool) (wh : Nat → Int32) (a b : Nat) : ∀ (m p : Nat) (s : Gt), (fori (gtS Bn wh a b) m p s).1 ≤ s.1 + m
  | 0, _, _ => Nat.le_refl _
  | m + 1, p, s => by
    have h1 := gtR_le Bn wh a b m (p + 1) (gtS Bn wh a b p s)
    have h2 : (gtS Bn wh a b p s).1 ≤ s.1 + 1 := by
      unfold gtS
      by_cases q : (Bn (p * 4 + a) && Bn (p * 4 + b)) = true
      · rw [if_pos q]; exact Nat.le_refl _
      · rw [if_neg q]; omega
    show (fori (gtS Bn wh a b) m (p + 1) (gtS Bn wh a b p s)).1 ≤ s.1 + (m + 1)
    omega
abbrev Dr : Type := Nat × Int32 × Int32
/-- one drawn number -/
def drS (sx sy : Nat → Int32) (nm sd : Nat) (tol : Int32) (t : Nat) (s : Dr) : Dr := if s.1 < agC sx sy nm (dzN sd t % nm) tol then (agC sx sy nm (dzN sd t % nm) tol, sx (dzN sd t % nm), sy (dzN sd t % nm)) else s
def drR (g : Gt) (sd : Nat) (tol : Int32) (tries : Nat) (bx y9 : Int32) : Dr := if g.1 = 0 then (0, bx, y9) else fori (drS g.2.1 g.2.2 g.1 sd tol) tries 0 (0, bx, y9)
theorem agC_le (sx sy : Nat → Int32) (d : Nat) (tol : Int32) : ∀ (n i c : Nat), fori (fun i c => if decide (ab (sx i - sx d) ≤ tol) && decide (ab (sy i - sy d) ≤ tol) then c + 1 else c) n i c ≤ c + n
  | 0, _, _ => Nat.le_refl _
  | n + 1, i, c => by
    have h1 := agC_le sx sy d tol n (i + 1) (if decide (ab (sx i - sx d) ≤ tol) && decide (ab (sy i - sy d) ≤ tol) then c + 1 else c)
    have h2 : (if decide (ab (sx i - sx d) ≤ tol) && decide (ab (sy i - sy d) ≤ tol) then c + 1 else c) ≤ c + 1 := by split <;> omega
    show fori _ n (i + 1) (if decide (ab (sx i - sx d) ≤ tol) && decide (ab (sy i - sy d) ≤ tol) then c + 1 else c) ≤ c + (n + 1)
    omega
theorem do_Ag_draw (hL : 27 ≤ h.length) {n : Nat} {sp : Int32} {As Bn : Nat → Bool} {wh : Nat → Int32} (hn : n ≤ 12) (hs : sd ≤ 65536) (a b tries : Nat) (tol : Int32) (ha : a < 4) (hb : b < 4) (ht : tries ≤ 20) (k0 : Nat) (g : Gt) (hg : g = gtR Bn wh a b n sx sy) (d : Dr) (hd : d = drR g sd tol tries bx y9) : Do l G k_Ag_draw [.ref 10, .ref 6, .int (nI a), .int (nI b), .int (nI tries), .int tol] (agH h n sp As Bn wh sd rc bx y9 (k0, sx, sy)) (ri (nI d.1)) (agH h n sp As Bn wh sd (decide (0 < g.1)) d.2.1 d.2.2 g) := by
  refine Do.of (by decide) (Nat.le_of_ble_eq_true rfl) kw_Ag_draw ?_
  have hg12 : g.1 ≤ 12 := by
    have := gtR_le Bn wh a b n 0 (0, sx, sy)
    rw [hg]
    show (fori (gtS Bn wh a b) n 0 (0, sx, sy)).1 ≤ 12
    simp at this
    omega
  have loop : ∀ (H0 : List Ce) (m t : Nat) (s : Dr), 0 < g.1 → t + m = tries → s.1 ≤ 12 → d = fori (drS g.2.1 g.2.2 g.1 sd tol) m t s → V l G k_Ag_draw H0 29 [(0, .ref 10), (1, .ref 6), (2, .int (nI a)), (3, .int (nI b)), (4, .int (nI tries)), (5, .int tol), (6, .int (nI s.1)), (7, .int (nI t))] [] (agH h n sp As Bn wh sd (decide (0 < g.1)) s.2.1 s.2.2 g) (ri (nI d.1)) (agH h n sp As Bn wh sd (decide (0 < g.1)) d.2.1 d.2.2 g) := by
    intro H0 m
    induction m with
    | zero =>
      intro t s h1 h2 h3 e
      rw [show d = s from e]
      refine V_iload d_Ag_draw_29 rfl ?_
      refine V_iload d_Ag_draw_31 rfl ?_
      refine V_icmp_ge (tgt := 105) d_Ag_draw_33 (by decide) (fun _ => ?_) (fun c9 => absurd ((nI_le (by omega) (by omega) : nI tries ≤ nI t)) c9)
      refine V_iload d_Ag_draw_105 rfl ?_
      exact V_iret d_Ag_draw_107 rfl rfl
    | succ m ih =>
      intro t s h1 h2 h3 e
      refine V_iload d_Ag_draw_29 rfl ?_
      refine V_iload d_Ag_draw_31 rfl ?_
      refine V_icmp_ge (tgt := 105) d_Ag_draw_33 (by decide) (fun c9 => absurd c9 ((nI_ge (by omega) (by omega) : ¬ nI tries ≤ nI t))) (fun _ => ?_)
      refine V_aload_n d_Ag_draw_36 rfl ?_
      refine V_gf g_Ag_draw_37 (rd hL rfl rfl) rfl ?_
      refine V_if_le (tgt := 105) d_Ag_draw_40 (by decide) (fun c9 => absurd c9 ((nI_nle h1 (by omega) : ¬ nI g.1 ≤ 0))) (fun _ => ?_)
      refine V_aload_n d_Ag_draw_43 rfl ?_
      refine V_iload d_Ag_draw_44 rfl ?_
      refine V_cV s_Ag_draw_46 (do_Ag_drawnNumber (rd hL rfl rfl) hs t (by omega)) (rd hL rfl rfl) rfl rfl (Nat.le_of_ble_eq_true rfl) ?_
      refine V_aload_n d_Ag_draw_49 rfl ?_
      refine V_gf g_Ag_draw_50 (rd hL rfl rfl) rfl ?_
      refine V_irem d_Ag_draw_53 (nI_ne0 h1 (by omega)) ?_
      have hz : dzN sd t < 65537 := Nat.mod_lt _ (by decide)
      rw [pk_rem (by omega) h1 (by omega)]
      have hdl : dzN sd t % g.1 < g.1 := Nat.mod_lt _ h1
      refine V_istore d_Ag_draw_54 (by decide) rfl ?_
      refine V_aload_n d_Ag_draw_56 rfl ?_
      refine V_iload d_Ag_draw_57 rfl ?_
      refine V_iload d_Ag_draw_59 rfl ?_
      refine V_cV s_Ag_draw_61 (do_Ag_agreeingWith (rd hL rfl rfl) (rd hL rfl rfl) (rd hL rfl rfl) hg12 (dzN sd t % g.1) (by omega) tol) (rd hL rfl rfl) rfl rfl (Nat.le_of_ble_eq_true rfl) ?_
      refine V_istore d_Ag_draw_64 (by decide) rfl ?_
      refine V_iload d_Ag_draw_66 rfl ?_
      refine V_iload d_Ag_draw_68 rfl ?_
      have hac : agC g.2.1 g.2.2 g.1 (dzN sd t % g.1) tol ≤ 12 := by
        have := agC_le g.2.1 g.2.2 (dzN sd t % g.1) tol g.1 0 0
        unfold agC
        omega
      have skip : ∀ s' : Dr, s' = drS g.2.1 g.2.2 g.1 sd tol t s → s'.1 ≤ 12 → V l G k_Ag_draw H0 99 [(0, .ref 10), (1, .ref 6), (2, .int (nI a)), (3, .int (nI b)), (4, .int (nI tries)), (5, .int tol), (6, .int (nI s'.1)), (7, .int (nI t))] [] (agH h n sp As Bn wh sd (decide (0 < g.1)) s'.2.1 s'.2.2 g) (ri (nI d.1)) (agH h n sp As Bn wh sd (decide (0 < g.1)) d.2.1 d.2.2 g) := by
        intro s' e' h4
        refine V_iinc1 d_Ag_draw_99 rfl (by decide) rfl ?_
        refine V_goto (tgt := 29) d_Ag_draw_102 (by decide) ?_
        rw [nI_1]
        exact ih (t + 1) s' h1 (by omega) h4 (by rw [e']; exact e)
      refine V_icmp_le (tgt := 99) d_Ag_draw_70 (by decide) (fun c1 => ?_) (fun c1 => ?_)
      · refine V_keep [0, 1, 2, 3, 4, 5, 6, 7] ?_
        exact skip s (by unfold drS; rw [if_neg (by rw [nI_leI (by omega) (by omega)] at c1; omega)]) h3
      · refine V_iload d_Ag_draw_73 rfl ?_
        refine V_istore d_Ag_draw_75 (by decide) rfl ?_
        refine V_aload_n d_Ag_draw_77 rfl ?_
        refine V_aload_n d_Ag_draw_78 rfl ?_
        refine V_gf g_Ag_draw_79 (rd hL rfl rfl) rfl ?_
        refine V_iload d_Ag_draw_82 rfl ?_
        refine V_ialdN d_Ag_draw_84 (rd hL rfl rfl) (Ix.of (show dzN sd t % g.1 < 12 by omega) (by decide)) ?_
        refine V_pf p_Ag_draw_85 (rd hL rfl rfl) (Nat.le_of_ble_eq_true rfl) rfl rfl ?_
        refine V_hS rfl ?_
        refine V_aload_n d_Ag_draw_88 rfl ?_
        refine V_aload_n d_Ag_draw_89 rfl ?_
        refine V_gf g_Ag_draw_90 (rd hL rfl rfl) rfl ?_
        refine V_iload d_Ag_draw_93 rfl ?_
        refine V_ialdN d_Ag_draw_95 (rd hL rfl rfl) (Ix.of (show dzN sd t % g.1 < 12 by omega) (by decide)) ?_
        refine V_pf p_Ag_draw_96 (rd hL rfl rfl) (Nat.le_of_ble_eq_true rfl) rfl rfl ?_
        refine V_hS rfl ?_
        refine V_keep [0, 1, 2, 3, 4, 5, 6, 7] ?_
        exact skip (agC g.2.1 g.2.2 g.1 (dzN sd t % g.1) tol, g.2.1 (dzN sd t % g.1), g.2.2 (dzN sd t % g.1)) (by unfold drS; rw [if_pos (by rw [nI_leI (by omega) (by omega)] at c1; omega)]) hac
  refine V_aload_n d_Ag_draw_0 rfl ?_
  refine V_aload_n d_Ag_draw_1 rfl ?_
  refine V_iload_n d_Ag_draw_2 rfl ?_
  refine V_iload_n d_Ag_draw_3 rfl ?_
  refine V_cV s_Ag_draw_4 (do_Ag_gather hL hn a b ha hb k0) (rd hL rfl rfl) rfl rfl (Nat.le_of_ble_eq_true rfl) ?_
  refine V_aload_n d_Ag_draw_7 rfl ?_
  refine V_aload_n d_Ag_draw_8 rfl ?_
  refine V_gf g_Ag_draw_9 (rd hL rfl rfl) rfl ?_
  rw [← hg]
  refine V_if_le (tgt := 19) d_Ag_draw_12 (by decide) (fun c1 => ?_) (fun c1 => ?_)
  · have e0 : g.1 = 0 := by
      rcases Nat.eq_zero_or_pos g.1 with q | q
      · exact q
      · exact absurd c1 (nI_nle q (by omega))
    have ed : d = (0, bx, y9) := by rw [hd, drR, if_pos e0]
    rw [ed]
    have er : decide (0 < g.1) = false := by simp [e0]
    rw [er]
    refine V_iconst (v := 0) d_Ag_draw_19 (by decide) ?_
    refine V_pf p_Ag_draw_20 (rd hL rfl rfl) (Nat.le_of_ble_eq_true rfl) rfl rfl ?_
    refine V_hS rfl ?_
    refine V_iconst (v := 0) d_Ag_draw_23 (by decide) ?_
    refine V_istore d_Ag_draw_24 (by decide) rfl ?_
    refine V_iconst (v := 0) d_Ag_draw_26 (by decide) ?_
    refine V_istore d_Ag_draw_27 (by decide) rfl ?_
    refine V_iload d_Ag_draw_29 rfl ?_
    refine V_iload d_Ag_draw_31 rfl ?_
    refine V_icmp_ge (tgt := 105) d_Ag_draw_33 (by decide) (fun c2 => ?_) (fun c2 => ?_)
    · refine V_iload d_Ag_draw_105 rfl ?_
      exact V_iret d_Ag_draw_107 rfl rfl
    · refine V_aload_n d_Ag_draw_36 rfl ?_
      refine V_gf g_Ag_draw_37 (rd hL rfl rfl) rfl ?_
      refine V_if_le (tgt := 105) d_Ag_draw_40 (by decide) (fun _ => ?_) (fun c9 => absurd (c1) c9)
      refine V_iload d_Ag_draw_105 rfl ?_
      exact V_iret d_Ag_draw_107 rfl rfl
  · have e0 : 0 < g.1 := by
      rcases Nat.eq_zero_or_pos g.1 with q | q
      · exact absurd (by rw [q]; decide) c1
      · exact q
    refine V_iconst (v := 1) d_Ag_draw_15 (by decide) ?_
    refine V_goto (tgt := 20) d_Ag_draw_16 (by decide) ?_
    have er : decide (0 < g.1) = true := by simp [e0]
    rw [show (1 : Int32) = bI (decide (0 < g.1)) by rw [er]; rfl]
    refine V_pf p_Ag_draw_20 (rd hL rfl rfl) (Nat.le_of_ble_eq_true rfl) (bI_n _) (bI_f _) ?_
    refine V_hS rfl ?_
    refine V_iconst (v := 0) d_Ag_draw_23 (by decide) ?_
    refine V_istore d_Ag_draw_24 (by decide) rfl ?_
    refine V_iconst (v := 0) d_Ag_draw_26 (by decide) ?_
    refine V_istore d_Ag_draw_27 (by decide) rfl ?_
    exact loop _ tries 0 (0, bx, y9) e0 (by omega) (Nat.zero_le _) (by rw [hd, drR, if_neg (by omega)])
end P15
end
section
section P16
variable {l : Launch} {G : Gb} {h : List Ce} {n : Nat} {sp : Int32} {As Bn : Nat → Bool} {wh P O PB OB : Nat → Int32}
abbrev AdO : Ce := .inr (0, [.ref 14, .ref 15, .ref 16, .ref 17])
theorem do_Ad_position (c_Ad : h[12]? = some AdO) (a_Ad_positions : h[13]? = some (IA 24 P)) (p x : Nat) (hp : p < 12) (hx : x < 2) : Do l G k_Ad_position [.ref 13, .int (nI p), .int (nI x)] h (ri (P (p * 2 + x))) h := by
  refine Do.of (by decide) (Nat.le_of_ble_eq_true rfl) kw_Ad_position ?_
  refine V_aload_n d_Ad_position_0 rfl ?_
  refine V_gf g_Ad_position_1 c_Ad rfl ?_
  refine V_iload_n d_Ad_position_4 rfl ?_
  refine V_iconst (v := 2) d_Ad_position_5 (by decide) ?_
  refine V_imul d_Ad_position_6 ?_
  refine V_iload_n d_Ad_position_7 rfl ?_
  refine V_iadd d_Ad_position_8 ?_
  refine V_ialdN d_Ad_position_9 a_Ad_positions (⟨by rw [show (2 : Int32) = nI 2 from rfl, pk_mul, nI_add], by omega, by decide⟩) ?_
  exact V_iret d_Ad_position_10 rfl rfl
theorem do_Ad_moved (c_Ad : h[12]? = some AdO) (a_Ad_offsets : h[14]? = some (IA 8 O)) (q x : Nat) (hq : q < 4) (hx : x < 2) : Do l G k_Ad_moved [.ref 13, .int (nI q), .int (nI x)] h (ri (O (q * 2 + x))) h := by
  refine Do.of (by decide) (Nat.le_of_ble_eq_true rfl) kw_Ad_moved ?_
  refine V_aload_n d_Ad_moved_0 rfl ?_
  refine V_gf g_Ad_moved_1 c_Ad rfl ?_
  refine V_iload_n d_Ad_moved_4 rfl ?_
  refine V_iconst (v := 2) d_Ad_moved_5 (by decide) ?_
  refine V_imul d_Ad_moved_6 ?_
  refine V_iload_n d_Ad_moved_7 rfl ?_
  refine V_iadd d_Ad_moved_8 ?_
  refine V_ialdN d_Ad_moved_9 a_Ad_offsets (⟨by rw [show (2 : Int32) = nI 2 from rfl, pk_mul, nI_add], by omega, by decide⟩) ?_
  exact V_iret d_Ad_moved_10 rfl rfl
/-- the same for a method of a class of the JDK that has natives too -/
theorem Do.ofF {l : Launch} {G : Gb} {K : Kt} {vs : List Value} {h : List Ce} {r : Rs} {h' : List Ce} (hy : plainFor K.y = true) (hn : (lg_sl vs).length ≤ K.maxL) (hw : K.w ∈ tw) (kk : V l G K h 0 (lv_args 0 vs) [] h r h') : Do l G K vs h r h' := by
  refine ⟨kk.1, kk.2.1, MetFree.of_bodySF (code := K.code) (maxLocals := K.maxL) (ret := K.ret) hy ?_ ?_⟩
  · intro args s m hp hnm
    have hk := atoms_spec (ws := K.w :: tw) hp _ List.mem_cons_self
    obtain ⟨y, code, maxL, ret, fr, lo, hd⟩ := K
    cases hd with
    | nil =>
      obtain ⟨meth, c, h1, h2, h3, h4, h5, h6, -, -⟩ := Cond.code_spec hnm hk
      exact ⟨meth, c, h1, h2, h3, h4, h5, h6⟩
    | cons q t =>
      obtain ⟨m', meth, c, hn', h1, h2, h3, h4, -, h5, h6, -⟩ := Cond.codeWith_spec hk
      cases hnm.symm.trans hn'
      exact ⟨meth, c, h1, h2, h3, h4, h5, h6⟩
  · intro p e s m args below meth c s₁ B hml hP _
    obtain ⟨rfl, hP, hz, hX, hb, hK, hE⟩ := hP
    have hh0 : s₁.heap = s.heap := by rw [B.state]; rfl
    have hall := atoms_spec (ws := K.w :: tw) B.pre
    have hcode : meth.code = some c := (Stand.of_body B).code
    have hdl' : hdl c = K.hd := by
      have hk := hall _ List.mem_cons_self
      obtain ⟨y, code, maxL, ret, fr, lo, hd⟩ := K
      cases hd with
      | nil =>
        obtain ⟨meth', c', h1, h2, h3, h4, h5, h6, h7, -⟩ := Cond.code_spec B.named hk
        cases B.method.symm.trans h1
        cases hcode.symm.trans h2
        have : c.exceptionTable.toList = [] := by simpa using h7
        simp [hdl, this]
      | cons q t =>
        obtain ⟨m', meth', c', hn', h1, h2, h3, h4, h5, -, -, -⟩ := Cond.codeWith_spec hk
        cases B.named.symm.trans hn'
        cases B.method.symm.trans h1
        cases hcode.symm.trans h2
        exact h5
    have C : Cx G K p s m (vs.map (sv G)).toArray meth c := ⟨B.exec, B.bytes, hml, B.returns, B.notSynchronized, findClass_of_methodNamed B.named, (name_of_methodNamed B.named B.method).1, hdl', fun w hw => hall w (List.mem_cons_of_mem _ hw), hK, hE, hX, hb, by omega⟩
    have hl := lv_entry (vs.map (sv G)) (n := K.maxL) (by rw [lg_sl_mv]; exact hn)
    rw [lv_args_mv] at hl
    have w := kk.2.2 (e := e) (below := below) (locs := []) C hP hz (Nat.le_refl _) (Nat.le_refl _) va_S.rf hl
    rw [Nat.sub_self, Nat.sub_self] at w
    obtain ⟨t, a1, b1, b2, b3, b4, b5⟩ := w s₁ hh0 (Stand.of_body B)
    refine ⟨t, oc G r, ?_, b1, b2, rfl, b3, b4, b5⟩
    rw [lg_entry_eq]
    exact a1
/-- Math.floorDiv, as it is written -/
def fdR (x y : Int64) : Int64 := if 0 ≤ lg_cmp (x ^^^ y) 0 then x / y else if lg_cmp (x / y * y) x = 0 then x / y else x / y - 1
theorem do_floorDiv (x y : Int64) (hy : ¬ y = 0) : Do l G k_Math_floorDiv [.long x, .long y] h (rl (fdR x y)) h := by
  refine Do.ofF (by decide +kernel) (Nat.le_of_ble_eq_true rfl) kw_Math_floorDiv ?_
  refine V_lload_n d_Math_floorDiv_0 rfl ?_
  refine V_lload_n d_Math_floorDiv_1 rfl ?_
  refine V_ldiv d_Math_floorDiv_2 (hy) ?_
  refine V_lstore d_Math_floorDiv_3 (by decide) rfl ?_
  refine V_lload_n d_Math_floorDiv_5 rfl ?_
  refine V_lload_n d_Math_floorDiv_6 rfl ?_
  refine V_lxor d_Math_floorDiv_7 ?_
  refine V_lconst (v := 0) d_Math_floorDiv_8 (by decide) ?_
  refine V_lcmp d_Math_floorDiv_9 ?_
  refine V_if_ge (tgt := 27) d_Math_floorDiv_10 (by decide) (fun c1 => ?_) (fun c1 => ?_)
  · rw [rl, fdR, if_pos c1]
    refine V_lload d_Math_floorDiv_27 rfl ?_
    exact V_lret d_Math_floorDiv_29 rfl
  · refine V_lload d_Math_floorDiv_13 rfl ?_
    refine V_lload_n d_Math_floorDiv_15 rfl ?_
    refine V_lmul d_Math_floorDiv_16 ?_
    refine V_lload_n d_Math_floorDiv_17 rfl ?_
    refine V_lcmp d_Math_floorDiv_18 ?_
    refine V_if_eq (tgt := 27) d_Math_floorDiv_19 (by decide) (fun c2 => ?_) (fun c2 => ?_)
    · rw [rl, fdR, if_neg c1, if_pos c2]
      refine V_lload d_Math_floorDiv_27 rfl ?_
      exact V_lret d_Math_floorDiv_29 rfl
    · rw [rl, fdR, if_neg c1, if_neg c2]
      refine V_lload d_Math_floorDiv_22 rfl ?_
      refine V_lconst (v := 1) d_Math_floorDiv_24 (by decide) ?_
      refine V_lsub d_Math_floorDiv_25 ?_
      exact V_lret d_Math_floorDiv_26 rfl
def meanR (t : Int64) (c : Nat) (d : Int32) : Int32 := if c = 0 then d else (fdR t (nI c).toInt64).toInt32
theorem do_Ad_mean (t : Int64) (c : Nat) (hc : c < 2 ^ 31) (d : Int32) : Do l G k_Ad_mean [.long t, .int (nI c), .int d] h (ri (meanR t c d)) h := by
  refine Do.of (by decide) (Nat.le_of_ble_eq_true rfl) kw_Ad_mean ?_
  refine V_iload_n d_Ad_mean_0 rfl ?_
  rcases Nat.eq_zero_or_pos c with q | q
  · subst q
    rw [meanR, if_pos rfl]
    refine V_if_ne (tgt := 8) d_Ad_mean_1 (by decide) (fun c9 => absurd ((rfl : nI 0 = 0)) c9) (fun _ => ?_)
    refine V_iload_n d_Ad_mean_4 rfl ?_
    refine V_goto (tgt := 15) d_Ad_mean_5 (by decide) ?_
    exact V_iret d_Ad_mean_15 rfl rfl
  · rw [meanR, if_neg (by omega)]
    refine V_if_ne (tgt := 8) d_Ad_mean_1 (by decide) (fun _ => ?_) (fun c9 => absurd (c9 : _) ((nI_ne0 q hc)))
    refine V_lload_n d_Ad_mean_8 rfl ?_
    refine V_iload_n d_Ad_mean_9 rfl ?_
    refine V_i2l d_Ad_mean_10 ?_
    refine V_cS s_Ad_mean_11 (do_floorDiv t (nI c).toInt64 (by rw [nI_l hc, show (0 : Int64) = lN 0 from rfl, lN_eq hc (by decide)]; omega)) rfl rfl (Nat.le_of_ble_eq_true rfl) ?_
    refine V_l2i d_Ad_mean_14 ?_
    exact V_iret d_Ad_mean_15 rfl rfl
theorem do_fill {a N : Nat} {f : Nat → Int32} (ha : h[a]? = some (IA N f)) (hN : N < 2 ^ 31) (v : Int32) : Do l G k_Arr_fill [.ref (a + 1), .int v] h rv (h.set a (IA N (fori (fun i f => upd f i v) N 0 f))) := by
  refine Do.of (by decide) (Nat.le_of_ble_eq_true rfl) kw_Arr_fill ?_
  have hlen : a < h.length := (List.getElem?_eq_some_iff.mp ha).1
  have loop : ∀ (m i : Nat) (g : Nat → Int32), i + m = N → fori (fun i f => upd f i v) N 0 f = fori (fun i f => upd f i v) m i g → V l G k_Arr_fill h 5 [(0, .ref (a + 1)), (1, .int v), (2, .int (nI i)), (3, .int (nI N))] [] (h.set a (IA N g)) rv (h.set a (IA N (fori (fun i f => upd f i v) N 0 f))) := by
    intro m
    induction m with
    | zero =>
      intro i g hi e
      rw [e]
      refine V_iload_n d_Arr_fill_5 rfl ?_
      refine V_iload_n d_Arr_fill_6 rfl ?_
      refine V_icmp_ge (tgt := 20) d_Arr_fill_7 (by decide) (fun _ => ?_) (fun c9 => absurd ((nI_le (by omega) (by omega) : nI N ≤ nI i)) c9)
      exact V_vret d_Arr_fill_20 rfl
    | succ m ih =>
      intro i g hi e
      refine V_iload_n d_Arr_fill_5 rfl ?_
      refine V_iload_n d_Arr_fill_6 rfl ?_
      refine V_icmp_ge (tgt := 20) d_Arr_fill_7 (by decide) (fun c9 => absurd c9 ((nI_ge (by omega) (by omega) : ¬ nI N ≤ nI i))) (fun _ => ?_)
      refine V_aload_n d_Arr_fill_10 rfl ?_
      refine V_iload_n d_Arr_fill_11 rfl ?_
      refine V_iload_n d_Arr_fill_12 rfl ?_
      refine V_iastN d_Arr_fill_13 (List.getElem?_set_self hlen) (Ix.of (show i < N by omega) hN) ?_
      rw [List.set_set]
      refine V_iinc1 d_Arr_fill_14 rfl (by decide) rfl ?_
      refine V_goto (tgt := 5) d_Arr_fill_17 (by decide) ?_
      rw [nI_1]
      exact ih (i + 1) _ (by omega) e
  refine V_iconst (v := 0) d_Arr_fill_0 (by decide) ?_
  refine V_istore_n d_Arr_fill_1 (by decide) rfl ?_
  refine V_aload_n d_Arr_fill_2 rfl ?_
  refine V_ialen d_Arr_fill_3 ha ?_
  refine V_istore_n d_Arr_fill_4 (by decide) rfl ?_
  have e0 : h = h.set a (IA N f) := by
    apply List.ext_getElem?
    intro i
    rw [List.getElem?_set]
    by_cases q : a = i
    · subst q; rw [if_pos rfl, if_pos hlen]; exact ha
    · simp [q]
  refine V_eqh e0 ?_
  exact loop N 0 f (by omega) rfl
abbrev adH (h : List Ce) (n : Nat) (sp : Int32) (As Bn : Nat → Bool) (wh P O PB OB : Nat → Int32) : List Ce := hS h [(5, PlO n sp), (6, ZA 12 As), (7, ZA 48 Bn), (8, IA 96 wh), (12, AdO), (13, IA 24 P), (14, IA 8 O), (15, IA 24 PB), (16, IA 8 OB)]
/-- how far a place lies off, as the class counts it -/
def offL (w p o : Int32) : Int64 := 1000 * w.toInt64 - p.toInt64 - o.toInt64
def shS (wh P O : Nat → Int32) (p q x : Nat) (t : Int64) : Int64 := t + offL (wh ((p * 4 + q) * 2 + x)) (P (p * 2 + x)) (O (q * 2 + x)) * offL (wh ((p * 4 + q) * 2 + x)) (P (p * 2 + x)) (O (q * 2 + x))
def shQ (Bn : Nat → Bool) (wh P O : Nat → Int32) (p q : Nat) (t : Int64) : Int64 := if Bn (p * 4 + q) then fori (shS wh P O p q) 2 0 t else t
def shR (Bn : Nat → Bool) (wh P O : Nat → Int32) (p : Nat) : Int64 := fori (shQ Bn wh P O p) 4 0 0
theorem do_Ad_share (hL : 27 ≤ h.length) (p : Nat) (hp : p < 12) : Do l G k_Ad_share [.ref 13, .ref 6, .int (nI p)] (adH h n sp As Bn wh P O PB OB) (rl (shR Bn wh P O p)) (adH h n sp As Bn wh P O PB OB) := by
  refine Do.of (by decide) (Nat.le_of_ble_eq_true rfl) kw_Ad_share ?_
  have inner : ∀ (H0 : List Ce) (q : Nat), q < 4 → ∀ (m x : Nat) (t : Int64), x + m = 2 → V l G k_Ad_share H0 79 [(0, .ref 13), (1, .ref 6), (2, .int (nI p)), (3, .long (fori (shS wh P O p q) m x t)), (5, .int (nI q))] [] (adH h n sp As Bn wh P O PB OB) (rl (shR Bn wh P O p)) (adH h n sp As Bn wh P O PB OB) → V l G k_Ad_share H0 24 [(0, .ref 13), (1, .ref 6), (2, .int (nI p)), (3, .long t), (5, .int (nI q)), (6, .int (nI x))] [] (adH h n sp As Bn wh P O PB OB) (rl (shR Bn wh P O p)) (adH h n sp As Bn wh P O PB OB) := by
    intro H0 q hq m
    induction m with
    | zero =>
      intro x t hx kk
      obtain rfl : x = 2 := by omega
      refine V_iload d_Ad_share_24 rfl ?_
      refine V_iconst (v := 2) d_Ad_share_26 (by decide) ?_
      refine V_icmp_ge (tgt := 79) d_Ad_share_27 (by decide) (fun _ => ?_) (fun c9 => absurd ((by decide : (2 : Int32) ≤ nI 2)) c9)
      exact V_keep [0, 1, 2, 3, 5] kk
    | succ m ih =>
      intro x t hx kk
      refine V_iload d_Ad_share_24 rfl ?_
      refine V_iconst (v := 2) d_Ad_share_26 (by decide) ?_
      refine V_icmp_ge (tgt := 79) d_Ad_share_27 (by decide) (fun c9 => absurd c9 ((nI_ge (b := 2) (by omega) (by decide) : ¬ (2 : Int32) ≤ nI x))) (fun _ => ?_)
      refine V_ldc2 d_Ad_share_30 c_Ad_share_30 ?_
      refine V_aload_n d_Ad_share_33 rfl ?_
      refine V_iload_n d_Ad_share_34 rfl ?_
      refine V_iload d_Ad_share_35 rfl ?_
      refine V_iload d_Ad_share_37 rfl ?_
      refine V_cV s_Ad_share_39 (do_Pl_where (rd hL rfl rfl) (rd hL rfl rfl) hp hq (show x < 2 by omega)) (rd hL rfl rfl) rfl rfl (Nat.le_of_ble_eq_true rfl) ?_
      refine V_i2l d_Ad_share_42 ?_
      refine V_lmul d_Ad_share_43 ?_
      refine V_aload_n d_Ad_share_44 rfl ?_
      refine V_iload_n d_Ad_share_45 rfl ?_
      refine V_iload d_Ad_share_46 rfl ?_
      refine V_cV s_Ad_share_48 (do_Ad_position (rd hL rfl rfl) (rd hL rfl rfl) p x hp (by omega)) (rd hL rfl rfl) rfl rfl (Nat.le_of_ble_eq_true rfl) ?_
      refine V_i2l d_Ad_share_51 ?_
      refine V_lsub d_Ad_share_52 ?_
      refine V_aload_n d_Ad_share_53 rfl ?_
      refine V_iload d_Ad_share_54 rfl ?_
      refine V_iload d_Ad_share_56 rfl ?_
      refine V_cV s_Ad_share_58 (do_Ad_moved (rd hL rfl rfl) (rd hL rfl rfl) q x hq (by omega)) (rd hL rfl rfl) rfl rfl (Nat.le_of_ble_eq_true rfl) ?_
      refine V_i2l d_Ad_share_61 ?_
      refine V_lsub d_Ad_share_62 ?_
      refine V_lstore d_Ad_share_63 (by decide) rfl ?_
      refine V_lload_n d_Ad_share_65 rfl ?_
      refine V_lload d_Ad_share_66 rfl ?_
      refine V_lload d_Ad_share_68 rfl ?_
      refine V_lmul d_Ad_share_70 ?_
      refine V_ladd d_Ad_share_71 ?_
      refine V_lstore_n d_Ad_share_72 (by decide) rfl ?_
      refine V_iinc1 d_Ad_share_73 rfl (by decide) rfl ?_
      refine V_goto (tgt := 24) d_Ad_share_76 (by decide) ?_
      rw [nI_1]
      refine V_keep [0, 1, 2, 3, 5, 6] ?_
      exact ih (x + 1) _ (by omega) kk
  have outer : ∀ (H0 : List Ce) (m q : Nat) (t : Int64), q + m = 4 → shR Bn wh P O p = fori (shQ Bn wh P O p) m q t → V l G k_Ad_share H0 5 [(0, .ref 13), (1, .ref 6), (2, .int (nI p)), (3, .long t), (5, .int (nI q))] [] (adH h n sp As Bn wh P O PB OB) (rl (shR Bn wh P O p)) (adH h n sp As Bn wh P O PB OB) := by
    intro H0 m
    induction m with
    | zero =>
      intro q t hq e
      obtain rfl : q = 4 := by omega
      rw [e]
      refine V_iload d_Ad_share_5 rfl ?_
      refine V_iconst (v := 4) d_Ad_share_7 (by decide) ?_
      refine V_icmp_ge (tgt := 85) d_Ad_share_8 (by decide) (fun _ => ?_) (fun c9 => absurd ((by decide : (4 : Int32) ≤ nI 4)) c9)
      refine V_lload_n d_Ad_share_85 rfl ?_
      exact V_lret d_Ad_share_86 rfl
    | succ m ih =>
      intro q t hq e
      have next : ∀ t' : Int64, t' = shQ Bn wh P O p q t → V l G k_Ad_share H0 79 [(0, .ref 13), (1, .ref 6), (2, .int (nI p)), (3, .long t'), (5, .int (nI q))] [] (adH h n sp As Bn wh P O PB OB) (rl (shR Bn wh P O p)) (adH h n sp As Bn wh P O PB OB) := by
        intro t' e'
        refine V_iinc1 d_Ad_share_79 rfl (by decide) rfl ?_
        refine V_goto (tgt := 5) d_Ad_share_82 (by decide) ?_
        rw [nI_1]
        exact ih (q + 1) t' (by omega) (by rw [e']; exact e)
      refine V_iload d_Ad_share_5 rfl ?_
      refine V_iconst (v := 4) d_Ad_share_7 (by decide) ?_
      refine V_icmp_ge (tgt := 85) d_Ad_share_8 (by decide) (fun c9 => absurd c9 ((nI_ge (b := 4) (by omega) (by decide) : ¬ (4 : Int32) ≤ nI q))) (fun _ => ?_)
      refine V_aload_n d_Ad_share_11 rfl ?_
      refine V_iload_n d_Ad_share_12 rfl ?_
      refine V_iload d_Ad_share_13 rfl ?_
      refine V_cV s_Ad_share_15 (do_Pl_isNoted (rd hL rfl rfl) (rd hL rfl rfl) hp (show q < 4 by omega)) (rd hL rfl rfl) rfl rfl (Nat.le_of_ble_eq_true rfl) ?_
      refine V_if_eq (tgt := 79) d_Ad_share_18 (by decide) (fun c1 => ?_) (fun c1 => ?_)
      · exact next t (by simp [shQ, (bI_0 _).mp c1])
      · have c1' : Bn (p * 4 + q) = true := by simpa [bI_0] using c1
        refine V_iconst (v := 0) d_Ad_share_21 (by decide) ?_
        refine V_istore d_Ad_share_22 (by decide) rfl ?_
        exact inner H0 q (by omega) 2 0 t (by omega) (next _ (by simp [shQ, c1']))
  refine V_lconst (v := 0) d_Ad_share_0 (by decide) ?_
  refine V_lstore_n d_Ad_share_1 (by decide) rfl ?_
  refine V_iconst (v := 0) d_Ad_share_2 (by decide) ?_
  refine V_istore d_Ad_share_3 (by decide) rfl ?_
  exact outer _ 4 0 0 (by omega) rfl
def toR (As Bn : Nat → Bool) (wh P O : Nat → Int32) (n : Nat) : Int64 := fori (fun p t => if As p then t else t + shR Bn wh P O p) n 0 0
theorem do_Ad_total (hL : 27 ≤ h.length) (hn : n ≤ 12) : Do l G k_Ad_total [.ref 13, .ref 6] (adH h n sp As Bn wh P O PB OB) (rl (toR As Bn wh P O n)) (adH h n sp As Bn wh P O PB OB) := by
  refine Do.of (by decide) (Nat.le_of_ble_eq_true rfl) kw_Ad_total ?_
  have loop : ∀ (H0 : List Ce) (m p : Nat) (t : Int64), p + m = n → toR As Bn wh P O n = fori (fun p t => if As p then t else t + shR Bn wh P O p) m p t → V l G k_Ad_total H0 5 [(0, .ref 13), (1, .ref 6), (2, .long t), (4, .int (nI p))] [] (adH h n sp As Bn wh P O PB OB) (rl (toR As Bn wh P O n)) (adH h n sp As Bn wh P O PB OB) := by
    intro H0 m
    induction m with
    | zero =>
      intro p t hp e
      obtain rfl : p = n := by omega
      rw [e]
      refine V_iload d_Ad_total_5 rfl ?_
      refine V_aload_n d_Ad_total_7 rfl ?_
      refine V_cV s_Ad_total_8 (do_Pl_number (rd hL rfl rfl)) (rd hL rfl rfl) rfl rfl (Nat.le_of_ble_eq_true rfl) ?_
      refine V_icmp_ge (tgt := 39) d_Ad_total_11 (by decide) (fun _ => ?_) (fun c9 => absurd ((nI_le (Nat.le_refl _) (by omega))) c9)
      refine V_lload_n d_Ad_total_39 rfl ?_
      exact V_lret d_Ad_total_40 rfl
    | succ m ih =>
      intro p t hp e
      have next : ∀ t' : Int64, t' = (if As p then t else t + shR Bn wh P O p) → V l G k_Ad_total H0 33 [(0, .ref 13), (1, .ref 6), (2, .long t'), (4, .int (nI p))] [] (adH h n sp As Bn wh P O PB OB) (rl (toR As Bn wh P O n)) (adH h n sp As Bn wh P O PB OB) := by
        intro t' e'
        refine V_iinc1 d_Ad_total_33 rfl (by decide) rfl ?_
        refine V_goto (tgt := 5) d_Ad_total_36 (by decide) ?_
        rw [nI_1]
        exact ih (p + 1) t' (by omega) (by rw [e']; exact e)
      refine V_iload d_Ad_total_5 rfl ?_
      refine V_aload_n d_Ad_total_7 rfl ?_
      refine V_cV s_Ad_total_8 (do_Pl_number (rd hL rfl rfl)) (rd hL rfl rfl) rfl rfl (Nat.le_of_ble_eq_true rfl) ?_
      refine V_icmp_ge (tgt := 39) d_Ad_total_11 (by decide) (fun c9 => absurd c9 ((nI_ge (by omega) (by omega) : ¬ nI n ≤ nI p))) (fun _ => ?_)
      refine V_aload_n d_Ad_total_14 rfl ?_
      refine V_iload d_Ad_total_15 rfl ?_
      refine V_cV s_Ad_total_17 (do_Pl_isSpare (rd hL rfl rfl) (rd hL rfl rfl) (show p < 12 by omega)) (rd hL rfl rfl) rfl rfl (Nat.le_of_ble_eq_true rfl) ?_
      refine V_if_ne (tgt := 33) d_Ad_total_20 (by decide) (fun c1 => ?_) (fun c1 => ?_)
      · have c1' : As p = true := by simpa [bI_0] using c1
        exact next t (by simp [c1'])
      · refine V_lload_n d_Ad_total_23 rfl ?_
        refine V_aload_n d_Ad_total_24 rfl ?_
        refine V_aload_n d_Ad_total_25 rfl ?_
        refine V_iload d_Ad_total_26 rfl ?_
        refine V_cV s_Ad_total_28 (do_Ad_share hL p (by omega)) (rd hL rfl rfl) rfl rfl (Nat.le_of_ble_eq_true rfl) ?_
        refine V_ladd d_Ad_total_31 ?_
        refine V_lstore_n d_Ad_total_32 (by decide) rfl ?_
        exact next _ (by simp [(bI_0 _).mp c1])
  refine V_lconst (v := 0) d_Ad_total_0 (by decide) ?_
  refine V_lstore_n d_Ad_total_1 (by decide) rfl ?_
  refine V_iconst (v := 0) d_Ad_total_2 (by decide) ?_
  refine V_istore d_Ad_total_3 (by decide) rfl ?_
  exact loop _ n 0 0 (by omega) rfl
end P16
end
section
section P17
variable {l : Launch} {G : Gb} {h : List Ce} {n : Nat} {sp : Int32} {As Bn : Nat → Bool} {wh P O PB OB : Nat → Int32}
abbrev Ac : Type := Int64 × Nat
/-- a photo's mean: one place -/
def mpS (As Bn : Nat → Bool) (wh P : Nat → Int32) (q x p : Nat) (s : Ac) : Ac := if !As p && Bn (p * 4 + q) then (s.1 + (1000 * (wh ((p * 4 + q) * 2 + x)).toInt64 - (P (p * 2 + x)).toInt64), s.2 + 1) else s
def mpR (As Bn : Nat → Bool) (wh P O : Nat → Int32) (n q x : Nat) : Nat → Int32 := upd O (q * 2 + x) (meanR (fori (mpS As Bn wh P q x) n 0 (0, 0)).1 (fori (mpS As Bn wh P q x) n 0 (0, 0)).2 (O (q * 2 + x)))
theorem do_Ad_movePhoto (hL : 27 ≤ h.length) (hn : n ≤ 12) (q x : Nat) (hq : q < 4) (hx : x < 2) : Do l G k_Ad_movePhoto [.ref 13, .ref 6, .int (nI q), .int (nI x)] (adH h n sp As Bn wh P O PB OB) rv (adH h n sp As Bn wh P (mpR As Bn wh P O n q x) PB OB) := by
  refine Do.of (by decide) (Nat.le_of_ble_eq_true rfl) kw_Ad_movePhoto ?_
  have loop : ∀ (H0 : List Ce) (m p : Nat) (s : Ac), p + m = n → s.2 ≤ p → fori (mpS As Bn wh P q x) n 0 (0, 0) = fori (mpS As Bn wh P q x) m p s → V l G k_Ad_movePhoto H0 9 [(0, .ref 13), (1, .ref 6), (2, .int (nI q)), (3, .int (nI x)), (4, .long s.1), (6, .int (nI s.2)), (7, .int (nI p))] [] (adH h n sp As Bn wh P O PB OB) rv (adH h n sp As Bn wh P (mpR As Bn wh P O n q x) PB OB) := by
    intro H0 m
    induction m with
    | zero =>
      intro p s hp hs e
      obtain rfl : p = n := by omega
      rw [mpR, show fori (mpS As Bn wh P q x) p 0 (0, 0) = s from e]
      refine V_iload d_Ad_movePhoto_9 rfl ?_
      refine V_aload_n d_Ad_movePhoto_11 rfl ?_
      refine V_cV s_Ad_movePhoto_12 (do_Pl_number (rd hL rfl rfl)) (rd hL rfl rfl) rfl rfl (Nat.le_of_ble_eq_true rfl) ?_
      refine V_icmp_ge (tgt := 73) d_Ad_movePhoto_15 (by decide) (fun _ => ?_) (fun c9 => absurd ((nI_le (Nat.le_refl _) (by omega))) c9)
      refine V_aload_n d_Ad_movePhoto_73 rfl ?_
      refine V_gf g_Ad_movePhoto_74 (rd hL rfl rfl) rfl ?_
      refine V_iload_n d_Ad_movePhoto_77 rfl ?_
      refine V_iconst (v := 2) d_Ad_movePhoto_78 (by decide) ?_
      refine V_imul d_Ad_movePhoto_79 ?_
      refine V_iload_n d_Ad_movePhoto_80 rfl ?_
      refine V_iadd d_Ad_movePhoto_81 ?_
      refine V_lload d_Ad_movePhoto_82 rfl ?_
      refine V_iload d_Ad_movePhoto_84 rfl ?_
      refine V_aload_n d_Ad_movePhoto_86 rfl ?_
      refine V_iload_n d_Ad_movePhoto_87 rfl ?_
      refine V_iload_n d_Ad_movePhoto_88 rfl ?_
      refine V_cV s_Ad_movePhoto_89 (do_Ad_moved (rd hL rfl rfl) (rd hL rfl rfl) q x hq hx) (rd hL rfl rfl) rfl rfl (Nat.le_of_ble_eq_true rfl) ?_
      refine V_cS s_Ad_movePhoto_92 (do_Ad_mean s.1 s.2 (by omega) (O (q * 2 + x))) rfl rfl (Nat.le_of_ble_eq_true rfl) ?_
      refine V_iastN d_Ad_movePhoto_95 (rd hL rfl rfl) (⟨by rw [show (2 : Int32) = nI 2 from rfl, pk_mul, nI_add], by omega, by decide⟩) ?_
      refine V_hS rfl ?_
      exact V_vret d_Ad_movePhoto_96 rfl
    | succ m ih =>
      intro p s hp hs e
      have next : ∀ s' : Ac, s' = mpS As Bn wh P q x p s → s'.2 ≤ p + 1 → V l G k_Ad_movePhoto H0 67 [(0, .ref 13), (1, .ref 6), (2, .int (nI q)), (3, .int (nI x)), (4, .long s'.1), (6, .int (nI s'.2)), (7, .int (nI p))] [] (adH h n sp As Bn wh P O PB OB) rv (adH h n sp As Bn wh P (mpR As Bn wh P O n q x) PB OB) := by
        intro s' e' h'
        refine V_iinc1 d_Ad_movePhoto_67 rfl (by decide) rfl ?_
        refine V_goto (tgt := 9) d_Ad_movePhoto_70 (by decide) ?_
        rw [nI_1]
        exact ih (p + 1) s' (by omega) h' (by rw [e']; exact e)
      refine V_iload d_Ad_movePhoto_9 rfl ?_
      refine V_aload_n d_Ad_movePhoto_11 rfl ?_
      refine V_cV s_Ad_movePhoto_12 (do_Pl_number (rd hL rfl rfl)) (rd hL rfl rfl) rfl rfl (Nat.le_of_ble_eq_true rfl) ?_
      refine V_icmp_ge (tgt := 73) d_Ad_movePhoto_15 (by decide) (fun c9 => absurd c9 ((nI_ge (by omega) (by omega) : ¬ nI n ≤ nI p))) (fun _ => ?_)
      refine V_aload_n d_Ad_movePhoto_18 rfl ?_
      refine V_iload d_Ad_movePhoto_19 rfl ?_
      refine V_cV s_Ad_movePhoto_21 (do_Pl_isSpare (rd hL rfl rfl) (rd hL rfl rfl) (show p < 12 by omega)) (rd hL rfl rfl) rfl rfl (Nat.le_of_ble_eq_true rfl) ?_
      refine V_if_ne (tgt := 67) d_Ad_movePhoto_24 (by decide) (fun c1 => ?_) (fun c1 => ?_)
      · have c1' : As p = true := by simpa [bI_0] using c1
        exact next s (by simp [mpS, c1']) (by omega)
      · refine V_aload_n d_Ad_movePhoto_27 rfl ?_
        refine V_iload d_Ad_movePhoto_28 rfl ?_
        refine V_iload_n d_Ad_movePhoto_30 rfl ?_
        refine V_cV s_Ad_movePhoto_31 (do_Pl_isNoted (rd hL rfl rfl) (rd hL rfl rfl) (show p < 12 by omega) hq) (rd hL rfl rfl) rfl rfl (Nat.le_of_ble_eq_true rfl) ?_
        refine V_if_eq (tgt := 67) d_Ad_movePhoto_34 (by decide) (fun c2 => ?_) (fun c2 => ?_)
        · exact next s (by simp [mpS, (bI_0 _).mp c2]) (by omega)
        · have c2' : Bn (p * 4 + q) = true := by simpa [bI_0] using c2
          refine V_lload d_Ad_movePhoto_37 rfl ?_
          refine V_ldc2 d_Ad_movePhoto_39 c_Ad_movePhoto_39 ?_
          refine V_aload_n d_Ad_movePhoto_42 rfl ?_
          refine V_iload d_Ad_movePhoto_43 rfl ?_
          refine V_iload_n d_Ad_movePhoto_45 rfl ?_
          refine V_iload_n d_Ad_movePhoto_46 rfl ?_
          refine V_cV s_Ad_movePhoto_47 (do_Pl_where (rd hL rfl rfl) (rd hL rfl rfl) (show p < 12 by omega) hq hx) (rd hL rfl rfl) rfl rfl (Nat.le_of_ble_eq_true rfl) ?_
          refine V_i2l d_Ad_movePhoto_50 ?_
          refine V_lmul d_Ad_movePhoto_51 ?_
          refine V_aload_n d_Ad_movePhoto_52 rfl ?_
          refine V_iload d_Ad_movePhoto_53 rfl ?_
          refine V_iload_n d_Ad_movePhoto_55 rfl ?_
          refine V_cV s_Ad_movePhoto_56 (do_Ad_position (rd hL rfl rfl) (rd hL rfl rfl) p x (by omega) hx) (rd hL rfl rfl) rfl rfl (Nat.le_of_ble_eq_true rfl) ?_
          refine V_i2l d_Ad_movePhoto_59 ?_
          refine V_lsub d_Ad_movePhoto_60 ?_
          refine V_ladd d_Ad_movePhoto_61 ?_
          refine V_lstore d_Ad_movePhoto_62 (by decide) rfl ?_
          refine V_iinc1 d_Ad_movePhoto_64 rfl (by decide) rfl ?_
          rw [nI_1]
          exact next (s.1 + (1000 * (wh ((p * 4 + q) * 2 + x)).toInt64 - (P (p * 2 + x)).toInt64), s.2 + 1) (by simp [mpS, (bI_0 _).mp c1, c2']) (by show s.2 + 1 ≤ p + 1; omega)
  refine V_lconst (v := 0) d_Ad_movePhoto_0 (by decide) ?_
  refine V_lstore d_Ad_movePhoto_1 (by decide) rfl ?_
  refine V_iconst (v := 0) d_Ad_movePhoto_3 (by decide) ?_
  refine V_istore d_Ad_movePhoto_4 (by decide) rfl ?_
  refine V_iconst (v := 0) d_Ad_movePhoto_6 (by decide) ?_
  refine V_istore d_Ad_movePhoto_7 (by decide) rfl ?_
  exact loop _ n 0 (0, 0) (by omega) (Nat.le_refl _) rfl
/-- a place's mean: one photo -/
def plS (Bn : Nat → Bool) (wh O : Nat → Int32) (p x q : Nat) (s : Ac) : Ac := if Bn (p * 4 + q) then (s.1 + (1000 * (wh ((p * 4 + q) * 2 + x)).toInt64 - (O (q * 2 + x)).toInt64), s.2 + 1) else s
def plR (Bn : Nat → Bool) (wh O : Nat → Int32) (p x : Nat) (P : Nat → Int32) : Nat → Int32 := upd P (p * 2 + x) (meanR (fori (plS Bn wh O p x) 4 0 (0, 0)).1 (fori (plS Bn wh O p x) 4 0 (0, 0)).2 0)
theorem do_Ad_movePlace (hL : 27 ≤ h.length) (p x : Nat) (hp : p < 12) (hx : x < 2) : Do l G k_Ad_movePlace [.ref 13, .ref 6, .int (nI p), .int (nI x)] (adH h n sp As Bn wh P O PB OB) rv (adH h n sp As Bn wh (plR Bn wh O p x P) O PB OB) := by
  refine Do.of (by decide) (Nat.le_of_ble_eq_true rfl) kw_Ad_movePlace ?_
  have loop : ∀ (H0 : List Ce) (m q : Nat) (s : Ac), q + m = 4 → s.2 ≤ q → fori (plS Bn wh O p x) 4 0 (0, 0) = fori (plS Bn wh O p x) m q s → V l G k_Ad_movePlace H0 9 [(0, .ref 13), (1, .ref 6), (2, .int (nI p)), (3, .int (nI x)), (4, .long s.1), (6, .int (nI s.2)), (7, .int (nI q))] [] (adH h n sp As Bn wh P O PB OB) rv (adH h n sp As Bn wh (plR Bn wh O p x P) O PB OB) := by
    intro H0 m
    induction m with
    | zero =>
      intro q s hq hs e
      obtain rfl : q = 4 := by omega
      rw [plR, show fori (plS Bn wh O p x) 4 0 (0, 0) = s from e]
      refine V_iload d_Ad_movePlace_9 rfl ?_
      refine V_iconst (v := 4) d_Ad_movePlace_11 (by decide) ?_
      refine V_icmp_ge (tgt := 61) d_Ad_movePlace_12 (by decide) (fun _ => ?_) (fun c9 => absurd ((by decide : (4 : Int32) ≤ nI 4)) c9)
      refine V_aload_n d_Ad_movePlace_61 rfl ?_
      refine V_gf g_Ad_movePlace_62 (rd hL rfl rfl) rfl ?_
      refine V_iload_n d_Ad_movePlace_65 rfl ?_
      refine V_iconst (v := 2) d_Ad_movePlace_66 (by decide) ?_
      refine V_imul d_Ad_movePlace_67 ?_
      refine V_iload_n d_Ad_movePlace_68 rfl ?_
      refine V_iadd d_Ad_movePlace_69 ?_
      refine V_lload d_Ad_movePlace_70 rfl ?_
      refine V_iload d_Ad_movePlace_72 rfl ?_
      refine V_iconst (v := 0) d_Ad_movePlace_74 (by decide) ?_
      refine V_cS s_Ad_movePlace_75 (do_Ad_mean s.1 s.2 (by omega) 0) rfl rfl (Nat.le_of_ble_eq_true rfl) ?_
      refine V_iastN d_Ad_movePlace_78 (rd hL rfl rfl) (⟨by rw [show (2 : Int32) = nI 2 from rfl, pk_mul, nI_add], by omega, by decide⟩) ?_
      refine V_hS rfl ?_
      exact V_vret d_Ad_movePlace_79 rfl
    | succ m ih =>
      intro q s hq hs e
      have next : ∀ s' : Ac, s' = plS Bn wh O p x q s → s'.2 ≤ q + 1 → V l G k_Ad_movePlace H0 55 [(0, .ref 13), (1, .ref 6), (2, .int (nI p)), (3, .int (nI x)), (4, .long s'.1), (6, .int (nI s'.2)), (7, .int (nI q))] [] (adH h n sp As Bn wh P O PB OB) rv (adH h n sp As Bn wh (plR Bn wh O p x P) O PB OB) := by
        intro s' e' h'
        refine V_iinc1 d_Ad_movePlace_55 rfl (by decide) rfl ?_
        refine V_goto (tgt := 9) d_Ad_movePlace_58 (by decide) ?_
        rw [nI_1]
        exact ih (q + 1) s' (by omega) h' (by rw [e']; exact e)
      refine V_iload d_Ad_movePlace_9 rfl ?_
      refine V_iconst (v := 4) d_Ad_movePlace_11 (by decide) ?_
      refine V_icmp_ge (tgt := 61) d_Ad_movePlace_12 (by decide) (fun c9 => absurd c9 ((nI_ge (b := 4) (by omega) (by decide) : ¬ (4 : Int32) ≤ nI q))) (fun _ => ?_)
      refine V_aload_n d_Ad_movePlace_15 rfl ?_
      refine V_iload_n d_Ad_movePlace_16 rfl ?_
      refine V_iload d_Ad_movePlace_17 rfl ?_
      refine V_cV s_Ad_movePlace_19 (do_Pl_isNoted (rd hL rfl rfl) (rd hL rfl rfl) hp (show q < 4 by omega)) (rd hL rfl rfl) rfl rfl (Nat.le_of_ble_eq_true rfl) ?_
      refine V_if_eq (tgt := 55) d_Ad_movePlace_22 (by decide) (fun c2 => ?_) (fun c2 => ?_)
      · exact next s (by simp [plS, (bI_0 _).mp c2]) (by omega)
      · have c2' : Bn (p * 4 + q) = true := by simpa [bI_0] using c2
        refine V_lload d_Ad_movePlace_25 rfl ?_
        refine V_ldc2 d_Ad_movePlace_27 c_Ad_movePlace_27 ?_
        refine V_aload_n d_Ad_movePlace_30 rfl ?_
        refine V_iload_n d_Ad_movePlace_31 rfl ?_
        refine V_iload d_Ad_movePlace_32 rfl ?_
        refine V_iload_n d_Ad_movePlace_34 rfl ?_
        refine V_cV s_Ad_movePlace_35 (do_Pl_where (rd hL rfl rfl) (rd hL rfl rfl) hp (show q < 4 by omega) hx) (rd hL rfl rfl) rfl rfl (Nat.le_of_ble_eq_true rfl) ?_
        refine V_i2l d_Ad_movePlace_38 ?_
        refine V_lmul d_Ad_movePlace_39 ?_
        refine V_aload_n d_Ad_movePlace_40 rfl ?_
        refine V_iload d_Ad_movePlace_41 rfl ?_
        refine V_iload_n d_Ad_movePlace_43 rfl ?_
        refine V_cV s_Ad_movePlace_44 (do_Ad_moved (rd hL rfl rfl) (rd hL rfl rfl) q x (by omega) hx) (rd hL rfl rfl) rfl rfl (Nat.le_of_ble_eq_true rfl) ?_
        refine V_i2l d_Ad_movePlace_47 ?_
        refine V_lsub d_Ad_movePlace_48 ?_
        refine V_ladd d_Ad_movePlace_49 ?_
        refine V_lstore d_Ad_movePlace_50 (by decide) rfl ?_
        refine V_iinc1 d_Ad_movePlace_52 rfl (by decide) rfl ?_
        rw [nI_1]
        exact next (s.1 + (1000 * (wh ((p * 4 + q) * 2 + x)).toInt64 - (O (q * 2 + x)).toInt64), s.2 + 1) (by simp [plS, c2']) (by show s.2 + 1 ≤ q + 1; omega)
  refine V_lconst (v := 0) d_Ad_movePlace_0 (by decide) ?_
  refine V_lstore d_Ad_movePlace_1 (by decide) rfl ?_
  refine V_iconst (v := 0) d_Ad_movePlace_3 (by decide) ?_
  refine V_istore d_Ad_movePlace_4 (by decide) rfl ?_
  refine V_iconst (v := 0) d_Ad_movePlace_6 (by decide) ?_
  refine V_istore d_Ad_movePlace_7 (by decide) rfl ?_
  exact loop _ 4 0 (0, 0) (by omega) (Nat.le_refl _) rfl
def psR (Bn : Nat → Bool) (wh O : Nat → Int32) (n : Nat) (P : Nat → Int32) : Nat → Int32 := fori (fun p P => fori (fun x P => plR Bn wh O p x P) 2 0 P) n 0 P
theorem do_Ad_movePlaces (hL : 27 ≤ h.length) (hn : n ≤ 12) : Do l G k_Ad_movePlaces [.ref 13, .ref 6] (adH h n sp As Bn wh P O PB OB) rv (adH h n sp As Bn wh (psR Bn wh O n P) O PB OB) := by
  refine Do.of (by decide) (Nat.le_of_ble_eq_true rfl) kw_Ad_movePlaces ?_
  have inner : ∀ (H0 H9 : List Ce) (p : Nat), p < 12 → ∀ (m x : Nat) (P : Nat → Int32), x + m = 2 → V l G k_Ad_movePlaces H0 30 [(0, .ref 13), (1, .ref 6), (2, .int (nI p))] [] (adH h n sp As Bn wh (fori (fun x P => plR Bn wh O p x P) m x P) O PB OB) rv H9 → V l G k_Ad_movePlaces H0 12 [(0, .ref 13), (1, .ref 6), (2, .int (nI p)), (3, .int (nI x))] [] (adH h n sp As Bn wh P O PB OB) rv H9 := by
    intro H0 H9 p hp m
    induction m with
    | zero =>
      intro x P hx kk
      obtain rfl : x = 2 := by omega
      refine V_iload_n d_Ad_movePlaces_12 rfl ?_
      refine V_iconst (v := 2) d_Ad_movePlaces_13 (by decide) ?_
      refine V_icmp_ge (tgt := 30) d_Ad_movePlaces_14 (by decide) (fun _ => ?_) (fun c9 => absurd ((by decide : (2 : Int32) ≤ nI 2)) c9)
      exact V_keep [0, 1, 2] kk
    | succ m ih =>
      intro x P hx kk
      refine V_iload_n d_Ad_movePlaces_12 rfl ?_
      refine V_iconst (v := 2) d_Ad_movePlaces_13 (by decide) ?_
      refine V_icmp_ge (tgt := 30) d_Ad_movePlaces_14 (by decide) (fun c9 => absurd c9 ((nI_ge (b := 2) (by omega) (by decide) : ¬ (2 : Int32) ≤ nI x))) (fun _ => ?_)
      refine V_aload_n d_Ad_movePlaces_17 rfl ?_
      refine V_aload_n d_Ad_movePlaces_18 rfl ?_
      refine V_iload_n d_Ad_movePlaces_19 rfl ?_
      refine V_iload_n d_Ad_movePlaces_20 rfl ?_
      refine V_cV s_Ad_movePlaces_21 (do_Ad_movePlace hL p x hp (by omega)) (rd hL rfl rfl) rfl rfl (Nat.le_of_ble_eq_true rfl) ?_
      refine V_iinc1 d_Ad_movePlaces_24 rfl (by decide) rfl ?_
      refine V_goto (tgt := 12) d_Ad_movePlaces_27 (by decide) ?_
      rw [nI_1]
      exact ih (x + 1) _ (by omega) kk
  have outer : ∀ (H0 : List Ce) (m p : Nat) (P9 : Nat → Int32), p + m = n → psR Bn wh O n P = fori (fun p P => fori (fun x P => plR Bn wh O p x P) 2 0 P) m p P9 → V l G k_Ad_movePlaces H0 2 [(0, .ref 13), (1, .ref 6), (2, .int (nI p))] [] (adH h n sp As Bn wh P9 O PB OB) rv (adH h n sp As Bn wh (psR Bn wh O n P) O PB OB) := by
    intro H0 m
    induction m with
    | zero =>
      intro p P9 hp e
      obtain rfl : p = n := by omega
      rw [e]
      refine V_iload_n d_Ad_movePlaces_2 rfl ?_
      refine V_aload_n d_Ad_movePlaces_3 rfl ?_
      refine V_cV s_Ad_movePlaces_4 (do_Pl_number (rd hL rfl rfl)) (rd hL rfl rfl) rfl rfl (Nat.le_of_ble_eq_true rfl) ?_
      refine V_icmp_ge (tgt := 36) d_Ad_movePlaces_7 (by decide) (fun _ => ?_) (fun c9 => absurd ((nI_le (Nat.le_refl _) (by omega))) c9)
      exact V_vret d_Ad_movePlaces_36 rfl
    | succ m ih =>
      intro p P9 hp e
      refine V_iload_n d_Ad_movePlaces_2 rfl ?_
      refine V_aload_n d_Ad_movePlaces_3 rfl ?_
      refine V_cV s_Ad_movePlaces_4 (do_Pl_number (rd hL rfl rfl)) (rd hL rfl rfl) rfl rfl (Nat.le_of_ble_eq_true rfl) ?_
      refine V_icmp_ge (tgt := 36) d_Ad_movePlaces_7 (by decide) (fun c9 => absurd c9 ((nI_ge (by omega) (by omega) : ¬ nI n ≤ nI p))) (fun _ => ?_)
      refine V_iconst (v := 0) d_Ad_movePlaces_10 (by decide) ?_
      refine V_istore_n d_Ad_movePlaces_11 (by decide) rfl ?_
      refine inner H0 _ p (by omega) 2 0 P9 (by omega) ?_
      refine V_iinc1 d_Ad_movePlaces_30 rfl (by decide) rfl ?_
      refine V_goto (tgt := 2) d_Ad_movePlaces_33 (by decide) ?_
      rw [nI_1]
      exact ih (p + 1) _ (by omega) e
  refine V_iconst (v := 0) d_Ad_movePlaces_0 (by decide) ?_
  refine V_istore_n d_Ad_movePlaces_1 (by decide) rfl ?_
  exact outer _ n 0 P (by omega) rfl
def roO (As Bn : Nat → Bool) (wh P : Nat → Int32) (n : Nat) (O : Nat → Int32) : Nat → Int32 := fori (fun q O => fori (fun x O => mpR As Bn wh P O n q x) 2 0 O) 3 1 O
theorem do_Ad_doRound (hL : 27 ≤ h.length) (hn : n ≤ 12) : Do l G k_Ad_doRound [.ref 13, .ref 6] (adH h n sp As Bn wh P O PB OB) rv (adH h n sp As Bn wh (psR Bn wh (roO As Bn wh P n O) n P) (roO As Bn wh P n O) PB OB) := by
  refine Do.of (by decide) (Nat.le_of_ble_eq_true rfl) kw_Ad_doRound ?_
  have inner : ∀ (H0 H9 : List Ce) (q : Nat), q < 4 → ∀ (m x : Nat) (O : Nat → Int32), x + m = 2 → V l G k_Ad_doRound H0 27 [(0, .ref 13), (1, .ref 6), (2, .int (nI q))] [] (adH h n sp As Bn wh P (fori (fun x O => mpR As Bn wh P O n q x) m x O) PB OB) rv H9 → V l G k_Ad_doRound H0 9 [(0, .ref 13), (1, .ref 6), (2, .int (nI q)), (3, .int (nI x))] [] (adH h n sp As Bn wh P O PB OB) rv H9 := by
    intro H0 H9 q hq m
    induction m with
    | zero =>
      intro x O hx kk
      obtain rfl : x = 2 := by omega
      refine V_iload_n d_Ad_doRound_9 rfl ?_
      refine V_iconst (v := 2) d_Ad_doRound_10 (by decide) ?_
      refine V_icmp_ge (tgt := 27) d_Ad_doRound_11 (by decide) (fun _ => ?_) (fun c9 => absurd ((by decide : (2 : Int32) ≤ nI 2)) c9)
      exact V_keep [0, 1, 2] kk
    | succ m ih =>
      intro x O hx kk
      refine V_iload_n d_Ad_doRound_9 rfl ?_
      refine V_iconst (v := 2) d_Ad_doRound_10 (by decide) ?_
      refine V_icmp_ge (tgt := 27) d_Ad_doRound_11 (by decide) (fun c9 => absurd c9 ((nI_ge (b := 2) (by omega) (by decide) : ¬ (2 : Int32) ≤ nI x))) (fun _ => ?_)
      refine V_aload_n d_Ad_doRound_14 rfl ?_
      refine V_aload_n d_Ad_doRound_15 rfl ?_
      refine V_iload_n d_Ad_doRound_16 rfl ?_
      refine V_iload_n d_Ad_doRound_17 rfl ?_
      refine V_cV s_Ad_doRound_18 (do_Ad_movePhoto hL hn q x hq (by omega)) (rd hL rfl rfl) rfl rfl (Nat.le_of_ble_eq_true rfl) ?_
      refine V_iinc1 d_Ad_doRound_21 rfl (by decide) rfl ?_
      refine V_goto (tgt := 9) d_Ad_doRound_24 (by decide) ?_
      rw [nI_1]
      exact ih (x + 1) _ (by omega) kk
  have outer : ∀ (H0 : List Ce) (m q : Nat) (O9 : Nat → Int32), q + m = 4 → roO As Bn wh P n O = fori (fun q O => fori (fun x O => mpR As Bn wh P O n q x) 2 0 O) m q O9 → V l G k_Ad_doRound H0 2 [(0, .ref 13), (1, .ref 6), (2, .int (nI q))] [] (adH h n sp As Bn wh P O9 PB OB) rv (adH h n sp As Bn wh (psR Bn wh (roO As Bn wh P n O) n P) (roO As Bn wh P n O) PB OB) := by
    intro H0 m
    induction m with
    | zero =>
      intro q O9 hq e
      obtain rfl : q = 4 := by omega
      rw [e]
      refine V_iload_n d_Ad_doRound_2 rfl ?_
      refine V_iconst (v := 4) d_Ad_doRound_3 (by decide) ?_
      refine V_icmp_ge (tgt := 33) d_Ad_doRound_4 (by decide) (fun _ => ?_) (fun c9 => absurd ((by decide : (4 : Int32) ≤ nI 4)) c9)
      refine V_aload_n d_Ad_doRound_33 rfl ?_
      refine V_aload_n d_Ad_doRound_34 rfl ?_
      refine V_cV s_Ad_doRound_35 (do_Ad_movePlaces hL hn) (rd hL rfl rfl) rfl rfl (Nat.le_of_ble_eq_true rfl) ?_
      exact V_vret d_Ad_doRound_38 rfl
    | succ m ih =>
      intro q O9 hq e
      refine V_iload_n d_Ad_doRound_2 rfl ?_
      refine V_iconst (v := 4) d_Ad_doRound_3 (by decide) ?_
      refine V_icmp_ge (tgt := 33) d_Ad_doRound_4 (by decide) (fun c9 => absurd c9 ((nI_ge (b := 4) (by omega) (by decide) : ¬ (4 : Int32) ≤ nI q))) (fun _ => ?_)
      refine V_iconst (v := 0) d_Ad_doRound_7 (by decide) ?_
      refine V_istore_n d_Ad_doRound_8 (by decide) rfl ?_
      refine inner H0 _ q (by omega) 2 0 O9 (by omega) ?_
      refine V_iinc1 d_Ad_doRound_27 rfl (by decide) rfl ?_
      refine V_goto (tgt := 2) d_Ad_doRound_30 (by decide) ?_
      rw [nI_1]
      exact ih (q + 1) _ (by omega) e
  refine V_iconst (v := 1) d_Ad_doRound_0 (by decide) ?_
  refine V_istore_n d_Ad_doRound_1 (by decide) rfl ?_
  exact outer _ 3 1 O (by omega) rfl
def z8 (O : Nat → Int32) : Nat → Int32 := fori (fun i f => upd f i 0) 8 0 O
theorem do_Ad_begin (hL : 27 ≤ h.length) (hn : n ≤ 12) : Do l G k_Ad_begin [.ref 13, .ref 6] (adH h n sp As Bn wh P O PB OB) rv (adH h n sp As Bn wh (psR Bn wh (z8 O) n P) (z8 O) PB OB) := by
  refine Do.of (by decide) (Nat.le_of_ble_eq_true rfl) kw_Ad_begin ?_
  refine V_aload_n d_Ad_begin_0 rfl ?_
  refine V_gf g_Ad_begin_1 (rd hL rfl rfl) rfl ?_
  refine V_iconst (v := 0) d_Ad_begin_4 (by decide) ?_
  refine V_cS s_Ad_begin_5 (do_fill (a := 14) (rd hL rfl rfl) (by decide) 0) rfl rfl (Nat.le_of_ble_eq_true rfl) ?_
  refine V_hS rfl ?_
  refine V_aload_n d_Ad_begin_8 rfl ?_
  refine V_aload_n d_Ad_begin_9 rfl ?_
  refine V_cV s_Ad_begin_10 (do_Ad_movePlaces (O := z8 O) hL hn) (rd hL rfl rfl) rfl rfl (Nat.le_of_ble_eq_true rfl) ?_
  exact V_vret d_Ad_begin_13 rfl
theorem do_Ad_remember (hL : 27 ≤ h.length) : Do l G k_Ad_remember [.ref 13] (adH h n sp As Bn wh P O PB OB) rv (adH h n sp As Bn wh P O (va_cpy P PB 0 0 24) (va_cpy O OB 0 0 8)) := by
  refine Do.of (by decide) (Nat.le_of_ble_eq_true rfl) kw_Ad_remember ?_
  refine V_aload_n d_Ad_remember_0 rfl ?_
  refine V_gf g_Ad_remember_1 (rd hL rfl rfl) rfl ?_
  refine V_iconst (v := 0) d_Ad_remember_4 (by decide) ?_
  refine V_aload_n d_Ad_remember_5 rfl ?_
  refine V_gf g_Ad_remember_6 (rd hL rfl rfl) rfl ?_
  refine V_iconst (v := 0) d_Ad_remember_9 (by decide) ?_
  refine V_aload_n d_Ad_remember_10 rfl ?_
  refine V_gf g_Ad_remember_11 (rd hL rfl rfl) rfl ?_
  refine V_ialen d_Ad_remember_14 (rd hL rfl rfl) ?_
  refine V_cpy s_Ad_remember_15 (rd hL rfl rfl) (rd hL rfl rfl) (by decide) (by decide) (by decide) (by decide) (by decide) (Nat.le_of_ble_eq_true rfl) ?_
  refine V_hS rfl ?_
  refine V_aload_n d_Ad_remember_18 rfl ?_
  refine V_gf g_Ad_remember_19 (rd hL rfl rfl) rfl ?_
  refine V_iconst (v := 0) d_Ad_remember_22 (by decide) ?_
  refine V_aload_n d_Ad_remember_23 rfl ?_
  refine V_gf g_Ad_remember_24 (rd hL rfl rfl) rfl ?_
  refine V_iconst (v := 0) d_Ad_remember_27 (by decide) ?_
  refine V_aload_n d_Ad_remember_28 rfl ?_
  refine V_gf g_Ad_remember_29 (rd hL rfl rfl) rfl ?_
  refine V_ialen d_Ad_remember_32 (rd hL rfl rfl) ?_
  refine V_cpy s_Ad_remember_33 (rd hL rfl rfl) (rd hL rfl rfl) (by decide) (by decide) (by decide) (by decide) (by decide) (Nat.le_of_ble_eq_true rfl) ?_
  refine V_hS rfl ?_
  exact V_vret d_Ad_remember_36 rfl
theorem do_Ad_undo (hL : 27 ≤ h.length) : Do l G k_Ad_undo [.ref 13] (adH h n sp As Bn wh P O PB OB) rv (adH h n sp As Bn wh (va_cpy PB P 0 0 24) (va_cpy OB O 0 0 8) PB OB) := by
  refine Do.of (by decide) (Nat.le_of_ble_eq_true rfl) kw_Ad_undo ?_
  refine V_aload_n d_Ad_undo_0 rfl ?_
  refine V_gf g_Ad_undo_1 (rd hL rfl rfl) rfl ?_
  refine V_iconst (v := 0) d_Ad_undo_4 (by decide) ?_
  refine V_aload_n d_Ad_undo_5 rfl ?_
  refine V_gf g_Ad_undo_6 (rd hL rfl rfl) rfl ?_
  refine V_iconst (v := 0) d_Ad_undo_9 (by decide) ?_
  refine V_aload_n d_Ad_undo_10 rfl ?_
  refine V_gf g_Ad_undo_11 (rd hL rfl rfl) rfl ?_
  refine V_ialen d_Ad_undo_14 (rd hL rfl rfl) ?_
  refine V_cpy s_Ad_undo_15 (rd hL rfl rfl) (rd hL rfl rfl) (by decide) (by decide) (by decide) (by decide) (by decide) (Nat.le_of_ble_eq_true rfl) ?_
  refine V_hS rfl ?_
  refine V_aload_n d_Ad_undo_18 rfl ?_
  refine V_gf g_Ad_undo_19 (rd hL rfl rfl) rfl ?_
  refine V_iconst (v := 0) d_Ad_undo_22 (by decide) ?_
  refine V_aload_n d_Ad_undo_23 rfl ?_
  refine V_gf g_Ad_undo_24 (rd hL rfl rfl) rfl ?_
  refine V_iconst (v := 0) d_Ad_undo_27 (by decide) ?_
  refine V_aload_n d_Ad_undo_28 rfl ?_
  refine V_gf g_Ad_undo_29 (rd hL rfl rfl) rfl ?_
  refine V_ialen d_Ad_undo_32 (rd hL rfl rfl) ?_
  refine V_cpy s_Ad_undo_33 (rd hL rfl rfl) (rd hL rfl rfl) (by decide) (by decide) (by decide) (by decide) (by decide) (Nat.le_of_ble_eq_true rfl) ?_
  refine V_hS rfl ?_
  exact V_vret d_Ad_undo_36 rfl
abbrev Aj : Type := Nat × (Nat → Int32) × (Nat → Int32) × (Nat → Int32) × (Nat → Int32)
/-- rounds, as long as they are kept -/
def ajR (As Bn : Nat → Bool) (wh : Nat → Int32) (n : Nat) : Nat → Nat → Int64 → (Nat → Int32) → (Nat → Int32) → (Nat → Int32) → (Nat → Int32) → Aj
  | 0, k, _, P, O, PB, OB => (k, P, O, PB, OB)
  | m + 1, k, t, P, O, PB, OB => if 0 < lg_cmp (toR As Bn wh (psR Bn wh (roO As Bn wh P n O) n P) (roO As Bn wh P n O) n) t
      then (k, va_cpy (va_cpy P PB 0 0 24) (psR Bn wh (roO As Bn wh P n O) n P) 0 0 24, va_cpy (va_cpy O OB 0 0 8) (roO As Bn wh P n O) 0 0 8, va_cpy P PB 0 0 24, va_cpy O OB 0 0 8)
      else ajR As Bn wh n m (k + 1) (toR As Bn wh (psR Bn wh (roO As Bn wh P n O) n P) (roO As Bn wh P n O) n) (psR Bn wh (roO As Bn wh P n O) n P) (roO As Bn wh P n O) (va_cpy P PB 0 0 24) (va_cpy O OB 0 0 8)
theorem do_Ad_adjust (hL : 27 ≤ h.length) (hn : n ≤ 12) (rounds : Nat) (hr : rounds ≤ 20) (R : Aj) (hR : R = ajR As Bn wh n rounds 0 (toR As Bn wh (psR Bn wh (z8 O) n P) (z8 O) n) (psR Bn wh (z8 O) n P) (z8 O) PB OB) : Do l G k_Ad_adjust [.ref 13, .ref 6, .int (nI rounds)] (adH h n sp As Bn wh P O PB OB) (ri (nI R.1)) (adH h n sp As Bn wh R.2.1 R.2.2.1 R.2.2.2.1 R.2.2.2.2) := by
  refine Do.of (by decide) (Nat.le_of_ble_eq_true rfl) kw_Ad_adjust ?_
  have loop : ∀ (H0 : List Ce) (m k : Nat) (t : Int64) (P O PB OB : Nat → Int32), k + m = rounds → R = ajR As Bn wh n m k t P O PB OB → V l G k_Ad_adjust H0 14 [(0, .ref 13), (1, .ref 6), (2, .int (nI rounds)), (3, .long t), (5, .int (nI k))] [] (adH h n sp As Bn wh P O PB OB) (ri (nI R.1)) (adH h n sp As Bn wh R.2.1 R.2.2.1 R.2.2.2.1 R.2.2.2.2) := by
    intro H0 m
    induction m with
    | zero =>
      intro k t P O PB OB hk e
      obtain rfl : k = rounds := by omega
      rw [e]
      refine V_iload d_Ad_adjust_14 rfl ?_
      refine V_iload_n d_Ad_adjust_16 rfl ?_
      refine V_icmp_ge (tgt := 59) d_Ad_adjust_17 (by decide) (fun _ => ?_) (fun c9 => absurd ((nI_le (Nat.le_refl _) (by omega))) c9)
      refine V_iload_n d_Ad_adjust_59 rfl ?_
      exact V_iret d_Ad_adjust_60 rfl rfl
    | succ m ih =>
      intro k t P O PB OB hk e
      refine V_iload d_Ad_adjust_14 rfl ?_
      refine V_iload_n d_Ad_adjust_16 rfl ?_
      refine V_icmp_ge (tgt := 59) d_Ad_adjust_17 (by decide) (fun c9 => absurd c9 ((nI_ge (by omega) (by omega) : ¬ nI rounds ≤ nI k))) (fun _ => ?_)
      refine V_aload_n d_Ad_adjust_20 rfl ?_
      refine V_cV s_Ad_adjust_21 (do_Ad_remember hL) (rd hL rfl rfl) rfl rfl (Nat.le_of_ble_eq_true rfl) ?_
      refine V_aload_n d_Ad_adjust_24 rfl ?_
      refine V_aload_n d_Ad_adjust_25 rfl ?_
      refine V_cV s_Ad_adjust_26 (do_Ad_doRound hL hn) (rd hL rfl rfl) rfl rfl (Nat.le_of_ble_eq_true rfl) ?_
      refine V_aload_n d_Ad_adjust_29 rfl ?_
      refine V_aload_n d_Ad_adjust_30 rfl ?_
      refine V_cV s_Ad_adjust_31 (do_Ad_total hL hn) (rd hL rfl rfl) rfl rfl (Nat.le_of_ble_eq_true rfl) ?_
      refine V_lstore d_Ad_adjust_34 (by decide) rfl ?_
      refine V_lload d_Ad_adjust_36 rfl ?_
      refine V_lload_n d_Ad_adjust_38 rfl ?_
      refine V_lcmp d_Ad_adjust_39 ?_
      rw [ajR] at e
      refine V_if_le (tgt := 50) d_Ad_adjust_40 (by decide) (fun c1 => ?_) (fun c1 => ?_)
      · rw [if_neg (nlt_iff.mpr c1)] at e
        refine V_lload d_Ad_adjust_50 rfl ?_
        refine V_lstore_n d_Ad_adjust_52 (by decide) rfl ?_
        refine V_iinc1 d_Ad_adjust_53 rfl (by decide) rfl ?_
        refine V_goto (tgt := 14) d_Ad_adjust_56 (by decide) ?_
        rw [nI_1]
        refine V_keep [0, 1, 2, 3, 5] ?_
        exact ih (k + 1) _ _ _ _ _ (by omega) e
      · rw [if_pos (nle_iff.mp c1)] at e
        rw [e]
        refine V_aload_n d_Ad_adjust_43 rfl ?_
        refine V_cV s_Ad_adjust_44 (do_Ad_undo hL) (rd hL rfl rfl) rfl rfl (Nat.le_of_ble_eq_true rfl) ?_
        refine V_iload d_Ad_adjust_47 rfl ?_
        exact V_iret d_Ad_adjust_49 rfl rfl
  refine V_aload_n d_Ad_adjust_0 rfl ?_
  refine V_aload_n d_Ad_adjust_1 rfl ?_
  refine V_cV s_Ad_adjust_2 (do_Ad_begin hL hn) (rd hL rfl rfl) rfl rfl (Nat.le_of_ble_eq_true rfl) ?_
  refine V_aload_n d_Ad_adjust_5 rfl ?_
  refine V_aload_n d_Ad_adjust_6 rfl ?_
  refine V_cV s_Ad_adjust_7 (do_Ad_total hL hn) (rd hL rfl rfl) rfl rfl (Nat.le_of_ble_eq_true rfl) ?_
  refine V_lstore_n d_Ad_adjust_10 (by decide) rfl ?_
  refine V_iconst (v := 0) d_Ad_adjust_11 (by decide) ?_
  refine V_istore d_Ad_adjust_12 (by decide) rfl ?_
  exact loop _ rounds 0 _ _ _ _ _ (by omega) hR
end P17
end
section
section P18
variable {l : Launch} {G : Gb} {h : List Ce} {n : Nat} {P Ln : Nat → Int32} {F T : Nat → Nat}
theorem lgc0 (x y : Int64) : lg_cmp x y = 0 ↔ x = y := by
  unfold lg_cmp
  constructor
  · intro e
    split at e
    · exact absurd e (by decide)
    · split at e
      · assumption
      · exact absurd e (by decide)
  · rintro rfl
    have : ¬ x < x := by rw [Int64.lt_iff_toInt_lt]; omega
    simp [this]
/-- a loop downwards: k = n - 1 first, 0 last -/
def ford {σ : Type} (f : Nat → σ → σ) : Nat → σ → σ
  | 0, s => s
  | n + 1, s => ford f n (f n s)
abbrev NA (N : Nat) (F : Nat → Nat) : Ce := IA N (fun i => nI (F i))
def updN (F : Nat → Nat) (k v : Nat) : Nat → Nat := fun i => if i = k then v else F i
theorem updN_I (F : Nat → Nat) (k v : Nat) : upd (fun i => nI (F i)) k (nI v) = fun i => nI (updN F k v i) := by
  funext i
  simp only [upd, updN]
  by_cases e : i = k <;> simp [e]
abbrev LeO (n : Nat) : Ce := .inr (2, [.ref 19, .ref 20, .ref 21, .int (nI n)])
theorem do_Le_number (c_Le : h[17]? = some (LeO n)) : Do l G k_Le_number [.ref 18] h (ri (nI n)) h := by
  refine Do.of (by decide) (Nat.le_of_ble_eq_true rfl) kw_Le_number ?_
  refine V_aload_n d_Le_number_0 rfl ?_
  refine V_gf g_Le_number_1 c_Le rfl ?_
  exact V_iret d_Le_number_4 rfl rfl
abbrev leH (h : List Ce) (P : Nat → Int32) (n : Nat) (F T : Nat → Nat) (Ln : Nat → Int32) : List Ce := hS h [(12, AdO), (13, IA 24 P), (17, LeO n), (18, NA 10 F), (19, NA 10 T), (20, IA 10 Ln)]
theorem do_Le_add (hL : 27 ≤ h.length) (hn : n < 10) (a b : Nat) (k : Int32) : Do l G k_Le_add [.ref 18, .int (nI a), .int (nI b), .int k] (leH h P n F T Ln) (ri (nI (n + 1))) (leH h P (n + 1) (updN F n a) (updN T n b) (upd Ln n k)) := by
  refine Do.of (by decide) (Nat.le_of_ble_eq_true rfl) kw_Le_add ?_
  show V l G k_Le_add _ 0 _ _ _ _ (hS h [(12, AdO), (13, IA 24 P), (17, LeO (n + 1)), (18, IA 10 (fun i => nI (updN F n a i))), (19, IA 10 (fun i => nI (updN T n b i))), (20, IA 10 (upd Ln n k))])
  rw [← updN_I, ← updN_I]
  refine V_aload_n d_Le_add_0 rfl ?_
  refine V_gf g_Le_add_1 (rd hL rfl rfl) rfl ?_
  refine V_aload_n d_Le_add_4 rfl ?_
  refine V_gf g_Le_add_5 (rd hL rfl rfl) rfl ?_
  refine V_iload_n d_Le_add_8 rfl ?_
  refine V_iastN d_Le_add_9 (rd hL rfl rfl) (Ix.of hn (by decide)) ?_
  refine V_hS rfl ?_
  refine V_aload_n d_Le_add_10 rfl ?_
  refine V_gf g_Le_add_11 (rd hL rfl rfl) rfl ?_
  refine V_aload_n d_Le_add_14 rfl ?_
  refine V_gf g_Le_add_15 (rd hL rfl rfl) rfl ?_
  refine V_iload_n d_Le_add_18 rfl ?_
  refine V_iastN d_Le_add_19 (rd hL rfl rfl) (Ix.of hn (by decide)) ?_
  refine V_hS rfl ?_
  refine V_aload_n d_Le_add_20 rfl ?_
  refine V_gf g_Le_add_21 (rd hL rfl rfl) rfl ?_
  refine V_aload_n d_Le_add_24 rfl ?_
  refine V_gf g_Le_add_25 (rd hL rfl rfl) rfl ?_
  refine V_iload_n d_Le_add_28 rfl ?_
  refine V_iastN d_Le_add_29 (rd hL rfl rfl) (Ix.of hn (by decide)) ?_
  refine V_hS rfl ?_
  refine V_aload_n d_Le_add_30 rfl ?_
  refine V_dup d_Le_add_31 rfl ?_
  refine V_gf g_Le_add_32 (rd hL rfl rfl) rfl ?_
  refine V_iconst (v := 1) d_Le_add_35 (by decide) ?_
  refine V_iadd d_Le_add_36 ?_
  rw [nI_1]
  refine V_pf p_Le_add_37 (rd hL rfl rfl) (Nat.le_of_ble_eq_true rfl) rfl rfl ?_
  refine V_hS rfl ?_
  refine V_aload_n d_Le_add_40 rfl ?_
  refine V_gf g_Le_add_41 (rd hL rfl rfl) rfl ?_
  exact V_iret d_Le_add_44 rfl rfl
/-- the square root, rounded down, bit by bit -/
def rdS (v : Int64) (k : Nat) (r : Int64) : Int64 := if (0 : Int32) < lg_cmp ((r + (1 : Int64) <<< ((nI k).toInt64 &&& 63)) * (r + (1 : Int64) <<< ((nI k).toInt64 &&& 63))) v then r else r + (1 : Int64) <<< ((nI k).toInt64 &&& 63)
def rdR (v : Int64) : Int64 := ford (rdS v) 31 0
theorem nI_m1 (k : Nat) : nI k + Int32.ofInt (-1) = nI k - 1 := by
  rw [Int32.sub_eq_add_neg]; rfl
theorem do_Le_rootDown (v : Int64) : Do l G k_Le_rootDown [.long v] h (rl (rdR v)) h := by
  refine Do.of (by decide) (Nat.le_of_ble_eq_true rfl) kw_Le_rootDown ?_
  have loop : ∀ (m : Nat) (r : Int64), m ≤ 31 → rdR v = ford (rdS v) m r → V l G k_Le_rootDown h 6 [(0, .long v), (2, .long r), (4, .int (nI m - 1))] [] h (rl (rdR v)) h := by
    intro m
    induction m with
    | zero =>
      intro r hm e
      rw [e]
      refine V_iload d_Le_rootDown_6 rfl ?_
      refine V_if_lt (tgt := 38) d_Le_rootDown_8 (by decide) (fun _ => ?_) (fun c9 => absurd ((by decide : nI 0 - 1 < 0)) c9)
      refine V_lload_n d_Le_rootDown_38 rfl ?_
      exact V_lret d_Le_rootDown_39 rfl
    | succ m ih =>
      intro r hm e
      rw [nI_pred]
      have next : ∀ r' : Int64, r' = rdS v m r → V l G k_Le_rootDown h 32 [(0, .long v), (2, .long r'), (4, .int (nI m))] [] h (rl (rdR v)) h := by
        intro r' e'
        refine V_iinc d_Le_rootDown_32 rfl rfl (by decide) rfl ?_
        refine V_goto (tgt := 6) d_Le_rootDown_35 (by decide) ?_
        rw [nI_m1]
        exact ih r' (by omega) (by rw [e']; exact e)
      refine V_iload d_Le_rootDown_6 rfl ?_
      refine V_if_lt (tgt := 38) d_Le_rootDown_8 (by decide) (fun c9 => absurd c9 ((nI_pos (by omega) : ¬ nI m < 0))) (fun _ => ?_)
      refine V_lload_n d_Le_rootDown_11 rfl ?_
      refine V_lconst (v := 1) d_Le_rootDown_12 (by decide) ?_
      refine V_iload d_Le_rootDown_13 rfl ?_
      refine V_lshl d_Le_rootDown_15 rfl ?_
      refine V_ladd d_Le_rootDown_16 ?_
      refine V_lstore d_Le_rootDown_17 (by decide) rfl ?_
      refine V_lload d_Le_rootDown_19 rfl ?_
      refine V_lload d_Le_rootDown_21 rfl ?_
      refine V_lmul d_Le_rootDown_23 ?_
      refine V_lload_n d_Le_rootDown_24 rfl ?_
      refine V_lcmp d_Le_rootDown_25 ?_
      refine V_if_gt (tgt := 32) d_Le_rootDown_26 (by decide) (fun c1 => ?_) (fun c1 => ?_)
      · refine V_keep [0, 2, 4] ?_
        exact next r (by unfold rdS; rw [if_pos c1])
      · refine V_lload d_Le_rootDown_29 rfl ?_
        refine V_lstore_n d_Le_rootDown_31 (by decide) rfl ?_
        refine V_keep [0, 2, 4] ?_
        exact next _ (by unfold rdS; rw [if_neg c1])
  refine V_lconst (v := 0) d_Le_rootDown_0 (by decide) ?_
  refine V_lstore_n d_Le_rootDown_1 (by decide) rfl ?_
  refine V_bipush (v := 30) d_Le_rootDown_2 (by decide) ?_
  refine V_istore d_Le_rootDown_4 (by decide) rfl ?_
  exact loop 31 0 (by omega) rfl
/-- the greatest common divisor, in at most so many steps -/
def cdR : Nat → Int64 → Int64 → Int64
  | 0, a, _ => a
  | m + 1, a, b => if b = 0 then a else cdR m b (a - a / b * b)
theorem do_Le_cd (a0 b0 : Int64) : Do l G k_Le_commonDivisor [.long a0, .long b0] h (rl (cdR 100 a0 b0)) h := by
  refine Do.of (by decide) (Nat.le_of_ble_eq_true rfl) kw_Le_commonDivisor ?_
  have loop : ∀ (m k : Nat) (a b : Int64), k + m = 100 → cdR 100 a0 b0 = cdR m a b → V l G k_Le_commonDivisor h 9 [(0, .long a0), (2, .long b0), (4, .long a), (6, .long b), (8, .int (nI k))] [] h (rl (cdR 100 a0 b0)) h := by
    intro m
    induction m with
    | zero =>
      intro k a b hk e
      obtain rfl : k = 100 := by omega
      rw [e]
      refine V_iload d_Le_commonDivisor_9 rfl ?_
      refine V_bipush (v := 100) d_Le_commonDivisor_11 (by decide) ?_
      refine V_icmp_ge (tgt := 44) d_Le_commonDivisor_13 (by decide) (fun _ => ?_) (fun c9 => absurd ((by decide : (100 : Int32) ≤ nI 100)) c9)
      refine V_lload d_Le_commonDivisor_44 rfl ?_
      exact V_lret d_Le_commonDivisor_46 rfl
    | succ m ih =>
      intro k a b hk e
      refine V_iload d_Le_commonDivisor_9 rfl ?_
      refine V_bipush (v := 100) d_Le_commonDivisor_11 (by decide) ?_
      refine V_icmp_ge (tgt := 44) d_Le_commonDivisor_13 (by decide) (fun c9 => absurd c9 ((nI_ge (b := 100) (by omega) (by decide) : ¬ (100 : Int32) ≤ nI k))) (fun _ => ?_)
      refine V_lload d_Le_commonDivisor_16 rfl ?_
      refine V_lconst (v := 0) d_Le_commonDivisor_18 (by decide) ?_
      refine V_lcmp d_Le_commonDivisor_19 ?_
      refine V_if_eq (tgt := 44) d_Le_commonDivisor_20 (by decide) (fun c1 => ?_) (fun c1 => ?_)
      · have c1 := (lgc0 _ _).mp c1
        rw [e, cdR, if_pos c1]
        refine V_lload d_Le_commonDivisor_44 rfl ?_
        exact V_lret d_Le_commonDivisor_46 rfl
      · have c1 : ¬ b = 0 := fun q => c1 ((lgc0 _ _).mpr q)
        have e : cdR 100 a0 b0 = cdR m b (a - a / b * b) := by
          rw [e]
          show (if b = 0 then a else cdR m b (a - a / b * b)) = _
          rw [if_neg c1]
        refine V_lload d_Le_commonDivisor_23 rfl ?_
        refine V_lload d_Le_commonDivisor_25 rfl ?_
        refine V_lrem d_Le_commonDivisor_27 (c1) ?_
        refine V_lstore d_Le_commonDivisor_28 (by decide) rfl ?_
        refine V_lload d_Le_commonDivisor_30 rfl ?_
        refine V_lstore d_Le_commonDivisor_32 (by decide) rfl ?_
        refine V_lload d_Le_commonDivisor_34 rfl ?_
        refine V_lstore d_Le_commonDivisor_36 (by decide) rfl ?_
        refine V_iinc1 d_Le_commonDivisor_38 rfl (by decide) rfl ?_
        refine V_goto (tgt := 9) d_Le_commonDivisor_41 (by decide) ?_
        rw [nI_1]
        refine V_keep [0, 2, 4, 6, 8] ?_
        exact ih (k + 1) _ _ (by omega) e
  refine V_lload_n d_Le_commonDivisor_0 rfl ?_
  refine V_lstore d_Le_commonDivisor_1 (by decide) rfl ?_
  refine V_lload_n d_Le_commonDivisor_3 rfl ?_
  refine V_lstore d_Le_commonDivisor_4 (by decide) rfl ?_
  refine V_iconst (v := 0) d_Le_commonDivisor_6 (by decide) ?_
  refine V_istore d_Le_commonDivisor_7 (by decide) rfl ?_
  exact loop 100 0 a0 b0 (by omega) rfl
def dsR (P : Nat → Int32) (a b : Nat) : Int64 := rdR (((P (a * 2 + 0)).toInt64 - (P (b * 2 + 0)).toInt64) * ((P (a * 2 + 0)).toInt64 - (P (b * 2 + 0)).toInt64) + ((P (a * 2 + 1)).toInt64 - (P (b * 2 + 1)).toInt64) * ((P (a * 2 + 1)).toInt64 - (P (b * 2 + 1)).toInt64))
theorem do_Le_distance (c_Ad : h[12]? = some AdO) (a_Ad_positions : h[13]? = some (IA 24 P)) (a b : Nat) (ha : a < 12) (hb : b < 12) : Do l G k_Le_distance [.ref 13, .int (nI a), .int (nI b)] h (rl (dsR P a b)) h := by
  refine Do.of (by decide) (Nat.le_of_ble_eq_true rfl) kw_Le_distance ?_
  refine V_aload_n d_Le_distance_0 rfl ?_
  refine V_iload_n d_Le_distance_1 rfl ?_
  refine V_iconst (v := 0) d_Le_distance_2 (by decide) ?_
  refine V_cV s_Le_distance_3 (do_Ad_position c_Ad a_Ad_positions a 0 ha (by decide)) c_Ad rfl rfl (Nat.le_of_ble_eq_true rfl) ?_
  refine V_i2l d_Le_distance_6 ?_
  refine V_aload_n d_Le_distance_7 rfl ?_
  refine V_iload_n d_Le_distance_8 rfl ?_
  refine V_iconst (v := 0) d_Le_distance_9 (by decide) ?_
  refine V_cV s_Le_distance_10 (do_Ad_position c_Ad a_Ad_positions b 0 hb (by decide)) c_Ad rfl rfl (Nat.le_of_ble_eq_true rfl) ?_
  refine V_i2l d_Le_distance_13 ?_
  refine V_lsub d_Le_distance_14 ?_
  refine V_lstore_n d_Le_distance_15 (by decide) rfl ?_
  refine V_aload_n d_Le_distance_16 rfl ?_
  refine V_iload_n d_Le_distance_17 rfl ?_
  refine V_iconst (v := 1) d_Le_distance_18 (by decide) ?_
  refine V_cV s_Le_distance_19 (do_Ad_position c_Ad a_Ad_positions a 1 ha (by decide)) c_Ad rfl rfl (Nat.le_of_ble_eq_true rfl) ?_
  refine V_i2l d_Le_distance_22 ?_
  refine V_aload_n d_Le_distance_23 rfl ?_
  refine V_iload_n d_Le_distance_24 rfl ?_
  refine V_iconst (v := 1) d_Le_distance_25 (by decide) ?_
  refine V_cV s_Le_distance_26 (do_Ad_position c_Ad a_Ad_positions b 1 hb (by decide)) c_Ad rfl rfl (Nat.le_of_ble_eq_true rfl) ?_
  refine V_i2l d_Le_distance_29 ?_
  refine V_lsub d_Le_distance_30 ?_
  refine V_lstore d_Le_distance_31 (by decide) rfl ?_
  refine V_lload_n d_Le_distance_33 rfl ?_
  refine V_lload_n d_Le_distance_34 rfl ?_
  refine V_lmul d_Le_distance_35 ?_
  refine V_lload d_Le_distance_36 rfl ?_
  refine V_lload d_Le_distance_38 rfl ?_
  refine V_lmul d_Le_distance_40 ?_
  refine V_ladd d_Le_distance_41 ?_
  refine V_cS s_Le_distance_42 (do_Le_rootDown _) rfl rfl (Nat.le_of_ble_eq_true rfl) ?_
  exact V_lret d_Le_distance_45 rfl
theorem fori_s {σ : Type} (f : Nat → σ → σ) (n i : Nat) (s : σ) : fori f (n + 1) i s = fori f n (i + 1) (f i s) := rfl
theorem ford_s {σ : Type} (f : Nat → σ → σ) (n : Nat) (s : σ) : ford f (n + 1) s = ford f n (f n s) := rfl
abbrev Fr : Type := Int64 × Int64
def frS (P Ln : Nat → Int32) (F T : Nat → Nat) (i : Nat) (s : Fr) : Fr := (s.1 + (Ln i).toInt64 * dsR P (F i) (T i), s.2 + dsR P (F i) (T i) * dsR P (F i) (T i))
def frR (P Ln : Nat → Int32) (F T : Nat → Nat) (n : Nat) : Fr := fori (frS P Ln F T) n 0 (0, 0)
def frA (s : Fr) (part : Int32) : Int64 := if cdR 100 s.1 s.2 = 0 then (if part = 0 then 0 else 1) else (if part = 0 then s.1 else s.2) / cdR 100 s.1 s.2
theorem do_Le_fraction (hL : 27 ≤ h.length) (hn : n ≤ 10) (hF : ∀ i, i < n → F i < 12 ∧ T i < 12) (part : Int32) : Do l G k_Le_fraction [.ref 18, .ref 13, .int part] (leH h P n F T Ln) (rl (frA (frR P Ln F T n) part)) (leH h P n F T Ln) := by
  refine Do.of (by decide) (Nat.le_of_ble_eq_true rfl) kw_Le_fraction ?_
  have loop : ∀ (H0 : List Ce) (m i : Nat) (s : Fr), i + m = n → frR P Ln F T n = fori (frS P Ln F T) m i s → V l G k_Le_fraction H0 8 [(0, .ref 18), (1, .ref 13), (2, .int part), (3, .long s.1), (5, .long s.2), (7, .int (nI i))] [] (leH h P n F T Ln) (rl (frA (frR P Ln F T n) part)) (leH h P n F T Ln) := by
    intro H0 m
    induction m with
    | zero =>
      intro i s hi e
      obtain rfl : i = n := by omega
      rw [show frR P Ln F T i = s from e]
      refine V_iload d_Le_fraction_8 rfl ?_
      refine V_aload_n d_Le_fraction_10 rfl ?_
      refine V_gf g_Le_fraction_11 (rd hL rfl rfl) rfl ?_
      refine V_icmp_ge (tgt := 67) d_Le_fraction_14 (by decide) (fun _ => ?_) (fun c9 => absurd ((nI_le (Nat.le_refl _) (by omega))) c9)
      have hcd := do_Le_cd (l := l) (G := G) (h := leH h P i F T Ln) s.1 s.2
      rw [frA]
      revert hcd
      generalize cdR 100 s.1 s.2 = c
      intro hcd
      refine V_lload_n d_Le_fraction_67 rfl ?_
      refine V_lload d_Le_fraction_68 rfl ?_
      refine V_cS s_Le_fraction_70 (hcd) rfl rfl (Nat.le_of_ble_eq_true rfl) ?_
      refine V_lstore d_Le_fraction_73 (by decide) rfl ?_
      refine V_lload d_Le_fraction_75 rfl ?_
      refine V_lconst (v := 0) d_Le_fraction_77 (by decide) ?_
      refine V_lcmp d_Le_fraction_78 ?_
      refine V_if_ne (tgt := 92) d_Le_fraction_79 (by decide) (fun c1 => ?_) (fun c1 => ?_)
      · have c1 : ¬ c = 0 := fun q => c1 ((lgc0 _ _).mpr q)
        rw [if_neg c1]
        refine V_iload_n d_Le_fraction_92 rfl ?_
        refine V_if_ne (tgt := 100) d_Le_fraction_93 (by decide) (fun c2 => ?_) (fun c2 => ?_)
        · rw [if_neg c2]
          refine V_lload d_Le_fraction_100 rfl ?_
          refine V_lload d_Le_fraction_102 rfl ?_
          refine V_ldiv d_Le_fraction_104 (c1) ?_
          exact V_lret d_Le_fraction_105 rfl
        · rw [if_pos c2]
          refine V_lload_n d_Le_fraction_96 rfl ?_
          refine V_goto (tgt := 102) d_Le_fraction_97 (by decide) ?_
          refine V_lload d_Le_fraction_102 rfl ?_
          refine V_ldiv d_Le_fraction_104 (c1) ?_
          exact V_lret d_Le_fraction_105 rfl
      · have c1 := (lgc0 _ _).mp c1
        rw [if_pos c1]
        refine V_iload_n d_Le_fraction_82 rfl ?_
        refine V_if_ne (tgt := 90) d_Le_fraction_83 (by decide) (fun c2 => ?_) (fun c2 => ?_)
        · rw [if_neg c2]
          refine V_lconst (v := 1) d_Le_fraction_90 (by decide) ?_
          exact V_lret d_Le_fraction_91 rfl
        · rw [if_pos c2]
          refine V_lconst (v := 0) d_Le_fraction_86 (by decide) ?_
          refine V_goto (tgt := 91) d_Le_fraction_87 (by decide) ?_
          exact V_lret d_Le_fraction_91 rfl
    | succ m ih =>
      intro i s hi e
      refine V_iload d_Le_fraction_8 rfl ?_
      refine V_aload_n d_Le_fraction_10 rfl ?_
      refine V_gf g_Le_fraction_11 (rd hL rfl rfl) rfl ?_
      refine V_icmp_ge (tgt := 67) d_Le_fraction_14 (by decide) (fun c9 => absurd c9 ((nI_ge (by omega) (by omega) : ¬ nI n ≤ nI i))) (fun _ => ?_)
      have hds := do_Le_distance (l := l) (G := G) (h := leH h P n F T Ln) (rd hL rfl rfl) (rd hL rfl rfl) (F i) (T i) (hF i (by omega)).1 (hF i (by omega)).2
      have es : ∀ d, dsR P (F i) (T i) = d → frS P Ln F T i s = (s.1 + (Ln i).toInt64 * d, s.2 + d * d) := fun d q => by rw [← q]; rfl
      revert hds es
      generalize dsR P (F i) (T i) = d
      intro hds es
      refine V_aload_n d_Le_fraction_17 rfl ?_
      refine V_aload_n d_Le_fraction_18 rfl ?_
      refine V_gf g_Le_fraction_19 (rd hL rfl rfl) rfl ?_
      refine V_iload d_Le_fraction_22 rfl ?_
      refine V_ialdN d_Le_fraction_24 (rd hL rfl rfl) (Ix.of (show i < 10 by omega) (by decide)) ?_
      refine V_aload_n d_Le_fraction_25 rfl ?_
      refine V_gf g_Le_fraction_26 (rd hL rfl rfl) rfl ?_
      refine V_iload d_Le_fraction_29 rfl ?_
      refine V_ialdN d_Le_fraction_31 (rd hL rfl rfl) (Ix.of (show i < 10 by omega) (by decide)) ?_
      refine V_cS s_Le_fraction_32 (hds) rfl rfl (Nat.le_of_ble_eq_true rfl) ?_
      refine V_lstore d_Le_fraction_35 (by decide) rfl ?_
      refine V_lload_n d_Le_fraction_37 rfl ?_
      refine V_aload_n d_Le_fraction_38 rfl ?_
      refine V_gf g_Le_fraction_39 (rd hL rfl rfl) rfl ?_
      refine V_iload d_Le_fraction_42 rfl ?_
      refine V_ialdN d_Le_fraction_44 (rd hL rfl rfl) (Ix.of (show i < 10 by omega) (by decide)) ?_
      refine V_i2l d_Le_fraction_45 ?_
      refine V_lload d_Le_fraction_46 rfl ?_
      refine V_lmul d_Le_fraction_48 ?_
      refine V_ladd d_Le_fraction_49 ?_
      refine V_lstore_n d_Le_fraction_50 (by decide) rfl ?_
      refine V_lload d_Le_fraction_51 rfl ?_
      refine V_lload d_Le_fraction_53 rfl ?_
      refine V_lload d_Le_fraction_55 rfl ?_
      refine V_lmul d_Le_fraction_57 ?_
      refine V_ladd d_Le_fraction_58 ?_
      refine V_lstore d_Le_fraction_59 (by decide) rfl ?_
      refine V_iinc1 d_Le_fraction_61 rfl (by decide) rfl ?_
      refine V_goto (tgt := 8) d_Le_fraction_64 (by decide) ?_
      rw [nI_1]
      refine V_keep [0, 1, 2, 3, 5, 7] ?_
      refine ih (i + 1) (s.1 + (Ln i).toInt64 * d, s.2 + d * d) (by omega) ?_
      rw [fori_s, es d rfl] at e
      exact e
  refine V_lconst (v := 0) d_Le_fraction_0 (by decide) ?_
  refine V_lstore_n d_Le_fraction_1 (by decide) rfl ?_
  refine V_lconst (v := 0) d_Le_fraction_2 (by decide) ?_
  refine V_lstore d_Le_fraction_3 (by decide) rfl ?_
  refine V_iconst (v := 0) d_Le_fraction_5 (by decide) ?_
  refine V_istore d_Le_fraction_6 (by decide) rfl ?_
  exact loop _ n 0 (0, 0) (by omega) rfl
end P18
end
section
section P19
variable {l : Launch} {G : Gb} {h : List Ce} {w ht : Nat} {f C Df : Nat → Int32} {Dp : Nat → Nat} {op : Nat → Bool} {qu : Nat → Int32} {qd : Int32} {ra : Bool}
abbrev ReO (w ht : Nat) (qd : Int32) (ra : Bool) : Ce := .inr (5, [.int (nI w), .int (nI ht), .ref 23, .ref 24, .ref 25, .int (nI (w + 2)), .ref 26, .ref 27, .int qd, .int (bI ra)])
theorem do_Re_isRaised (c_Re : h[21]? = some (ReO w ht qd ra)) : Do l G k_Re_isRaised [.ref 22] h (rz ra) h := by
  refine Do.of (by decide) (Nat.le_of_ble_eq_true rfl) kw_Re_isRaised ?_
  refine V_aload_n d_Re_isRaised_0 rfl ?_
  refine V_gf g_Re_isRaised_1 c_Re rfl ?_
  exact V_iret d_Re_isRaised_4 rfl (by first | rfl | exact bI_n _)
theorem cell_lt {x y : Nat} (hx : x < w) (hy : y < ht) : y * w + x < w * ht := by
  have h1 : (y + 1) * w ≤ ht * w := Nat.mul_le_mul_right _ (by omega)
  have h2 : (y + 1) * w = y * w + w := by rw [Nat.add_mul, Nat.one_mul]
  have h3 : ht * w = w * ht := Nat.mul_comm _ _
  omega
theorem wh_lt (hw : w ≤ 20) (hht : ht ≤ 20) : w * ht < 2 ^ 31 := by
  have : w * ht ≤ 20 * 20 := Nat.mul_le_mul hw hht
  omega
theorem do_Re_depthOf (c_Re : h[21]? = some (ReO w ht qd ra)) (a_Re_depths : h[22]? = some (NA (w * ht) Dp)) (hw : w ≤ 20) (hht : ht ≤ 20) (x y : Nat) (hx : x < w) (hy : y < ht) : Do l G k_Re_depthOf [.ref 22, .int (nI x), .int (nI y)] h (ri (nI (Dp (y * w + x)))) h := by
  refine Do.of (by decide) (Nat.le_of_ble_eq_true rfl) kw_Re_depthOf ?_
  refine V_aload_n d_Re_depthOf_0 rfl ?_
  refine V_gf g_Re_depthOf_1 c_Re rfl ?_
  refine V_iload_n d_Re_depthOf_4 rfl ?_
  refine V_aload_n d_Re_depthOf_5 rfl ?_
  refine V_gf g_Re_depthOf_6 c_Re rfl ?_
  refine V_imul d_Re_depthOf_9 ?_
  refine V_iload_n d_Re_depthOf_10 rfl ?_
  refine V_iadd d_Re_depthOf_11 ?_
  refine V_ialdN d_Re_depthOf_12 a_Re_depths (⟨by rw [pk_mul, nI_add], cell_lt hx hy, wh_lt hw hht⟩) ?_
  exact V_iret d_Re_depthOf_13 rfl rfl
def dAt (x : Nat) : Nat := if x + 1 < 6 then x + 1 else 6
theorem do_Re_depthsAt (x : Nat) (hx : x < 1000) : Do l G k_Re_depthsAt [.int (nI x)] h (ri (nI (dAt x))) h := by
  refine Do.of (by decide) (Nat.le_of_ble_eq_true rfl) kw_Re_depthsAt ?_
  have e : (if nI x + 1 < 6 then nI x + 1 else 6) = nI (dAt x) := by
    rw [nI_1, show (6 : Int32) = nI 6 from rfl]
    unfold dAt
    by_cases q : x + 1 < 6
    · rw [if_pos q, if_pos ((nI_ltI (by omega) (by decide)).mpr q)]
    · rw [if_neg q, if_neg (fun z => q ((nI_ltI (by omega) (by decide)).mp z))]
  rw [← e]
  refine V_bipush (v := 6) d_Re_depthsAt_0 (by decide) ?_
  refine V_iload_n d_Re_depthsAt_2 rfl ?_
  refine V_iconst (v := 1) d_Re_depthsAt_3 (by decide) ?_
  refine V_iadd d_Re_depthsAt_4 ?_
  refine V_min s_Re_depthsAt_5 (Nat.le_of_ble_eq_true rfl) ?_
  exact V_iret d_Re_depthsAt_8 rfl rfl
/-- a depth's difference -/
def dfR (f : Nat → Int32) (w ht a b x y d : Nat) : Int32 := ab (f (px w ht a x y) - f (px w ht b (x - d) y))
theorem do_Re_difference (c_Ph : h[1]? = some (PhO w ht)) (a_Ph_values : h[2]? = some (IA (4 * ht * w) f)) (hw : w ≤ 20) (hht : ht ≤ 20) (a b x y d : Nat) (ha : a < 4) (hb : b < 4) (hx : x < w) (hy : y < ht) (hd : d ≤ x) : Do l G k_Re_difference [.ref 2, .int (nI a), .int (nI b), .int (nI x), .int (nI y), .int (nI d)] h (ri (dfR f w ht a b x y d)) h := by
  refine Do.of (by decide) (Nat.le_of_ble_eq_true rfl) kw_Re_difference ?_
  have hN : 4 * ht * w < 2 ^ 31 := by
    have : 4 * ht * w ≤ 4 * 20 * 20 := Nat.mul_le_mul (Nat.mul_le_mul_left _ hht) hw
    omega
  refine V_aload_n d_Re_difference_0 rfl ?_
  refine V_iload_n d_Re_difference_1 rfl ?_
  refine V_iload_n d_Re_difference_2 rfl ?_
  refine V_iload d_Re_difference_3 rfl ?_
  refine V_cV s_Re_difference_5 (do_Ph_value c_Ph a_Ph_values a x y (px_lt ha hx hy) hN) c_Ph rfl rfl (Nat.le_of_ble_eq_true rfl) ?_
  refine V_aload_n d_Re_difference_8 rfl ?_
  refine V_iload_n d_Re_difference_9 rfl ?_
  refine V_iload_n d_Re_difference_10 rfl ?_
  refine V_iload d_Re_difference_11 rfl ?_
  refine V_isub d_Re_difference_13 ?_
  rw [pk_sub hd]
  refine V_iload d_Re_difference_14 rfl ?_
  refine V_cV s_Re_difference_16 (do_Ph_value c_Ph a_Ph_values b (x - d) y (px_lt hb (by omega) hy) hN) c_Ph rfl rfl (Nat.le_of_ble_eq_true rfl) ?_
  refine V_isub d_Re_difference_19 ?_
  refine V_abs s_Re_difference_20 (Nat.le_of_ble_eq_true rfl) ?_
  exact V_iret d_Re_difference_23 rfl rfl
/-- the cost of the cell ahead, with the step to it -/
def caR (C : Nat → Int32) (pen : Int32) (x e d : Nat) : Int32 := C ((x - 1) * 6 + e) + pen * ab (nI d - nI e)
theorem do_Re_costAhead (c_Re : h[21]? = some (ReO w ht qd ra)) (a_Re_costs : h[24]? = some (IA (w * 6) C)) (hw : w ≤ 20) (x e d : Nat) (pen : Int32) (hx : 1 ≤ x ∧ x ≤ w) (he : e < 6) : Do l G k_Re_costAhead [.ref 22, .int (nI x), .int (nI e), .int (nI d), .int pen] h (ri (caR C pen x e d)) h := by
  refine Do.of (by decide) (Nat.le_of_ble_eq_true rfl) kw_Re_costAhead ?_
  refine V_aload_n d_Re_costAhead_0 rfl ?_
  refine V_gf g_Re_costAhead_1 c_Re rfl ?_
  refine V_iload_n d_Re_costAhead_4 rfl ?_
  refine V_iconst (v := 1) d_Re_costAhead_5 (by decide) ?_
  refine V_isub d_Re_costAhead_6 ?_
  rw [nIm1 hx.1]
  refine V_bipush (v := 6) d_Re_costAhead_7 (by decide) ?_
  refine V_imul d_Re_costAhead_9 ?_
  refine V_iload_n d_Re_costAhead_10 rfl ?_
  refine V_iadd d_Re_costAhead_11 ?_
  refine V_ialdN d_Re_costAhead_12 a_Re_costs (⟨by rw [show (6 : Int32) = nI 6 from rfl, pk_mul, nI_add], by omega, by omega⟩) ?_
  refine V_iload d_Re_costAhead_13 rfl ?_
  refine V_iload_n d_Re_costAhead_15 rfl ?_
  refine V_iload_n d_Re_costAhead_16 rfl ?_
  refine V_isub d_Re_costAhead_17 ?_
  refine V_abs s_Re_costAhead_18 (Nat.le_of_ble_eq_true rfl) ?_
  refine V_imul d_Re_costAhead_21 ?_
  refine V_iadd d_Re_costAhead_22 ?_
  exact V_iret d_Re_costAhead_23 rfl rfl
abbrev Ba : Type := Nat × Int32
def baS (C : Nat → Int32) (pen : Int32) (x d e : Nat) (s : Ba) : Ba := if caR C pen x e d < s.2 then (e, caR C pen x e d) else s
def baR (C : Nat → Int32) (pen : Int32) (x d : Nat) : Ba := fori (baS C pen x d) (dAt (x - 1) - 1) 1 (0, caR C pen x 0 d)
theorem do_Re_bestAhead (c_Re : h[21]? = some (ReO w ht qd ra)) (a_Re_costs : h[24]? = some (IA (w * 6) C)) (hw : w ≤ 20) (x d : Nat) (pen : Int32) (hx : 1 ≤ x ∧ x ≤ w) : Do l G k_Re_bestAhead [.ref 22, .int (nI x), .int (nI d), .int pen] h (ri (nI (baR C pen x d).1)) h := by
  refine Do.of (by decide) (Nat.le_of_ble_eq_true rfl) kw_Re_bestAhead ?_
  have hdA : dAt (x - 1) ≤ 6 ∧ 1 ≤ dAt (x - 1) := by unfold dAt; split <;> omega
  have loop : ∀ (m e : Nat) (s : Ba), e + m = dAt (x - 1) → baR C pen x d = fori (baS C pen x d) m e s → V l G k_Re_bestAhead h 16 [(0, .ref 22), (1, .int (nI x)), (2, .int (nI d)), (3, .int pen), (4, .int (nI s.1)), (5, .int s.2), (6, .int (nI e))] [] h (ri (nI (baR C pen x d).1)) h := by
    intro m
    induction m with
    | zero =>
      intro e s he e2
      rw [show baR C pen x d = s from e2]
      refine V_iload d_Re_bestAhead_16 rfl ?_
      refine V_iload_n d_Re_bestAhead_18 rfl ?_
      refine V_iconst (v := 1) d_Re_bestAhead_19 (by decide) ?_
      refine V_isub d_Re_bestAhead_20 ?_
      rw [nIm1 hx.1]
      refine V_cS s_Re_bestAhead_21 (do_Re_depthsAt (x - 1) (by omega)) rfl rfl (Nat.le_of_ble_eq_true rfl) ?_
      refine V_icmp_ge (tgt := 59) d_Re_bestAhead_24 (by decide) (fun _ => ?_) (fun c9 => absurd ((nI_le (by omega) (by omega) : nI (dAt (x - 1)) ≤ nI e)) c9)
      refine V_iload d_Re_bestAhead_59 rfl ?_
      exact V_iret d_Re_bestAhead_61 rfl rfl
    | succ m ih =>
      intro e s he e2
      rw [fori_s] at e2
      have next : ∀ s' : Ba, s' = baS C pen x d e s → V l G k_Re_bestAhead h 53 [(0, .ref 22), (1, .int (nI x)), (2, .int (nI d)), (3, .int pen), (4, .int (nI s'.1)), (5, .int s'.2), (6, .int (nI e))] [] h (ri (nI (baR C pen x d).1)) h := by
        intro s' e'
        refine V_iinc1 d_Re_bestAhead_53 rfl (by decide) rfl ?_
        refine V_goto (tgt := 16) d_Re_bestAhead_56 (by decide) ?_
        rw [nI_1]
        exact ih (e + 1) s' (by omega) (by rw [e']; exact e2)
      refine V_iload d_Re_bestAhead_16 rfl ?_
      refine V_iload_n d_Re_bestAhead_18 rfl ?_
      refine V_iconst (v := 1) d_Re_bestAhead_19 (by decide) ?_
      refine V_isub d_Re_bestAhead_20 ?_
      rw [nIm1 hx.1]
      refine V_cS s_Re_bestAhead_21 (do_Re_depthsAt (x - 1) (by omega)) rfl rfl (Nat.le_of_ble_eq_true rfl) ?_
      refine V_icmp_ge (tgt := 59) d_Re_bestAhead_24 (by decide) (fun c9 => absurd c9 ((nI_ge (by omega) (by omega) : ¬ nI (dAt (x - 1)) ≤ nI e))) (fun _ => ?_)
      refine V_aload_n d_Re_bestAhead_27 rfl ?_
      refine V_iload_n d_Re_bestAhead_28 rfl ?_
      refine V_iload d_Re_bestAhead_29 rfl ?_
      refine V_iload_n d_Re_bestAhead_31 rfl ?_
      refine V_iload_n d_Re_bestAhead_32 rfl ?_
      refine V_cV s_Re_bestAhead_33 (do_Re_costAhead c_Re a_Re_costs hw x e d pen hx (by omega)) c_Re rfl rfl (Nat.le_of_ble_eq_true rfl) ?_
      refine V_istore d_Re_bestAhead_36 (by decide) rfl ?_
      refine V_iload d_Re_bestAhead_38 rfl ?_
      refine V_iload d_Re_bestAhead_40 rfl ?_
      refine V_icmp_ge (tgt := 53) d_Re_bestAhead_42 (by decide) (fun c1 => ?_) (fun c1 => ?_)
      · refine V_keep [0, 1, 2, 3, 4, 5, 6] ?_
        exact next s (by unfold baS; rw [if_neg (nlt_iff.mpr c1)])
      · refine V_iload d_Re_bestAhead_45 rfl ?_
        refine V_istore d_Re_bestAhead_47 (by decide) rfl ?_
        refine V_iload d_Re_bestAhead_49 rfl ?_
        refine V_istore d_Re_bestAhead_51 (by decide) rfl ?_
        refine V_keep [0, 1, 2, 3, 4, 5, 6] ?_
        exact next (e, caR C pen x e d) (by unfold baS; rw [if_pos (nle_iff.mp c1)])
  refine V_iconst (v := 0) d_Re_bestAhead_0 (by decide) ?_
  refine V_istore d_Re_bestAhead_1 (by decide) rfl ?_
  refine V_aload_n d_Re_bestAhead_3 rfl ?_
  refine V_iload_n d_Re_bestAhead_4 rfl ?_
  refine V_iconst (v := 0) d_Re_bestAhead_5 (by decide) ?_
  refine V_iload_n d_Re_bestAhead_6 rfl ?_
  refine V_iload_n d_Re_bestAhead_7 rfl ?_
  refine V_cV s_Re_bestAhead_8 (do_Re_costAhead c_Re a_Re_costs hw x 0 d pen hx (by decide)) c_Re rfl rfl (Nat.le_of_ble_eq_true rfl) ?_
  refine V_istore d_Re_bestAhead_11 (by decide) rfl ?_
  refine V_iconst (v := 1) d_Re_bestAhead_13 (by decide) ?_
  refine V_istore d_Re_bestAhead_14 (by decide) rfl ?_
  exact loop (dAt (x - 1) - 1) 1 (0, caR C pen x 0 d) (by omega) rfl
theorem baR_lt (C : Nat → Int32) (pen : Int32) (x d : Nat) : ∀ (m e : Nat) (s : Ba), s.1 < e → (fori (baS C pen x d) m e s).1 < e + m
  | 0, _, _, hs => hs
  | m + 1, e, s, hs => by
    rw [fori_s]
    have h1 : (baS C pen x d e s).1 < e + 1 := by
      unfold baS
      split
      · exact Nat.lt_succ_self e
      · omega
    have := baR_lt C pen x d m (e + 1) (baS C pen x d e s) h1
    omega
theorem ba_lt (C : Nat → Int32) (pen : Int32) (x d : Nat) (hx : 1 ≤ x) : (baR C pen x d).1 < 6 ∧ (baR C pen x d).1 < x := by
  have hdA : dAt (x - 1) ≤ 6 ∧ 1 ≤ dAt (x - 1) ∧ dAt (x - 1) ≤ x := by unfold dAt; split <;> omega
  have := baR_lt C pen x d (dAt (x - 1) - 1) 1 (0, caR C pen x 0 d) (show 0 < 1 by decide)
  unfold baR
  omega
/-- one cost -/
def fcS (f : Nat → Int32) (w ht a b y : Nat) (pen : Int32) (x d : Nat) (C : Nat → Int32) : Nat → Int32 := upd C (x * 6 + d) (if 0 < x then dfR f w ht a b x y d + caR C pen x (baR C pen x d).1 d else dfR f w ht a b x y d)
def fcR (f : Nat → Int32) (w ht a b y : Nat) (pen : Int32) (C : Nat → Int32) : Nat → Int32 := fori (fun x C => fori (fun d C => fcS f w ht a b y pen x d C) (dAt x) 0 C) w 0 C
abbrev reH (h : List Ce) (w ht : Nat) (f : Nat → Int32) (qd : Int32) (ra : Bool) (Dp : Nat → Nat) (Df C : Nat → Int32) (op : Nat → Bool) (qu : Nat → Int32) : List Ce := hS h [(1, PhO w ht), (2, IA (4 * ht * w) f), (21, ReO w ht qd ra), (22, NA (w * ht) Dp), (23, IA (w * ht) Df), (24, IA (w * 6) C), (25, ZA ((w + 2) * (ht + 2)) op), (26, IA (w * ht) qu)]
theorem do_Re_fillCosts (hL : 27 ≤ h.length) (hw : w ≤ 20) (hht : ht ≤ 20) (a b y : Nat) (pen : Int32) (ha : a < 4) (hb : b < 4) (hy : y < ht) : Do l G k_Re_fillCosts [.ref 22, .ref 2, .int (nI a), .int (nI b), .int (nI y), .int pen] (reH h w ht f qd ra Dp Df C op qu) rv (reH h w ht f qd ra Dp Df (fcR f w ht a b y pen C) op qu) := by
  refine Do.of (by decide) (Nat.le_of_ble_eq_true rfl) kw_Re_fillCosts ?_
  have inner : ∀ (H0 H9 : List Ce) (x : Nat), x < w → ∀ (m d : Nat) (C : Nat → Int32), d + m = dAt x → V l G k_Re_fillCosts H0 94 [(0, .ref 22), (1, .ref 2), (2, .int (nI a)), (3, .int (nI b)), (4, .int (nI y)), (5, .int pen), (6, .int (nI x))] [] (reH h w ht f qd ra Dp Df (fori (fun d C => fcS f w ht a b y pen x d C) m d C) op qu) rv H9 → V l G k_Re_fillCosts H0 15 [(0, .ref 22), (1, .ref 2), (2, .int (nI a)), (3, .int (nI b)), (4, .int (nI y)), (5, .int pen), (6, .int (nI x)), (7, .int (nI d))] [] (reH h w ht f qd ra Dp Df C op qu) rv H9 := by
    intro H0 H9 x hx m
    have hdA : dAt x ≤ 6 ∧ dAt x ≤ x + 1 := by unfold dAt; split <;> omega
    induction m with
    | zero =>
      intro d C hd kk
      refine V_iload d_Re_fillCosts_15 rfl ?_
      refine V_iload d_Re_fillCosts_17 rfl ?_
      refine V_cS s_Re_fillCosts_19 (do_Re_depthsAt x (by omega)) rfl rfl (Nat.le_of_ble_eq_true rfl) ?_
      refine V_icmp_ge (tgt := 94) d_Re_fillCosts_22 (by decide) (fun _ => ?_) (fun c9 => absurd ((nI_le (by omega) (by omega) : nI (dAt x) ≤ nI d)) c9)
      exact V_keep [0, 1, 2, 3, 4, 5, 6] kk
    | succ m ih =>
      intro d C hd kk
      rw [fori_s] at kk
      refine V_iload d_Re_fillCosts_15 rfl ?_
      refine V_iload d_Re_fillCosts_17 rfl ?_
      refine V_cS s_Re_fillCosts_19 (do_Re_depthsAt x (by omega)) rfl rfl (Nat.le_of_ble_eq_true rfl) ?_
      refine V_icmp_ge (tgt := 94) d_Re_fillCosts_22 (by decide) (fun c9 => absurd c9 ((nI_ge (by omega) (by omega) : ¬ nI (dAt x) ≤ nI d))) (fun _ => ?_)
      refine V_aload_n d_Re_fillCosts_25 rfl ?_
      refine V_iload_n d_Re_fillCosts_26 rfl ?_
      refine V_iload_n d_Re_fillCosts_27 rfl ?_
      refine V_iload d_Re_fillCosts_28 rfl ?_
      refine V_iload d_Re_fillCosts_30 rfl ?_
      refine V_iload d_Re_fillCosts_32 rfl ?_
      refine V_cS s_Re_fillCosts_34 (do_Re_difference (rd hL rfl rfl) (rd hL rfl rfl) hw hht a b x y d ha hb hx hy (by omega)) rfl rfl (Nat.le_of_ble_eq_true rfl) ?_
      refine V_istore d_Re_fillCosts_37 (by decide) rfl ?_
      refine V_iload d_Re_fillCosts_39 rfl ?_
      have next : ∀ c : Int32, c = (if 0 < x then dfR f w ht a b x y d + caR C pen x (baR C pen x d).1 d else dfR f w ht a b x y d) → V l G k_Re_fillCosts H0 73 [(0, .ref 22), (1, .ref 2), (2, .int (nI a)), (3, .int (nI b)), (4, .int (nI y)), (5, .int pen), (6, .int (nI x)), (7, .int (nI d)), (8, .int c)] [] (reH h w ht f qd ra Dp Df C op qu) rv H9 := by
        intro c hc
        have es : fcS f w ht a b y pen x d C = upd C (x * 6 + d) c := by rw [hc]; rfl
        rw [es] at kk
        refine V_aload_n d_Re_fillCosts_73 rfl ?_
        refine V_gf g_Re_fillCosts_74 (rd hL rfl rfl) rfl ?_
        refine V_iload d_Re_fillCosts_77 rfl ?_
        refine V_bipush (v := 6) d_Re_fillCosts_79 (by decide) ?_
        refine V_imul d_Re_fillCosts_81 ?_
        refine V_iload d_Re_fillCosts_82 rfl ?_
        refine V_iadd d_Re_fillCosts_84 ?_
        refine V_iload d_Re_fillCosts_85 rfl ?_
        refine V_iastN d_Re_fillCosts_87 (rd hL rfl rfl) (⟨by rw [show (6 : Int32) = nI 6 from rfl, pk_mul, nI_add], show x * 6 + d < w * 6 by omega, by omega⟩) ?_
        refine V_hS rfl ?_
        refine V_iinc1 d_Re_fillCosts_88 rfl (by decide) rfl ?_
        refine V_goto (tgt := 15) d_Re_fillCosts_91 (by decide) ?_
        rw [nI_1]
        refine V_keep [0, 1, 2, 3, 4, 5, 6, 7] ?_
        exact ih (d + 1) _ (by omega) kk
      rcases Nat.eq_zero_or_pos x with q | q
      · refine V_if_le (tgt := 73) d_Re_fillCosts_41 (by decide) (fun _ => ?_) (fun c9 => absurd ((by subst q; decide : nI x ≤ 0)) c9)
        exact next _ (by rw [if_neg (by omega)])
      · refine V_if_le (tgt := 73) d_Re_fillCosts_41 (by decide) (fun c9 => absurd c9 ((nI_nle q (by omega) : ¬ nI x ≤ 0))) (fun _ => ?_)
        refine V_aload_n d_Re_fillCosts_44 rfl ?_
        refine V_iload d_Re_fillCosts_45 rfl ?_
        refine V_iload d_Re_fillCosts_47 rfl ?_
        refine V_iload d_Re_fillCosts_49 rfl ?_
        refine V_cV s_Re_fillCosts_51 (do_Re_bestAhead (rd hL rfl rfl) (rd hL rfl rfl) hw x d pen ⟨q, by omega⟩) (rd hL rfl rfl) rfl rfl (Nat.le_of_ble_eq_true rfl) ?_
        refine V_istore d_Re_fillCosts_54 (by decide) rfl ?_
        refine V_iload d_Re_fillCosts_56 rfl ?_
        refine V_aload_n d_Re_fillCosts_58 rfl ?_
        refine V_iload d_Re_fillCosts_59 rfl ?_
        refine V_iload d_Re_fillCosts_61 rfl ?_
        refine V_iload d_Re_fillCosts_63 rfl ?_
        refine V_iload d_Re_fillCosts_65 rfl ?_
        refine V_cV s_Re_fillCosts_67 (do_Re_costAhead (rd hL rfl rfl) (rd hL rfl rfl) hw x (baR C pen x d).1 d pen ⟨q, by omega⟩ (ba_lt C pen x d q).1) (rd hL rfl rfl) rfl rfl (Nat.le_of_ble_eq_true rfl) ?_
        refine V_iadd d_Re_fillCosts_70 ?_
        refine V_istore d_Re_fillCosts_71 (by decide) rfl ?_
        refine V_keep [0, 1, 2, 3, 4, 5, 6, 7, 8] ?_
        exact next _ (by rw [if_pos q])
  have outer : ∀ (H0 : List Ce) (m x : Nat) (C9 : Nat → Int32), x + m = w → fcR f w ht a b y pen C = fori (fun x C => fori (fun d C => fcS f w ht a b y pen x d C) (dAt x) 0 C) m x C9 → V l G k_Re_fillCosts H0 3 [(0, .ref 22), (1, .ref 2), (2, .int (nI a)), (3, .int (nI b)), (4, .int (nI y)), (5, .int pen), (6, .int (nI x))] [] (reH h w ht f qd ra Dp Df C9 op qu) rv (reH h w ht f qd ra Dp Df (fcR f w ht a b y pen C) op qu) := by
    intro H0 m
    induction m with
    | zero =>
      intro x C9 hx e
      obtain rfl : x = w := by omega
      rw [e]
      refine V_iload d_Re_fillCosts_3 rfl ?_
      refine V_aload_n d_Re_fillCosts_5 rfl ?_
      refine V_gf g_Re_fillCosts_6 (rd hL rfl rfl) rfl ?_
      refine V_icmp_ge (tgt := 100) d_Re_fillCosts_9 (by decide) (fun _ => ?_) (fun c9 => absurd ((nI_le (Nat.le_refl _) (by omega))) c9)
      exact V_vret d_Re_fillCosts_100 rfl
    | succ m ih =>
      intro x C9 hx e
      rw [fori_s] at e
      refine V_iload d_Re_fillCosts_3 rfl ?_
      refine V_aload_n d_Re_fillCosts_5 rfl ?_
      refine V_gf g_Re_fillCosts_6 (rd hL rfl rfl) rfl ?_
      refine V_icmp_ge (tgt := 100) d_Re_fillCosts_9 (by decide) (fun c9 => absurd c9 ((nI_ge (by omega) (by omega) : ¬ nI w ≤ nI x))) (fun _ => ?_)
      refine V_iconst (v := 0) d_Re_fillCosts_12 (by decide) ?_
      refine V_istore d_Re_fillCosts_13 (by decide) rfl ?_
      refine inner H0 _ x (by omega) (dAt x) 0 C9 (by omega) ?_
      refine V_iinc1 d_Re_fillCosts_94 rfl (by decide) rfl ?_
      refine V_goto (tgt := 3) d_Re_fillCosts_97 (by decide) ?_
      rw [nI_1]
      exact ih (x + 1) _ (by omega) e
  refine V_iconst (v := 0) d_Re_fillCosts_0 (by decide) ?_
  refine V_istore d_Re_fillCosts_1 (by decide) rfl ?_
  exact outer _ w 0 C (by omega) rfl
end P19
end
section
section P20
variable {l : Launch} {G : Gb} {h : List Ce} {w ht : Nat} {f C Df : Nat → Int32} {Dp : Nat → Nat} {op : Nat → Bool} {qu : Nat → Int32} {qd : Int32} {ra : Bool}
abbrev Tb : Type := Nat × (Nat → Nat) × (Nat → Int32)
/-- the way back: one cell -/
def tbS (f C : Nat → Int32) (w ht a b y : Nat) (pen : Int32) (x : Nat) (s : Tb) : Tb := (if 0 < x then (baR C pen x s.1).1 else s.1, updN s.2.1 (y * w + x) s.1, upd s.2.2 (y * w + x) (dfR f w ht a b x y s.1))
def tbR (f C : Nat → Int32) (w ht a b y : Nat) (pen : Int32) (Dp : Nat → Nat) (Df : Nat → Int32) : Tb := ford (tbS f C w ht a b y pen) w ((baR C 0 w 0).1, Dp, Df)
def tbC (C : Nat → Int32) (w : Nat) : Int32 := caR C 0 w (baR C 0 w 0).1 0
theorem do_Re_traceBack (hL : 27 ≤ h.length) (hw : 6 ≤ w ∧ w ≤ 20) (hht : ht ≤ 20) (a b y : Nat) (pen : Int32) (ha : a < 4) (hb : b < 4) (hy : y < ht) : Do l G k_Re_traceBack [.ref 22, .ref 2, .int (nI a), .int (nI b), .int (nI y), .int pen] (reH h w ht f qd ra Dp Df C op qu) (ri (tbC C w)) (reH h w ht f qd ra (tbR f C w ht a b y pen Dp Df).2.1 (tbR f C w ht a b y pen Dp Df).2.2 C op qu) := by
  refine Do.of (by decide) (Nat.le_of_ble_eq_true rfl) kw_Re_traceBack ?_
  have loop : ∀ (H0 : List Ce) (m : Nat) (s : Tb), m ≤ w → (0 < m → s.1 < m) → s.1 < 6 → tbR f C w ht a b y pen Dp Df = ford (tbS f C w ht a b y pen) m s → V l G k_Re_traceBack H0 34 [(0, .ref 22), (1, .ref 2), (2, .int (nI a)), (3, .int (nI b)), (4, .int (nI y)), (5, .int pen), (6, .int (nI s.1)), (7, .int (tbC C w)), (8, .int (nI m - 1))] [] (reH h w ht f qd ra s.2.1 s.2.2 C op qu) (ri (tbC C w)) (reH h w ht f qd ra (tbR f C w ht a b y pen Dp Df).2.1 (tbR f C w ht a b y pen Dp Df).2.2 C op qu) := by
    intro H0 m
    induction m with
    | zero =>
      intro s hm h1 h2 e
      rw [show tbR f C w ht a b y pen Dp Df = s from e]
      refine V_iload d_Re_traceBack_34 rfl ?_
      refine V_if_lt (tgt := 106) d_Re_traceBack_36 (by decide) (fun _ => ?_) (fun c9 => absurd ((by decide : nI 0 - 1 < 0)) c9)
      refine V_iload d_Re_traceBack_106 rfl ?_
      exact V_iret d_Re_traceBack_108 rfl rfl
    | succ m ih =>
      intro s hm h1 h2 e
      rw [ford_s] at e
      rw [nI_pred]
      have hs1 : s.1 < m + 1 := h1 (by omega)
      have hcl : y * w + m < w * ht := cell_lt (by omega) hy
      have hN := wh_lt hw.2 hht
      refine V_iload d_Re_traceBack_34 rfl ?_
      refine V_if_lt (tgt := 106) d_Re_traceBack_36 (by decide) (fun c9 => absurd c9 ((nI_pos (by omega) : ¬ nI m < 0))) (fun _ => ?_)
      refine V_aload_n d_Re_traceBack_39 rfl ?_
      refine V_gf g_Re_traceBack_40 (rd hL rfl rfl) rfl ?_
      refine V_iload d_Re_traceBack_43 rfl ?_
      refine V_aload_n d_Re_traceBack_45 rfl ?_
      refine V_gf g_Re_traceBack_46 (rd hL rfl rfl) rfl ?_
      refine V_imul d_Re_traceBack_49 ?_
      refine V_iload d_Re_traceBack_50 rfl ?_
      refine V_iadd d_Re_traceBack_52 ?_
      refine V_iload d_Re_traceBack_53 rfl ?_
      refine V_iastN d_Re_traceBack_55 (rd hL rfl rfl) (⟨by rw [pk_mul, nI_add], hcl, hN⟩) ?_
      refine V_hS rfl ?_
      refine V_aload_n d_Re_traceBack_56 rfl ?_
      refine V_gf g_Re_traceBack_57 (rd hL rfl rfl) rfl ?_
      refine V_iload d_Re_traceBack_60 rfl ?_
      refine V_aload_n d_Re_traceBack_62 rfl ?_
      refine V_gf g_Re_traceBack_63 (rd hL rfl rfl) rfl ?_
      refine V_imul d_Re_traceBack_66 ?_
      refine V_iload d_Re_traceBack_67 rfl ?_
      refine V_iadd d_Re_traceBack_69 ?_
      refine V_aload_n d_Re_traceBack_70 rfl ?_
      refine V_iload_n d_Re_traceBack_71 rfl ?_
      refine V_iload_n d_Re_traceBack_72 rfl ?_
      refine V_iload d_Re_traceBack_73 rfl ?_
      refine V_iload d_Re_traceBack_75 rfl ?_
      refine V_iload d_Re_traceBack_77 rfl ?_
      refine V_eqh (h2 := reH h w ht f qd ra (updN s.2.1 (y * w + m) s.1) s.2.2 C op qu) (by rw [updN_I]; rfl) ?_
      refine V_cS s_Re_traceBack_79 (do_Re_difference (rd hL rfl rfl) (rd hL rfl rfl) hw.2 hht a b m y s.1 ha hb (by omega) hy (by omega)) rfl rfl (Nat.le_of_ble_eq_true rfl) ?_
      refine V_iastN d_Re_traceBack_82 (rd hL rfl rfl) (⟨by rw [pk_mul, nI_add], hcl, hN⟩) ?_
      refine V_hS rfl ?_
      refine V_iload d_Re_traceBack_83 rfl ?_
      have next : ∀ s' : Tb, s' = tbS f C w ht a b y pen m s → (0 < m → s'.1 < m) → s'.1 < 6 → V l G k_Re_traceBack H0 100 [(0, .ref 22), (1, .ref 2), (2, .int (nI a)), (3, .int (nI b)), (4, .int (nI y)), (5, .int pen), (6, .int (nI s'.1)), (7, .int (tbC C w)), (8, .int (nI m))] [] (reH h w ht f qd ra s'.2.1 s'.2.2 C op qu) (ri (tbC C w)) (reH h w ht f qd ra (tbR f C w ht a b y pen Dp Df).2.1 (tbR f C w ht a b y pen Dp Df).2.2 C op qu) := by
        intro s' e' h3 h4
        refine V_iinc d_Re_traceBack_100 rfl rfl (by decide) rfl ?_
        refine V_goto (tgt := 34) d_Re_traceBack_103 (by decide) ?_
        rw [nI_m1]
        exact ih s' (by omega) h3 h4 (by rw [e']; exact e)
      rcases Nat.eq_zero_or_pos m with q | q
      · refine V_if_le (tgt := 100) d_Re_traceBack_85 (by decide) (fun _ => ?_) (fun c9 => absurd ((by subst q; decide : nI m ≤ 0)) c9)
        exact next (s.1, updN s.2.1 (y * w + m) s.1, upd s.2.2 (y * w + m) (dfR f w ht a b m y s.1)) (by unfold tbS; rw [if_neg (by omega)]) (by omega) h2
      · refine V_if_le (tgt := 100) d_Re_traceBack_85 (by decide) (fun c9 => absurd c9 ((nI_nle q (by omega) : ¬ nI m ≤ 0))) (fun _ => ?_)
        have hb2 := ba_lt C pen m s.1 q
        refine V_aload_n d_Re_traceBack_88 rfl ?_
        refine V_iload d_Re_traceBack_89 rfl ?_
        refine V_iload d_Re_traceBack_91 rfl ?_
        refine V_iload d_Re_traceBack_93 rfl ?_
        refine V_cV s_Re_traceBack_95 (do_Re_bestAhead (rd hL rfl rfl) (rd hL rfl rfl) hw.2 m s.1 pen ⟨q, by omega⟩) (rd hL rfl rfl) rfl rfl (Nat.le_of_ble_eq_true rfl) ?_
        refine V_istore d_Re_traceBack_98 (by decide) rfl ?_
        exact next ((baR C pen m s.1).1, updN s.2.1 (y * w + m) s.1, upd s.2.2 (y * w + m) (dfR f w ht a b m y s.1)) (by unfold tbS; rw [if_pos q]) (fun _ => hb2.2) hb2.1
  have hb0 := ba_lt C 0 w 0 (by omega)
  refine V_aload_n d_Re_traceBack_0 rfl ?_
  refine V_aload_n d_Re_traceBack_1 rfl ?_
  refine V_gf g_Re_traceBack_2 (rd hL rfl rfl) rfl ?_
  refine V_iconst (v := 0) d_Re_traceBack_5 (by decide) ?_
  refine V_iconst (v := 0) d_Re_traceBack_6 (by decide) ?_
  refine V_cV s_Re_traceBack_7 (do_Re_bestAhead (rd hL rfl rfl) (rd hL rfl rfl) hw.2 w 0 0 ⟨by omega, by omega⟩) (rd hL rfl rfl) rfl rfl (Nat.le_of_ble_eq_true rfl) ?_
  refine V_istore d_Re_traceBack_10 (by decide) rfl ?_
  refine V_aload_n d_Re_traceBack_12 rfl ?_
  refine V_aload_n d_Re_traceBack_13 rfl ?_
  refine V_gf g_Re_traceBack_14 (rd hL rfl rfl) rfl ?_
  refine V_iload d_Re_traceBack_17 rfl ?_
  refine V_iconst (v := 0) d_Re_traceBack_19 (by decide) ?_
  refine V_iconst (v := 0) d_Re_traceBack_20 (by decide) ?_
  refine V_cV s_Re_traceBack_21 (do_Re_costAhead (rd hL rfl rfl) (rd hL rfl rfl) hw.2 w (baR C 0 w 0).1 0 0 ⟨by omega, by omega⟩ hb0.1) (rd hL rfl rfl) rfl rfl (Nat.le_of_ble_eq_true rfl) ?_
  refine V_istore d_Re_traceBack_24 (by decide) rfl ?_
  refine V_aload_n d_Re_traceBack_26 rfl ?_
  refine V_gf g_Re_traceBack_27 (rd hL rfl rfl) rfl ?_
  refine V_iconst (v := 1) d_Re_traceBack_30 (by decide) ?_
  refine V_isub d_Re_traceBack_31 ?_
  refine V_istore d_Re_traceBack_32 (by decide) rfl ?_
  exact loop _ w ((baR C 0 w 0).1, Dp, Df) (Nat.le_refl _) (fun _ => hb0.2) hb0.1 rfl
abbrev Ra : Type := Int32 × (Nat → Nat) × (Nat → Int32) × (Nat → Int32)
/-- one row: sum, depths, differences, costs -/
def raS (f : Nat → Int32) (w ht a b : Nat) (pen : Int32) (y : Nat) (s : Ra) : Ra := (s.1 + tbC (fcR f w ht a b y pen s.2.2.2) w, (tbR f (fcR f w ht a b y pen s.2.2.2) w ht a b y pen s.2.1 s.2.2.1).2.1, (tbR f (fcR f w ht a b y pen s.2.2.2) w ht a b y pen s.2.1 s.2.2.1).2.2, fcR f w ht a b y pen s.2.2.2)
def raR (f : Nat → Int32) (w ht a b : Nat) (pen : Int32) (Dp : Nat → Nat) (Df C : Nat → Int32) : Ra := fori (raS f w ht a b pen) ht 0 (0, Dp, Df, C)
theorem do_Re_raise (hL : 27 ≤ h.length) (hw : 6 ≤ w ∧ w ≤ 20) (hht : ht ≤ 20) (a b : Nat) (pen : Int32) (ha : a < 4) (hb : b < 4) (R : Ra) (hR : R = raR f w ht a b pen Dp Df C) : Do l G k_Re_raise [.ref 22, .ref 2, .int (nI a), .int (nI b), .int pen] (reH h w ht f qd ra Dp Df C op qu) (ri R.1) (reH h w ht f qd true R.2.1 R.2.2.1 R.2.2.2 op qu) := by
  refine Do.of (by decide) (Nat.le_of_ble_eq_true rfl) kw_Re_raise ?_
  have loop : ∀ (H0 : List Ce) (m y : Nat) (s : Ra), y + m = ht → R = fori (raS f w ht a b pen) m y s → V l G k_Re_raise H0 6 [(0, .ref 22), (1, .ref 2), (2, .int (nI a)), (3, .int (nI b)), (4, .int pen), (5, .int s.1), (6, .int (nI y))] [] (reH h w ht f qd ra s.2.1 s.2.2.1 s.2.2.2 op qu) (ri R.1) (reH h w ht f qd true R.2.1 R.2.2.1 R.2.2.2 op qu) := by
    intro H0 m
    induction m with
    | zero =>
      intro y s hy e
      obtain rfl : y = ht := by omega
      rw [show R = s from e]
      refine V_iload d_Re_raise_6 rfl ?_
      refine V_aload_n d_Re_raise_8 rfl ?_
      refine V_gf g_Re_raise_9 (rd hL rfl rfl) rfl ?_
      refine V_icmp_ge (tgt := 48) d_Re_raise_12 (by decide) (fun _ => ?_) (fun c9 => absurd ((nI_le (Nat.le_refl _) (by omega))) c9)
      refine V_aload_n d_Re_raise_48 rfl ?_
      refine V_iconst (v := 1) d_Re_raise_49 (by decide) ?_
      refine V_pf p_Re_raise_50 (rd hL rfl rfl) (Nat.le_of_ble_eq_true rfl) rfl rfl ?_
      refine V_hS rfl ?_
      refine V_iload d_Re_raise_53 rfl ?_
      exact V_iret d_Re_raise_55 rfl rfl
    | succ m ih =>
      intro y s hy e
      rw [fori_s] at e
      refine V_iload d_Re_raise_6 rfl ?_
      refine V_aload_n d_Re_raise_8 rfl ?_
      refine V_gf g_Re_raise_9 (rd hL rfl rfl) rfl ?_
      refine V_icmp_ge (tgt := 48) d_Re_raise_12 (by decide) (fun c9 => absurd c9 ((nI_ge (by omega) (by omega) : ¬ nI ht ≤ nI y))) (fun _ => ?_)
      refine V_aload_n d_Re_raise_15 rfl ?_
      refine V_aload_n d_Re_raise_16 rfl ?_
      refine V_iload_n d_Re_raise_17 rfl ?_
      refine V_iload_n d_Re_raise_18 rfl ?_
      refine V_iload d_Re_raise_19 rfl ?_
      refine V_iload d_Re_raise_21 rfl ?_
      refine V_cV s_Re_raise_23 (do_Re_fillCosts hL hw.2 hht a b y pen ha hb (by omega)) (rd hL rfl rfl) rfl rfl (Nat.le_of_ble_eq_true rfl) ?_
      refine V_iload d_Re_raise_26 rfl ?_
      refine V_aload_n d_Re_raise_28 rfl ?_
      refine V_aload_n d_Re_raise_29 rfl ?_
      refine V_iload_n d_Re_raise_30 rfl ?_
      refine V_iload_n d_Re_raise_31 rfl ?_
      refine V_iload d_Re_raise_32 rfl ?_
      refine V_iload d_Re_raise_34 rfl ?_
      refine V_cV s_Re_raise_36 (do_Re_traceBack hL hw hht a b y pen ha hb (by omega)) (rd hL rfl rfl) rfl rfl (Nat.le_of_ble_eq_true rfl) ?_
      refine V_iadd d_Re_raise_39 ?_
      refine V_istore d_Re_raise_40 (by decide) rfl ?_
      refine V_iinc1 d_Re_raise_42 rfl (by decide) rfl ?_
      refine V_goto (tgt := 6) d_Re_raise_45 (by decide) ?_
      rw [nI_1]
      exact ih (y + 1) (raS f w ht a b pen y s) (by omega) e
  refine V_iconst (v := 0) d_Re_raise_0 (by decide) ?_
  refine V_istore d_Re_raise_1 (by decide) rfl ?_
  refine V_iconst (v := 0) d_Re_raise_3 (by decide) ?_
  refine V_istore d_Re_raise_4 (by decide) rfl ?_
  exact loop _ ht 0 (0, Dp, Df, C) (by omega) hR
end P20
end
section
section P21
variable {l : Launch} {G : Gb} {h : List Ce} {w ht : Nat} {f C Df : Nat → Int32} {Dp : Nat → Nat} {ra : Bool}
section R
variable {K : Kt} {h0 : List Ce} {pc : Nat} {ls : List (Nat × Value)} {st : List Value} {r : Rs} {h' : List Ce}
theorem V_zast1 {a N k : Nat} {B : Nat → Bool} {i : Int32} (hd : decode K.code pc = .ok (.bastore, 1)) (hcell : h[a]? = some (ZA N B)) (hi : Ix i k N) (kk : V l G K h0 (pc + 1) ls st (h.set a (ZA N (updB B k true))) r h') : V l G K h0 pc ls (.int 1 :: .int i :: .ref (a + 1) :: st) h r h' := V_zastN (b := true) hd hcell hi kk
theorem V_zast0 {a N k : Nat} {B : Nat → Bool} {i : Int32} (hd : decode K.code pc = .ok (.bastore, 1)) (hcell : h[a]? = some (ZA N B)) (hi : Ix i k N) (kk : V l G K h0 (pc + 1) ls st (h.set a (ZA N (updB B k false))) r h') : V l G K h0 pc ls (.int 0 :: .int i :: .ref (a + 1) :: st) h r h' := V_zastN (b := false) hd hcell hi kk
end R
/-- the place of a cell in the row with a margin -/
def mi (w x y : Nat) : Nat := (y + 1) * (w + 2) + x + 1
theorem mi_lt {x y : Nat} (hx : x < w) (hy : y < ht) : mi w x y < (w + 2) * (ht + 2) ∧ w + 2 ≤ mi w x y ∧ mi w x y + (w + 2) < (w + 2) * (ht + 2) := by
  have h1 : (y + 3) * (w + 2) ≤ (ht + 2) * (w + 2) := Nat.mul_le_mul_right _ (by omega)
  have h2 : (y + 3) * (w + 2) = (y + 1) * (w + 2) + 2 * (w + 2) := by rw [← Nat.add_mul]
  have h3 : (ht + 2) * (w + 2) = (w + 2) * (ht + 2) := Nat.mul_comm _ _
  have h4 : (y + 1) * (w + 2) = y * (w + 2) + (w + 2) := by rw [Nat.add_mul, Nat.one_mul]
  unfold mi
  omega
theorem M_lt (hw : w ≤ 20) (hht : ht ≤ 20) : (w + 2) * (ht + 2) < 2 ^ 31 := by
  have : (w + 2) * (ht + 2) ≤ 22 * 22 := Nat.mul_le_mul (by omega) (by omega)
  omega
theorem do_Re_mi {qd : Int32} (c_Re : h[21]? = some (ReO w ht qd ra)) (x y : Nat) : Do l G k_Re_marginedIndex [.ref 22, .int (nI x), .int (nI y)] h (ri (nI (mi w x y))) h := by
  refine Do.of (by decide) (Nat.le_of_ble_eq_true rfl) kw_Re_marginedIndex ?_
  have e : (nI y + 1) * nI (w + 2) + nI x + 1 = nI (mi w x y) := by rw [nI_1, pk_mul, nI_add, nI_1]; rfl
  rw [← e]
  refine V_iload_n d_Re_marginedIndex_0 rfl ?_
  refine V_iconst (v := 1) d_Re_marginedIndex_1 (by decide) ?_
  refine V_iadd d_Re_marginedIndex_2 ?_
  refine V_aload_n d_Re_marginedIndex_3 rfl ?_
  refine V_gf g_Re_marginedIndex_4 c_Re rfl ?_
  refine V_imul d_Re_marginedIndex_7 ?_
  refine V_iload_n d_Re_marginedIndex_8 rfl ?_
  refine V_iadd d_Re_marginedIndex_9 ?_
  refine V_iconst (v := 1) d_Re_marginedIndex_10 (by decide) ?_
  refine V_iadd d_Re_marginedIndex_11 ?_
  exact V_iret d_Re_marginedIndex_12 rfl rfl
abbrev Cl : Type := Nat × (Nat → Nat) × (Nat → Bool)
def ciS (k : Nat) (s : Cl) : Cl := if s.2.2 k then (s.1 + 1, updN s.2.1 s.1 k, updB s.2.2 k false) else s
abbrev hoH (h : List Ce) (w ht : Nat) (f : Nat → Int32) (ra : Bool) (Dp : Nat → Nat) (Df C : Nat → Int32) (s : Cl) : List Ce := reH h w ht f (nI s.1) ra Dp Df C s.2.2 (fun i => nI (s.2.1 i))
theorem do_Re_closeIfOpen (hL : 27 ≤ h.length) (hw : w ≤ 20) (hht : ht ≤ 20) (s : Cl) (k : Nat) (hk : k < (w + 2) * (ht + 2)) (hq : s.2.2 k = true → s.1 < w * ht) : Do l G k_Re_closeIfOpen [.ref 22, .int (nI k)] (hoH h w ht f ra Dp Df C s) rv (hoH h w ht f ra Dp Df C (ciS k s)) := by
  refine Do.of (by decide) (Nat.le_of_ble_eq_true rfl) kw_Re_closeIfOpen ?_
  have hM := M_lt hw hht
  have hN := wh_lt hw hht
  refine V_aload_n d_Re_closeIfOpen_0 rfl ?_
  refine V_gf g_Re_closeIfOpen_1 (rd hL rfl rfl) rfl ?_
  refine V_iload_n d_Re_closeIfOpen_4 rfl ?_
  refine V_zaldN d_Re_closeIfOpen_5 (rd hL rfl rfl) (Ix.of hk hM) ?_
  refine V_if_eq (tgt := 36) d_Re_closeIfOpen_6 (by decide) (fun c1 => ?_) (fun c1 => ?_)
  · rw [show ciS k s = s by unfold ciS; rw [(bI_0 _).mp c1]; rfl]
    exact V_vret d_Re_closeIfOpen_36 rfl
  · have c1' : s.2.2 k = true := by simpa [bI_0] using c1
    have es : ciS k s = (s.1 + 1, updN s.2.1 s.1 k, updB s.2.2 k false) := by unfold ciS; rw [c1']; rfl
    rw [es]
    show V l G k_Re_closeIfOpen _ _ _ _ _ _ (reH h w ht f (nI (s.1 + 1)) ra Dp Df C (updB s.2.2 k false) (fun i => nI (updN s.2.1 s.1 k i)))
    rw [← updN_I]
    refine V_aload_n d_Re_closeIfOpen_9 rfl ?_
    refine V_gf g_Re_closeIfOpen_10 (rd hL rfl rfl) rfl ?_
    refine V_iload_n d_Re_closeIfOpen_13 rfl ?_
    refine V_iconst (v := 0) d_Re_closeIfOpen_14 (by decide) ?_
    refine V_zast0 d_Re_closeIfOpen_15 (rd hL rfl rfl) (Ix.of hk hM) ?_
    refine V_hS rfl ?_
    refine V_aload_n d_Re_closeIfOpen_16 rfl ?_
    refine V_gf g_Re_closeIfOpen_17 (rd hL rfl rfl) rfl ?_
    refine V_aload_n d_Re_closeIfOpen_20 rfl ?_
    refine V_gf g_Re_closeIfOpen_21 (rd hL rfl rfl) rfl ?_
    refine V_iload_n d_Re_closeIfOpen_24 rfl ?_
    refine V_iastN d_Re_closeIfOpen_25 (rd hL rfl rfl) (Ix.of (hq c1') hN) ?_
    refine V_hS rfl ?_
    refine V_aload_n d_Re_closeIfOpen_26 rfl ?_
    refine V_dup d_Re_closeIfOpen_27 rfl ?_
    refine V_gf g_Re_closeIfOpen_28 (rd hL rfl rfl) rfl ?_
    refine V_iconst (v := 1) d_Re_closeIfOpen_31 (by decide) ?_
    refine V_iadd d_Re_closeIfOpen_32 ?_
    rw [nI_1]
    refine V_pf p_Re_closeIfOpen_33 (rd hL rfl rfl) (Nat.le_of_ble_eq_true rfl) rfl rfl ?_
    refine V_hS rfl ?_
    exact V_vret d_Re_closeIfOpen_36 rfl
def inn (w ht k : Nat) : Prop := ∃ x y, x < w ∧ y < ht ∧ k = mi w x y
/-- how many of the first m are open -/
def cnt (op : Nat → Bool) : Nat → Nat
  | 0 => 0
  | m + 1 => cnt op m + (if op m then 1 else 0)
theorem cnt_off {op : Nat → Bool} {k : Nat} : ∀ {m : Nat}, m ≤ k → cnt (updB op k false) m = cnt op m
  | 0, _ => rfl
  | m + 1, hm => by
    show cnt (updB op k false) m + _ = cnt op m + _
    rw [cnt_off (by omega)]
    simp [updB, show m ≠ k by omega]
theorem cnt_on {op : Nat → Bool} {k : Nat} (hk : op k = true) : ∀ {m : Nat}, k < m → cnt (updB op k false) m + 1 = cnt op m
  | 0, hm => by omega
  | m + 1, hm => by
    show cnt (updB op k false) m + _ + 1 = cnt op m + _
    by_cases e : m = k
    · subst e
      rw [cnt_off (Nat.le_refl _)]
      simp [updB, hk]
    · have := cnt_on hk (show k < m by omega)
      simp [updB, e]
      omega
theorem cnt_pos {op : Nat → Bool} {k m : Nat} (hk : op k = true) (hm : k < m) : 1 ≤ cnt op m := by
  have := cnt_on hk hm
  omega
def InvC (w ht : Nat) (s : Cl) : Prop := (∀ i, i < s.1 → inn w ht (s.2.1 i)) ∧ (∀ k, s.2.2 k = true → inn w ht k) ∧ s.1 + cnt s.2.2 ((w + 2) * (ht + 2)) ≤ w * ht
theorem inn.lt {k : Nat} (h : inn w ht k) : k < (w + 2) * (ht + 2) ∧ w + 2 ≤ k ∧ k + (w + 2) < (w + 2) * (ht + 2) := by
  obtain ⟨x, y, hx, hy, rfl⟩ := h
  exact mi_lt hx hy
theorem InvC.room {s : Cl} (h : InvC w ht s) {k : Nat} (hk : s.2.2 k = true) : s.1 < w * ht := by
  have h1 := (h.2.1 k hk).lt
  have h2 := cnt_pos hk h1.1
  have h3 := h.2.2
  omega
theorem InvC.ci {s : Cl} (h : InvC w ht s) (k : Nat) : InvC w ht (ciS k s) := by
  unfold ciS
  by_cases q : s.2.2 k = true
  · rw [if_pos q]
    have hin := h.2.1 k q
    refine ⟨fun i hi => ?_, fun j hj => ?_, ?_⟩
    · show inn w ht (updN s.2.1 s.1 k i)
      unfold updN
      by_cases e : i = s.1
      · rw [if_pos e]; exact hin
      · rw [if_neg e]
        have : i < s.1 + 1 := hi
        exact h.1 i (by omega)
    · have hj : updB s.2.2 k false j = true := hj
      unfold updB at hj
      by_cases e : j = k
      · rw [if_pos e] at hj; cases hj
      · rw [if_neg e] at hj; exact h.2.1 j hj
    · have h1 := cnt_on q hin.lt.1
      have h3 := h.2.2
      show s.1 + 1 + cnt (updB s.2.2 k false) _ ≤ _
      omega
  · rw [if_neg q]; exact h
/-- a queued cell's four neighbours -/
def ci4 (w k : Nat) (s : Cl) : Cl := ciS (k + (w + 2)) (ciS (k - (w + 2)) (ciS (k + 1) (ciS (k - 1) s)))
def bfR (w : Nat) : Nat → Nat → Cl → Cl
  | 0, _, s => s
  | m + 1, i, s => if i < s.1 then bfR w m (i + 1) (ci4 w (s.2.1 i) s) else s
theorem do_Re_closeAround (hL : 27 ≤ h.length) (hw : w ≤ 20) (hht : ht ≤ 20) (q0 : Nat) (Q : Nat → Nat) (op : Nat → Bool) (k : Nat) (hk : k < (w + 2) * (ht + 2)) (hI : InvC w ht (0, Q, op)) : Do l G k_Re_closeAround [.ref 22, .int (nI k)] (hoH h w ht f ra Dp Df C (q0, Q, op)) rv (hoH h w ht f ra Dp Df C (bfR w (w * ht) 0 (ciS k (0, Q, op)))) := by
  refine Do.of (by decide) (Nat.le_of_ble_eq_true rfl) kw_Re_closeAround ?_
  have hN := wh_lt hw hht
  have loop : ∀ (H0 : List Ce) (S : Cl) (m i : Nat) (s : Cl), i + m = w * ht → InvC w ht s → S = bfR w m i s → V l G k_Re_closeAround H0 12 [(0, .ref 22), (1, .int (nI k)), (2, .int (nI i))] [] (hoH h w ht f ra Dp Df C s) rv (hoH h w ht f ra Dp Df C S) := by
    intro H0 S m
    induction m with
    | zero =>
      intro i s hi hs e
      rw [show S = s from e]
      refine V_iload_n d_Re_closeAround_12 rfl ?_
      refine V_aload_n d_Re_closeAround_13 rfl ?_
      refine V_gf g_Re_closeAround_14 (rd hL rfl rfl) rfl ?_
      have hs3 := hs.2.2
      refine V_icmp_ge (tgt := 76) d_Re_closeAround_17 (by decide) (fun _ => ?_) (fun c9 => absurd ((nI_le (by omega) (by omega) : nI s.1 ≤ nI i)) c9)
      exact V_vret d_Re_closeAround_76 rfl
    | succ m ih =>
      intro i s hi hs e
      have hs3 := hs.2.2
      by_cases q : i < s.1
      · have e : S = bfR w m (i + 1) (ci4 w (s.2.1 i) s) := by
          rw [e]
          show (if i < s.1 then bfR w m (i + 1) (ci4 w (s.2.1 i) s) else s) = _
          rw [if_pos q]
        have hin := (hs.1 i q).lt
        refine V_iload_n d_Re_closeAround_12 rfl ?_
        refine V_aload_n d_Re_closeAround_13 rfl ?_
        refine V_gf g_Re_closeAround_14 (rd hL rfl rfl) rfl ?_
        refine V_icmp_ge (tgt := 76) d_Re_closeAround_17 (by decide) (fun c9 => absurd c9 ((nI_ge q (by omega) : ¬ nI s.1 ≤ nI i))) (fun _ => ?_)
        refine V_iload_n d_Re_closeAround_20 rfl ?_
        refine V_aload_n d_Re_closeAround_21 rfl ?_
        refine V_gf g_Re_closeAround_22 (rd hL rfl rfl) rfl ?_
        refine V_ialen d_Re_closeAround_25 (rd hL rfl rfl) ?_
        refine V_icmp_ge (tgt := 76) d_Re_closeAround_26 (by decide) (fun c9 => absurd c9 ((nI_ge (by omega) (by omega) : ¬ nI (w * ht) ≤ nI i))) (fun _ => ?_)
        refine V_aload_n d_Re_closeAround_29 rfl ?_
        refine V_gf g_Re_closeAround_30 (rd hL rfl rfl) rfl ?_
        refine V_iload_n d_Re_closeAround_33 rfl ?_
        refine V_ialdN d_Re_closeAround_34 (rd hL rfl rfl) (Ix.of (show i < w * ht by omega) hN) ?_
        refine V_istore_n d_Re_closeAround_35 (by decide) rfl ?_
        refine V_aload_n d_Re_closeAround_36 rfl ?_
        refine V_iload_n d_Re_closeAround_37 rfl ?_
        refine V_iconst (v := 1) d_Re_closeAround_38 (by decide) ?_
        refine V_isub d_Re_closeAround_39 ?_
        rw [nIm1 (show 1 ≤ s.2.1 i by omega)]
        have i1 := hs.ci (s.2.1 i - 1)
        have i2 := i1.ci (s.2.1 i + 1)
        have i3 := i2.ci (s.2.1 i - (w + 2))
        refine V_cV s_Re_closeAround_40 (do_Re_closeIfOpen hL hw hht s (s.2.1 i - 1) (by omega) (fun z => hs.room z)) (rd hL rfl rfl) rfl rfl (Nat.le_of_ble_eq_true rfl) ?_
        refine V_aload_n d_Re_closeAround_43 rfl ?_
        refine V_iload_n d_Re_closeAround_44 rfl ?_
        refine V_iconst (v := 1) d_Re_closeAround_45 (by decide) ?_
        refine V_iadd d_Re_closeAround_46 ?_
        rw [nI_1 (s.2.1 i)]
        refine V_cV s_Re_closeAround_47 (do_Re_closeIfOpen hL hw hht (ciS (s.2.1 i - 1) s) (s.2.1 i + 1) (by omega) (fun z => i1.room z)) (rd hL rfl rfl) rfl rfl (Nat.le_of_ble_eq_true rfl) ?_
        refine V_aload_n d_Re_closeAround_50 rfl ?_
        refine V_iload_n d_Re_closeAround_51 rfl ?_
        refine V_aload_n d_Re_closeAround_52 rfl ?_
        refine V_gf g_Re_closeAround_53 (rd hL rfl rfl) rfl ?_
        refine V_isub d_Re_closeAround_56 ?_
        rw [pk_sub (show w + 2 ≤ s.2.1 i by omega)]
        refine V_cV s_Re_closeAround_57 (do_Re_closeIfOpen hL hw hht (ciS (s.2.1 i + 1) (ciS (s.2.1 i - 1) s)) (s.2.1 i - (w + 2)) (by omega) (fun z => i2.room z)) (rd hL rfl rfl) rfl rfl (Nat.le_of_ble_eq_true rfl) ?_
        refine V_aload_n d_Re_closeAround_60 rfl ?_
        refine V_iload_n d_Re_closeAround_61 rfl ?_
        refine V_aload_n d_Re_closeAround_62 rfl ?_
        refine V_gf g_Re_closeAround_63 (rd hL rfl rfl) rfl ?_
        refine V_iadd d_Re_closeAround_66 ?_
        rw [nI_add (s.2.1 i) (w + 2)]
        refine V_cV s_Re_closeAround_67 (do_Re_closeIfOpen hL hw hht (ciS (s.2.1 i - (w + 2)) (ciS (s.2.1 i + 1) (ciS (s.2.1 i - 1) s))) (s.2.1 i + (w + 2)) (by omega) (fun z => i3.room z)) (rd hL rfl rfl) rfl rfl (Nat.le_of_ble_eq_true rfl) ?_
        refine V_iinc1 d_Re_closeAround_70 rfl (by decide) rfl ?_
        refine V_goto (tgt := 12) d_Re_closeAround_73 (by decide) ?_
        rw [nI_1 i]
        refine V_keep [0, 1, 2] ?_
        exact ih (i + 1) (ci4 w (s.2.1 i) s) (by omega) (i3.ci _) e
      · have e : S = s := by
          rw [e]
          show (if i < s.1 then bfR w m (i + 1) (ci4 w (s.2.1 i) s) else s) = _
          rw [if_neg q]
        rw [e]
        refine V_iload_n d_Re_closeAround_12 rfl ?_
        refine V_aload_n d_Re_closeAround_13 rfl ?_
        refine V_gf g_Re_closeAround_14 (rd hL rfl rfl) rfl ?_
        refine V_icmp_ge (tgt := 76) d_Re_closeAround_17 (by decide) (fun _ => ?_) (fun c9 => absurd ((nI_le (by omega) (by omega) : nI s.1 ≤ nI i)) c9)
        exact V_vret d_Re_closeAround_76 rfl
  refine V_aload_n d_Re_closeAround_0 rfl ?_
  refine V_iconst (v := 0) d_Re_closeAround_1 (by decide) ?_
  refine V_pf p_Re_closeAround_2 (rd hL rfl rfl) (Nat.le_of_ble_eq_true rfl) rfl rfl ?_
  refine V_hS rfl ?_
  refine V_aload_n d_Re_closeAround_5 rfl ?_
  refine V_iload_n d_Re_closeAround_6 rfl ?_
  refine V_cV s_Re_closeAround_7 (do_Re_closeIfOpen hL hw hht (0, Q, op) k hk (fun z => hI.room z)) (rd hL rfl rfl) rfl rfl (Nat.le_of_ble_eq_true rfl) ?_
  refine V_iconst (v := 0) d_Re_closeAround_10 (by decide) ?_
  refine V_istore_n d_Re_closeAround_11 (by decide) rfl ?_
  exact loop _ _ (w * ht) 0 (ciS k (0, Q, op)) (by omega) (hI.ci k) rfl
end P21
end
section
section P22
variable {l : Launch} {G : Gb} {h : List Ce} {w ht : Nat} {f C Df : Nat → Int32} {Dp : Nat → Nat} {ra : Bool}
theorem inn_rc {r c : Nat} (hc : c < w + 2) (hi : inn w ht (r * (w + 2) + c)) : 1 ≤ c ∧ c ≤ w ∧ 1 ≤ r ∧ r ≤ ht := by
  obtain ⟨x, y, hx, hy, e⟩ := hi
  have e : r * (w + 2) + c = (y + 1) * (w + 2) + (x + 1) := e
  have h1 : (r * (w + 2) + c) % (w + 2) = c := by rw [Nat.mul_comm, Nat.mul_add_mod, Nat.mod_eq_of_lt hc]
  have h2 : ((y + 1) * (w + 2) + (x + 1)) % (w + 2) = x + 1 := by rw [Nat.mul_comm, Nat.mul_add_mod, Nat.mod_eq_of_lt (by omega)]
  have h3 : (r * (w + 2) + c) / (w + 2) = r := by rw [Nat.mul_comm, Nat.mul_add_div (by omega), Nat.div_eq_of_lt hc, Nat.add_zero]
  have h4 : ((y + 1) * (w + 2) + (x + 1)) / (w + 2) = y + 1 := by rw [Nat.mul_comm, Nat.mul_add_div (by omega), Nat.div_eq_of_lt (by omega), Nat.add_zero]
  rw [e] at h1 h3
  omega
theorem cnt_row {op : Nat → Bool} (hop : ∀ k, op k = true → inn w ht k) (r : Nat) : ∀ c, c ≤ w + 2 → cnt op (r * (w + 2) + c) ≤ cnt op (r * (w + 2)) + (if 1 ≤ r ∧ r ≤ ht then (if c = 0 then 0 else if c ≤ w + 1 then c - 1 else w) else 0)
  | 0, _ => by simp
  | c + 1, hc => by
    have ih := cnt_row hop r c (by omega)
    show cnt op (r * (w + 2) + c) + (if op (r * (w + 2) + c) then 1 else 0) ≤ _
    by_cases q : op (r * (w + 2) + c) = true
    · have hi := inn_rc (by omega) (hop _ q)
      rw [if_pos q]
      rw [if_pos ⟨hi.2.2.1, hi.2.2.2⟩] at ih ⊢
      rw [if_neg (by omega), if_pos (by omega)] at ih
      rw [if_neg (by omega), if_pos (by omega)]
      omega
    · rw [if_neg q]
      by_cases q2 : 1 ≤ r ∧ r ≤ ht
      · rw [if_pos q2] at ih ⊢
        by_cases c0 : c = 0
        · subst c0
          simp at ih ⊢
          try omega
        · rw [if_neg c0] at ih
          rw [if_neg (by omega)]
          by_cases c1 : c + 1 ≤ w + 1
          · rw [if_pos (by omega)] at ih
            rw [if_pos c1]
            omega
          · rw [if_neg c1]
            rw [if_pos (by omega)] at ih
            omega
      · rw [if_neg q2] at ih ⊢
        omega
theorem cnt_rows {op : Nat → Bool} (hop : ∀ k, op k = true → inn w ht k) : ∀ r, cnt op (r * (w + 2)) ≤ w * (if r ≤ ht + 1 then r - 1 else ht)
  | 0 => by simp [cnt]
  | r + 1 => by
    have ih := cnt_rows hop r
    have h1 := cnt_row hop r (w + 2) (Nat.le_refl _)
    have h2 : (r + 1) * (w + 2) = r * (w + 2) + (w + 2) := by rw [Nat.add_mul, Nat.one_mul]
    rw [h2]
    refine Nat.le_trans h1 ?_
    by_cases q : 1 ≤ r ∧ r ≤ ht
    · rw [if_pos q, if_neg (by omega), if_neg (by omega)]
      rw [if_pos (by omega)] at ih
      rw [if_pos (by omega)]
      obtain ⟨j, rfl⟩ : ∃ j, r = j + 1 := ⟨r - 1, by omega⟩
      have e1 : w * (j + 1 + 1 - 1) = w * j + w := by rw [Nat.add_sub_cancel, Nat.mul_add, Nat.mul_one]
      rw [Nat.add_sub_cancel] at ih
      omega
    · rw [if_neg q]
      rcases Nat.eq_zero_or_pos r with z | z
      · subst z
        simp [cnt]
      · have hr : ht < r := by omega
        by_cases q3 : r ≤ ht + 1
        · rw [if_pos q3] at ih
          rw [if_neg (by omega)]
          rw [show r - 1 = ht by omega] at ih
          omega
        · rw [if_neg q3] at ih
          rw [if_neg (by omega)]
          omega
theorem cnt_all {op : Nat → Bool} (hop : ∀ k, op k = true → inn w ht k) : cnt op ((w + 2) * (ht + 2)) ≤ w * ht := by
  have := cnt_rows hop (ht + 2)
  rw [if_neg (by omega), Nat.mul_comm (ht + 2)] at this
  exact this
theorem InvC.of {Q : Nat → Nat} {op : Nat → Bool} (hop : ∀ k, op k = true → inn w ht k) : InvC w ht (0, Q, op) := ⟨fun i hi => absurd hi (Nat.not_lt_zero i), hop, by have := cnt_all hop; show 0 + cnt op _ ≤ _; omega⟩
theorem bfR_inv : ∀ (m i : Nat) (s : Cl), InvC w ht s → InvC w ht (bfR w m i s)
  | 0, _, _, hs => hs
  | m + 1, i, s, hs => by
    show InvC w ht (if i < s.1 then bfR w m (i + 1) (ci4 w (s.2.1 i) s) else s)
    split
    · exact bfR_inv m (i + 1) _ ((((hs.ci _).ci _).ci _).ci _)
    · exact hs
/-- which cells are open at first -/
def oaS (Df : Nat → Int32) (w : Nat) (lv : Int32) (y x : Nat) (op : Nat → Bool) : Nat → Bool := updB op (mi w x y) (decide (lv < Df (y * w + x)))
def oaR (Df : Nat → Int32) (w ht : Nat) (lv : Int32) (op : Nat → Bool) : Nat → Bool := fori (fun y op => fori (fun x op => oaS Df w lv y x op) w 0 op) ht 0 op
theorem do_Re_openAbove (hL : 27 ≤ h.length) (hw : w ≤ 20) (hht : ht ≤ 20) (q0 : Nat) (Q : Nat → Nat) (op : Nat → Bool) (lv : Int32) : Do l G k_Re_openAbove [.ref 22, .int lv] (hoH h w ht f ra Dp Df C (q0, Q, op)) rv (hoH h w ht f ra Dp Df C (q0, Q, oaR Df w ht lv op)) := by
  refine Do.of (by decide) (Nat.le_of_ble_eq_true rfl) kw_Re_openAbove ?_
  have hM := M_lt hw hht
  have hN := wh_lt hw hht
  have inner : ∀ (H0 H9 : List Ce) (y : Nat), y < ht → ∀ (m x : Nat) (op : Nat → Bool), x + m = w → V l G k_Re_openAbove H0 59 [(0, .ref 22), (1, .int lv), (2, .int (nI y))] [] (hoH h w ht f ra Dp Df C (q0, Q, fori (fun x op => oaS Df w lv y x op) m x op)) rv H9 → V l G k_Re_openAbove H0 12 [(0, .ref 22), (1, .int lv), (2, .int (nI y)), (3, .int (nI x))] [] (hoH h w ht f ra Dp Df C (q0, Q, op)) rv H9 := by
    intro H0 H9 y hy m
    induction m with
    | zero =>
      intro x op hx kk
      refine V_iload_n d_Re_openAbove_12 rfl ?_
      refine V_aload_n d_Re_openAbove_13 rfl ?_
      refine V_gf g_Re_openAbove_14 (rd hL rfl rfl) rfl ?_
      refine V_icmp_ge (tgt := 59) d_Re_openAbove_17 (by decide) (fun _ => ?_) (fun c9 => absurd ((nI_le (by omega) (by omega) : nI w ≤ nI x)) c9)
      exact V_keep [0, 1, 2] kk
    | succ m ih =>
      intro x op hx kk
      rw [fori_s] at kk
      have hml := mi_lt (w := w) (ht := ht) (show x < w by omega) hy
      have hcl : y * w + x < w * ht := cell_lt (by omega) hy
      have next : ∀ op' : Nat → Bool, op' = oaS Df w lv y x op → V l G k_Re_openAbove H0 53 [(0, .ref 22), (1, .int lv), (2, .int (nI y)), (3, .int (nI x))] [] (hoH h w ht f ra Dp Df C (q0, Q, op')) rv H9 := by
        intro op' e'
        refine V_iinc1 d_Re_openAbove_53 rfl (by decide) rfl ?_
        refine V_goto (tgt := 12) d_Re_openAbove_56 (by decide) ?_
        rw [nI_1]
        exact ih (x + 1) op' (by omega) (by rw [e']; exact kk)
      refine V_iload_n d_Re_openAbove_12 rfl ?_
      refine V_aload_n d_Re_openAbove_13 rfl ?_
      refine V_gf g_Re_openAbove_14 (rd hL rfl rfl) rfl ?_
      refine V_icmp_ge (tgt := 59) d_Re_openAbove_17 (by decide) (fun c9 => absurd c9 ((nI_ge (by omega) (by omega) : ¬ nI w ≤ nI x))) (fun _ => ?_)
      refine V_aload_n d_Re_openAbove_20 rfl ?_
      refine V_gf g_Re_openAbove_21 (rd hL rfl rfl) rfl ?_
      refine V_aload_n d_Re_openAbove_24 rfl ?_
      refine V_iload_n d_Re_openAbove_25 rfl ?_
      refine V_iload_n d_Re_openAbove_26 rfl ?_
      refine V_cV s_Re_openAbove_27 (do_Re_mi (rd hL rfl rfl) x y) (rd hL rfl rfl) rfl rfl (Nat.le_of_ble_eq_true rfl) ?_
      refine V_aload_n d_Re_openAbove_30 rfl ?_
      refine V_gf g_Re_openAbove_31 (rd hL rfl rfl) rfl ?_
      refine V_iload_n d_Re_openAbove_34 rfl ?_
      refine V_aload_n d_Re_openAbove_35 rfl ?_
      refine V_gf g_Re_openAbove_36 (rd hL rfl rfl) rfl ?_
      refine V_imul d_Re_openAbove_39 ?_
      refine V_iload_n d_Re_openAbove_40 rfl ?_
      refine V_iadd d_Re_openAbove_41 ?_
      refine V_ialdN d_Re_openAbove_42 (rd hL rfl rfl) (⟨by rw [pk_mul, nI_add], hcl, hN⟩) ?_
      refine V_iload_n d_Re_openAbove_43 rfl ?_
      refine V_icmp_le (tgt := 51) d_Re_openAbove_44 (by decide) (fun c1 => ?_) (fun c1 => ?_)
      · refine V_iconst (v := 0) d_Re_openAbove_51 (by decide) ?_
        refine V_zast0 d_Re_openAbove_52 (rd hL rfl rfl) (Ix.of hml.1 hM) ?_
        refine V_hS rfl ?_
        exact next (updB op (mi w x y) false) (by unfold oaS; rw [show decide (lv < Df (y * w + x)) = false by simp [nlt_iff.mpr c1]])
      · refine V_iconst (v := 1) d_Re_openAbove_47 (by decide) ?_
        refine V_goto (tgt := 52) d_Re_openAbove_48 (by decide) ?_
        refine V_zast1 d_Re_openAbove_52 (rd hL rfl rfl) (Ix.of hml.1 hM) ?_
        refine V_hS rfl ?_
        exact next (updB op (mi w x y) true) (by unfold oaS; rw [show decide (lv < Df (y * w + x)) = true by simp [nle_iff.mp c1]])
  have outer : ∀ (H0 : List Ce) (m y : Nat) (op9 : Nat → Bool), y + m = ht → oaR Df w ht lv op = fori (fun y op => fori (fun x op => oaS Df w lv y x op) w 0 op) m y op9 → V l G k_Re_openAbove H0 2 [(0, .ref 22), (1, .int lv), (2, .int (nI y))] [] (hoH h w ht f ra Dp Df C (q0, Q, op9)) rv (hoH h w ht f ra Dp Df C (q0, Q, oaR Df w ht lv op)) := by
    intro H0 m
    induction m with
    | zero =>
      intro y op9 hy e
      obtain rfl : y = ht := by omega
      rw [e]
      refine V_iload_n d_Re_openAbove_2 rfl ?_
      refine V_aload_n d_Re_openAbove_3 rfl ?_
      refine V_gf g_Re_openAbove_4 (rd hL rfl rfl) rfl ?_
      refine V_icmp_ge (tgt := 65) d_Re_openAbove_7 (by decide) (fun _ => ?_) (fun c9 => absurd ((nI_le (Nat.le_refl _) (by omega))) c9)
      exact V_vret d_Re_openAbove_65 rfl
    | succ m ih =>
      intro y op9 hy e
      rw [fori_s] at e
      refine V_iload_n d_Re_openAbove_2 rfl ?_
      refine V_aload_n d_Re_openAbove_3 rfl ?_
      refine V_gf g_Re_openAbove_4 (rd hL rfl rfl) rfl ?_
      refine V_icmp_ge (tgt := 65) d_Re_openAbove_7 (by decide) (fun c9 => absurd c9 ((nI_ge (by omega) (by omega) : ¬ nI ht ≤ nI y))) (fun _ => ?_)
      refine V_iconst (v := 0) d_Re_openAbove_10 (by decide) ?_
      refine V_istore_n d_Re_openAbove_11 (by decide) rfl ?_
      refine inner H0 _ y (by omega) w 0 op9 (by omega) ?_
      refine V_iinc1 d_Re_openAbove_59 rfl (by decide) rfl ?_
      refine V_goto (tgt := 2) d_Re_openAbove_62 (by decide) ?_
      rw [nI_1]
      exact ih (y + 1) _ (by omega) e
  refine V_iconst (v := 0) d_Re_openAbove_0 (by decide) ?_
  refine V_istore_n d_Re_openAbove_1 (by decide) rfl ?_
  exact outer _ ht 0 op (by omega) rfl
theorem oaS_inn {op : Nat → Bool} (hop : ∀ k, op k = true → inn w ht k) (lv : Int32) {x y : Nat} (hx : x < w) (hy : y < ht) : ∀ k, oaS Df w lv y x op k = true → inn w ht k := by
  intro k hk
  unfold oaS updB at hk
  by_cases e : k = mi w x y
  · exact ⟨x, y, hx, hy, e⟩
  · rw [if_neg e] at hk; exact hop k hk
theorem oaR_inn {op : Nat → Bool} (hop : ∀ k, op k = true → inn w ht k) (lv : Int32) : ∀ k, oaR Df w ht lv op k = true → inn w ht k := by
  have inner : ∀ (y : Nat), y < ht → ∀ (m x : Nat) (op : Nat → Bool), x + m = w → (∀ k, op k = true → inn w ht k) → ∀ k, fori (fun x op => oaS Df w lv y x op) m x op k = true → inn w ht k := by
    intro y hy m
    induction m with
    | zero => intro x op _ ho; exact ho
    | succ m ih =>
      intro x op hx ho
      rw [fori_s]
      exact ih (x + 1) _ (by omega) (oaS_inn ho lv (by omega) hy)
  have outer : ∀ (m y : Nat) (op : Nat → Bool), y + m = ht → (∀ k, op k = true → inn w ht k) → ∀ k, fori (fun y op => fori (fun x op => oaS Df w lv y x op) w 0 op) m y op k = true → inn w ht k := by
    intro m
    induction m with
    | zero => intro y op _ ho; exact ho
    | succ m ih =>
      intro y op hy ho
      rw [fori_s]
      exact ih (y + 1) _ (by omega) (inner y (by omega) w 0 op (by omega) ho)
  exact outer ht 0 op (by omega) hop
abbrev Ho : Type := Nat × Cl
def hoS (w ht y x : Nat) (s : Ho) : Ho := if s.2.2.2 (mi w x y) then (s.1 + 1, bfR w (w * ht) 0 (ciS (mi w x y) (0, s.2.2.1, s.2.2.2))) else s
def hoR (w ht : Nat) (s : Ho) : Ho := fori (fun y s => fori (fun x s => hoS w ht y x s) w 0 s) ht 0 s
theorem hoS_inn {s : Ho} (hs : ∀ k, s.2.2.2 k = true → inn w ht k) (y x : Nat) : ∀ k, (hoS w ht y x s).2.2.2 k = true → inn w ht k := by
  unfold hoS
  split
  · exact (bfR_inv (w * ht) 0 _ ((InvC.of hs).ci _)).2.1
  · exact hs
theorem do_Re_holesAbove (hL : 27 ≤ h.length) (hw : w ≤ 20) (hht : ht ≤ 20) (q0 : Nat) (Q : Nat → Nat) (op : Nat → Bool) (hop : ∀ k, op k = true → inn w ht k) (lv : Int32) (S : Ho) (hS9 : S = hoR w ht (0, q0, Q, oaR Df w ht lv op)) : Do l G k_Re_holesAbove [.ref 22, .int lv] (hoH h w ht f ra Dp Df C (q0, Q, op)) (ri (nI S.1)) (hoH h w ht f ra Dp Df C S.2) := by
  refine Do.of (by decide) (Nat.le_of_ble_eq_true rfl) kw_Re_holesAbove ?_
  have hM := M_lt hw hht
  have inner : ∀ (H0 : List Ce) (y : Nat), y < ht → ∀ (m x : Nat) (s : Ho), x + m = w → (∀ k, s.2.2.2 k = true → inn w ht k) → ((∀ k, (fori (fun x s => hoS w ht y x s) m x s).2.2.2 k = true → inn w ht k) → V l G k_Re_holesAbove H0 63 [(0, .ref 22), (1, .int lv), (2, .int (nI (fori (fun x s => hoS w ht y x s) m x s).1)), (3, .int (nI y))] [] (hoH h w ht f ra Dp Df C (fori (fun x s => hoS w ht y x s) m x s).2) (ri (nI S.1)) (hoH h w ht f ra Dp Df C S.2)) → V l G k_Re_holesAbove H0 20 [(0, .ref 22), (1, .int lv), (2, .int (nI s.1)), (3, .int (nI y)), (4, .int (nI x))] [] (hoH h w ht f ra Dp Df C s.2) (ri (nI S.1)) (hoH h w ht f ra Dp Df C S.2) := by
    intro H0 y hy m
    induction m with
    | zero =>
      intro x s hx hs kk
      refine V_iload d_Re_holesAbove_20 rfl ?_
      refine V_aload_n d_Re_holesAbove_22 rfl ?_
      refine V_gf g_Re_holesAbove_23 (rd hL rfl rfl) rfl ?_
      refine V_icmp_ge (tgt := 63) d_Re_holesAbove_26 (by decide) (fun _ => ?_) (fun c9 => absurd ((nI_le (by omega) (by omega) : nI w ≤ nI x)) c9)
      exact V_keep [0, 1, 2, 3] (kk hs)
    | succ m ih =>
      intro x s hx hs kk
      rw [fori_s] at kk
      have hml := mi_lt (w := w) (ht := ht) (show x < w by omega) hy
      have next : ∀ s' : Ho, s' = hoS w ht y x s → V l G k_Re_holesAbove H0 57 [(0, .ref 22), (1, .int lv), (2, .int (nI s'.1)), (3, .int (nI y)), (4, .int (nI x))] [] (hoH h w ht f ra Dp Df C s'.2) (ri (nI S.1)) (hoH h w ht f ra Dp Df C S.2) := by
        intro s' e'
        refine V_iinc1 d_Re_holesAbove_57 rfl (by decide) rfl ?_
        refine V_goto (tgt := 20) d_Re_holesAbove_60 (by decide) ?_
        rw [nI_1]
        exact ih (x + 1) s' (by omega) (by rw [e']; exact hoS_inn hs y x) (by rw [e']; exact kk)
      refine V_iload d_Re_holesAbove_20 rfl ?_
      refine V_aload_n d_Re_holesAbove_22 rfl ?_
      refine V_gf g_Re_holesAbove_23 (rd hL rfl rfl) rfl ?_
      refine V_icmp_ge (tgt := 63) d_Re_holesAbove_26 (by decide) (fun c9 => absurd c9 ((nI_ge (by omega) (by omega) : ¬ nI w ≤ nI x))) (fun _ => ?_)
      refine V_aload_n d_Re_holesAbove_29 rfl ?_
      refine V_iload d_Re_holesAbove_30 rfl ?_
      refine V_iload_n d_Re_holesAbove_32 rfl ?_
      refine V_cV s_Re_holesAbove_33 (do_Re_mi (rd hL rfl rfl) x y) (rd hL rfl rfl) rfl rfl (Nat.le_of_ble_eq_true rfl) ?_
      refine V_istore d_Re_holesAbove_36 (by decide) rfl ?_
      refine V_aload_n d_Re_holesAbove_38 rfl ?_
      refine V_gf g_Re_holesAbove_39 (rd hL rfl rfl) rfl ?_
      refine V_iload d_Re_holesAbove_42 rfl ?_
      refine V_zaldN d_Re_holesAbove_44 (rd hL rfl rfl) (Ix.of hml.1 hM) ?_
      refine V_if_eq (tgt := 57) d_Re_holesAbove_45 (by decide) (fun c1 => ?_) (fun c1 => ?_)
      · refine V_keep [0, 1, 2, 3, 4] ?_
        exact next s (by unfold hoS; rw [(bI_0 _).mp c1]; rfl)
      · have c1' : s.2.2.2 (mi w x y) = true := by simpa [bI_0] using c1
        refine V_iinc1 d_Re_holesAbove_48 rfl (by decide) rfl ?_
        refine V_aload_n d_Re_holesAbove_51 rfl ?_
        refine V_iload d_Re_holesAbove_52 rfl ?_
        refine V_cV s_Re_holesAbove_54 (do_Re_closeAround hL hw hht s.2.1 s.2.2.1 s.2.2.2 (mi w x y) hml.1 (InvC.of hs)) (rd hL rfl rfl) rfl rfl (Nat.le_of_ble_eq_true rfl) ?_
        rw [nI_1]
        refine V_keep [0, 1, 2, 3, 4] ?_
        exact next (s.1 + 1, bfR w (w * ht) 0 (ciS (mi w x y) (0, s.2.2.1, s.2.2.2))) (by unfold hoS; rw [c1']; rfl)
  have outer : ∀ (H0 : List Ce) (m y : Nat) (s : Ho), y + m = ht → (∀ k, s.2.2.2 k = true → inn w ht k) → S = fori (fun y s => fori (fun x s => hoS w ht y x s) w 0 s) m y s → V l G k_Re_holesAbove H0 9 [(0, .ref 22), (1, .int lv), (2, .int (nI s.1)), (3, .int (nI y))] [] (hoH h w ht f ra Dp Df C s.2) (ri (nI S.1)) (hoH h w ht f ra Dp Df C S.2) := by
    intro H0 m
    induction m with
    | zero =>
      intro y s hy hs e
      obtain rfl : y = ht := by omega
      rw [show S = s from e]
      refine V_iload_n d_Re_holesAbove_9 rfl ?_
      refine V_aload_n d_Re_holesAbove_10 rfl ?_
      refine V_gf g_Re_holesAbove_11 (rd hL rfl rfl) rfl ?_
      refine V_icmp_ge (tgt := 69) d_Re_holesAbove_14 (by decide) (fun _ => ?_) (fun c9 => absurd ((nI_le (Nat.le_refl _) (by omega))) c9)
      refine V_iload_n d_Re_holesAbove_69 rfl ?_
      exact V_iret d_Re_holesAbove_70 rfl rfl
    | succ m ih =>
      intro y s hy hs e
      rw [fori_s] at e
      refine V_iload_n d_Re_holesAbove_9 rfl ?_
      refine V_aload_n d_Re_holesAbove_10 rfl ?_
      refine V_gf g_Re_holesAbove_11 (rd hL rfl rfl) rfl ?_
      refine V_icmp_ge (tgt := 69) d_Re_holesAbove_14 (by decide) (fun c9 => absurd c9 ((nI_ge (by omega) (by omega) : ¬ nI ht ≤ nI y))) (fun _ => ?_)
      refine V_iconst (v := 0) d_Re_holesAbove_17 (by decide) ?_
      refine V_istore d_Re_holesAbove_18 (by decide) rfl ?_
      refine inner H0 y (by omega) w 0 s (by omega) hs (fun hs' => ?_)
      refine V_iinc1 d_Re_holesAbove_63 rfl (by decide) rfl ?_
      refine V_goto (tgt := 9) d_Re_holesAbove_66 (by decide) ?_
      rw [nI_1]
      exact ih (y + 1) _ (by omega) hs' e
  refine V_aload_n d_Re_holesAbove_0 rfl ?_
  refine V_iload_n d_Re_holesAbove_1 rfl ?_
  refine V_cV s_Re_holesAbove_2 (do_Re_openAbove hL hw hht q0 Q op lv) (rd hL rfl rfl) rfl rfl (Nat.le_of_ble_eq_true rfl) ?_
  refine V_iconst (v := 0) d_Re_holesAbove_5 (by decide) ?_
  refine V_istore_n d_Re_holesAbove_6 (by decide) rfl ?_
  refine V_iconst (v := 0) d_Re_holesAbove_7 (by decide) ?_
  refine V_istore_n d_Re_holesAbove_8 (by decide) rfl ?_
  exact outer _ ht 0 (0, q0, Q, oaR Df w ht lv op) (by omega) (oaR_inn hop lv) hS9
end P22
end
section
/-- a launch without stack traces -/
def NoTr (l : Launch) : Prop := ∀ e : Env, l.admits e → e.platform.stackTraces = false
section P23
variable {l : Launch} {G : Gb} {K : Kt} {pc : Nat} {ls : List (Nat × Value)} {st : List Value} {h : List Ce} {r : Rs} {h' : List Ce}
/-- as V, at a point where the method has written and made nothing yet -/
def V0 (l : Launch) (G : Gb) (K : Kt) (pc : Nat) (ls : List (Nat × Value)) (st : List Value) (h : List Ce) (r : Rs) (h' : List Ce) : Prop :=
  h.length ≤ h'.length ∧ sl h ≤ sl h' ∧ ∀ {p : Program} {e : Env} {s : State} {m : MethodId} {args : Array Value} {below : List Frame} {meth : Method} {c : Code} {lsA : Array Slot},
    Cx G K p s m args meth c → va_P G.D cls (wl G h) s.heap → s.heap.size = G.b + h.length → lv_has lsA K.maxL (mv G ls) →
    W p l e (rmK K h h') s m args below meth c s.heap [] 0 0 (Fin' G below s h r h') (F0 m pc lsA (st.map (sv G)))
theorem Do.of0 {vs : List Value} (hy : plainName K.y.cls = true) (hn : (lg_sl vs).length ≤ K.maxL) (hw : K.w ∈ tw) (kk : V0 l G K 0 (lv_args 0 vs) [] h r h') : Do l G K vs h r h' := by
  refine ⟨kk.1, kk.2.1, MetFree.of_bodyS (code := K.code) (maxLocals := K.maxL) (ret := K.ret) hy ?_ ?_⟩
  · intro args s m hp hnm
    have hk := atoms_spec (ws := K.w :: tw) hp _ List.mem_cons_self
    obtain ⟨y, code, maxL, ret, fr, lo, hd⟩ := K
    cases hd with
    | nil =>
      obtain ⟨meth, c, h1, h2, h3, h4, h5, h6, -, -⟩ := Cond.code_spec hnm hk
      exact ⟨meth, c, h1, h2, h3, h4, h5, h6⟩
    | cons q t =>
      obtain ⟨m', meth, c, hn', h1, h2, h3, h4, -, h5, h6, -⟩ := Cond.codeWith_spec hk
      cases hnm.symm.trans hn'
      exact ⟨meth, c, h1, h2, h3, h4, h5, h6⟩
  · intro p e s m args below meth c s₁ B hml hP _
    obtain ⟨rfl, hP, hz, hX, hb, hK, hE⟩ := hP
    have hh0 : s₁.heap = s.heap := by rw [B.state]; rfl
    have hall := atoms_spec (ws := K.w :: tw) B.pre
    have hcode : meth.code = some c := (Stand.of_body B).code
    have hdl' : hdl c = K.hd := by
      have hk := hall _ List.mem_cons_self
      obtain ⟨y, code, maxL, ret, fr, lo, hd⟩ := K
      cases hd with
      | nil =>
        obtain ⟨meth', c', h1, h2, h3, h4, h5, h6, h7, -⟩ := Cond.code_spec B.named hk
        cases B.method.symm.trans h1
        cases hcode.symm.trans h2
        have : c.exceptionTable.toList = [] := by simpa using h7
        simp [hdl, this]
      | cons q t =>
        obtain ⟨m', meth', c', hn', h1, h2, h3, h4, h5, -, -, -⟩ := Cond.codeWith_spec hk
        cases B.named.symm.trans hn'
        cases B.method.symm.trans h1
        cases hcode.symm.trans h2
        exact h5
    have C : Cx G K p s m (vs.map (sv G)).toArray meth c := ⟨B.exec, B.bytes, hml, B.returns, B.notSynchronized, findClass_of_methodNamed B.named, (name_of_methodNamed B.named B.method).1, hdl', fun w hw => hall w (List.mem_cons_of_mem _ hw), hK, hE, hX, hb, by omega⟩
    have hl := lv_entry (vs.map (sv G)) (n := K.maxL) (by rw [lg_sl_mv]; exact hn)
    rw [lv_args_mv] at hl
    have w := kk.2.2 (e := e) (below := below) C hP hz hl
    obtain ⟨t, a1, b1, b2, b3, b4, b5⟩ := w s₁ hh0 (Stand.of_body B)
    refine ⟨t, oc G r, ?_, b1, b2, rfl, b3, b4, b5⟩
    rw [lg_entry_eq]
    exact a1
theorem V0_go {pc' : Nat} {st' : List Value} (kk : V0 l G K pc' ls st' h r h') (f : ∀ {p : Program} {e : Env} {R : Room} {s : State} {m : MethodId} {args : Array Value} {below : List Frame} {meth : Method} {c : Code} {H : Heap} {locs : List Loc} {cells slots : Nat} {Q : State → Prop} {lsA : Array Slot}, Cx G K p s m args meth c → lv_has lsA K.maxL (mv G ls) → W p l e R s m args below meth c H locs cells slots Q (F0 m pc' lsA (st'.map (sv G))) → W p l e R s m args below meth c H locs cells slots Q (F0 m pc lsA (st.map (sv G)))) : V0 l G K pc ls st h r h' :=
  ⟨kk.1, kk.2.1, fun C hP hz hl => f C hl (kk.2.2 C hP hz hl)⟩
theorem V0_iload_n {k : Fin 4} {x : Int32} (hd : decode K.code pc = .ok (.iload_n k, 1)) (e : lg ls k = some (.int x)) (kk : V0 l G K (pc + 1) ls (.int x :: st) h r h') : V0 l G K pc ls st h r h' := V0_go kk (fun C hl w => lv_iload_n C.1 C.2.1 hd rfl (lg_at hl e) w)
theorem V0_ifne_f {x : Int32} {off : Int} {tgt : Nat} (hd : decode K.code pc = .ok (.ifCond .ne off, 3)) (ht : (pc : Int) + off = (tgt : Int)) (hx : x = 0) (kk : V0 l G K (pc + 3) ls st h r h') : V0 l G K pc ls (.int x :: st) h r h' := V0_go kk (fun C hl w => lv_if_ne C.1 C.2.1 hd ht (fun q => absurd hx q) (fun _ => w))
theorem V0_swOut {dflt lo hi : Int} {offs : Array Int} {len : Nat} {x : Int32} {tgt : Nat} (hd : decode K.code pc = .ok (.tableswitch dflt lo hi offs, len)) (h1 : x.toInt < lo ∨ hi < x.toInt) (ht : (pc : Int) + dflt = (tgt : Int)) (kk : V0 l G K tgt ls st h r h') : V0 l G K pc ls (.int x :: st) h r h' := V0_go kk (fun C hl w => lv_tableOut C.1 C.2.1 hd h1 ht w)
theorem W.ldcS {p : Program} {e : Env} {R : Room} {s : State} {m : MethodId} {args : Array Value} {below : List Frame} {meth : Method} {c : Code} {H : Heap} {locs : List Loc} {cells slots : Nat} {Q : State → Prop} {cc : ByteArray} (hexec : p.tables.exec = Jvm.exec) (hb : c.code = cc) {own tx : String} {index pc : Nat} {ls : Array Slot} {rest : List Value} (hown : s.vm.findClass own = some m.cls) (hw : (Cond.stringRef own index tx).before args s = true) (hdg : decode cc pc = .ok (.ldc index, 2)) (kk : ∀ a : Nat, W p l e R s m args below meth c H locs cells slots Q (F0 m (pc + 2) ls (.ref a :: rest))) : W p l e R s m args below meth c H locs cells slots Q (F0 m pc ls rest) := by
  intro T hT X
  have hT' : (Cond.stringRef own index tx).before args T = true := okW_at (w := .stringRef own index tx) rfl X.warmed hw
  obtain ⟨k, cf, i, a, hk, hcf, hcp, -, hr, hev⟩ := Cond.stringRef_spec (show T.vm.findClass own = some m.cls by rw [X.warmed.alike.findClass]; exact hown) hT'
  obtain ⟨t, a1, b1⟩ := kk a T hT X
  refine ⟨t, ?_, b1⟩
  jvm_step X.here [X.here.top, hexec, hb, hdg, ldc.at_string (e := e) (s := T) (fm := m) (fpc := pc) (fls := ls) (flk := none) (fen := []) (fst := rest) X.here.top hk hcf hcp hr]
  exact a1
theorem V0_thr (hNT : NoTr l) {ixN ixS ic ci : Nat} {tx X9 : String} {names : List String} {T9 : u_T} (d0 : decode K.code pc = .ok (.new ixN, 3)) (d1 : decode K.code (pc + 3) = .ok (.dup, 1)) (d2 : decode K.code (pc + 3 + 1) = .ok (.ldc ixS, 2)) (d3 : decode K.code (pc + 3 + 1 + 2) = .ok (.invokespecial ic, 3)) (d4 : decode K.code (pc + 3 + 1 + 2 + 3) = .ok (.athrow, 1)) (hhd : K.hd = []) (hlink : Cond.classLink K.y.cls ixN X9 ∈ tw) (hins : Cond.instantiable X9 6 ∈ tw) (hini : Cond.initialized X9 ∈ tw) (hstr : Cond.stringRef K.y.cls ixS tx ∈ tw) (hfit : Bundle.fit X9 = true) (hnm : ∀ n ∈ names, Bundle.fit n = true) (hown : ∀ a ∈ Bundle.ownAtoms K.y.cls ic X9 names, a ∈ tw ∨ a ∈ evw) (hc : cls[ci]? = some (X9, T9, 0)) (hcs : csz ci = 6) (hf : names.length + 3 < K.fr) (hlo : 9 + (13 * (names.length + 1) + 42) ≤ K.lo) (hst : (st.map fun v => v.category).sum ≤ 8) : V0 l G K pc ls st h (.inr h.length) (h ++ [.inr (ci, [])]) := by
  have e1 : (h ++ [(.inr (ci, []) : Ce)]).length = h.length + 1 := by simp
  have e2 : sl (h ++ [(.inr (ci, []) : Ce)]) = sl h + 6 := by rw [sl_app]; simp [sl, sl1, hcs]
  refine ⟨by omega, by omega, ?_⟩
  intro p e s m args below meth c lsA X0 hP hz hl
  have hKn := X0.kn.1 ci _ hc
  have hc1 : 0 + 1 ≤ (rmK K h (h ++ [(.inr (ci, []) : Ce)])).cells := by show _ ≤ (h ++ [_]).length - h.length; omega
  have hc2 : 0 + 6 ≤ (rmK K h (h ++ [(.inr (ci, []) : Ce)])).slots := by show _ ≤ sl (h ++ [_]) - sl h; omega
  refine W.newcK (h := G.b + h.length) X0.1 X0.2.1 X0.own (X0.tw _ hlink) (X0.tw _ hins) (X0.tw _ hini) rfl d0 hc1 hc2 hKn.2.1 hz (fun H1 kC hkC e3 z1 o1 => ?_)
  refine lv_dup (va := .ref (G.b + h.length)) X0.1 X0.2.1 d1 rfl ?_
  refine W.ldcS X0.1 X0.2.1 X0.own (X0.tw _ hstr) d2 (fun a9 => ?_)
  intro T hT X
  have htab : c.exceptionTable.toList = [] := by
    have := X0.2.2.2.2.2.2.2.1
    rw [hhd] at this
    simpa [hdl] using this
  obtain ⟨U, u1, u2, u3, u4, u5, ce, u6, u7⟩ := X.ctorThrowS X0.1 (hNT e X.admits) (own := K.y.cls) (cls := X9) (names := names) (ic := ic) X0.own hfit hnm (fun a ha => (hown a ha).elim (fun q => X0.tw a q) (fun q => X0.ev.use q)) (fun x hx => by cases hx) (a := G.b + h.length) hKn.2.1 hkC (by rw [hT]; exact e3) (by rw [hz]; exact Nat.le_refl _) (msg := .ref a9) rfl (g := F0 m (pc + 3 + 1 + 2) lsA (.ref a9 :: .ref (G.b + h.length) :: .ref (G.b + h.length) :: st.map (sv G))) rfl (hl.1.trans X0.2.2.1.symm) rfl rfl (rest := st.map (sv G)) rfl (by rw [X0.2.1]; exact d3) (by rw [X0.2.1]; exact d4) (by rw [htab]; intro x hx; cases hx) hf (by show 2 * 0 + _ + _ ≤ K.lo; rw [List.map_cons, List.sum_cons, cat_map]; show 2 * 0 + (1 + _) + _ ≤ K.lo; omega) X0.2.2.2.2.1
  refine ⟨U, u1, u2, u3, ?_, u4, [], ?_, fun q hq => by cases hq⟩
  · intro k q hq
    obtain ⟨c9, hc9, rfl⟩ := wl_of hq
    by_cases hk : k < h.length
    · rw [List.getElem?_append_left hk] at hc9
      have ha := hP k _ (wl_at hc9)
      obtain ⟨ce9, hce9⟩ : ∃ ce9, s.heap[G.b + k]? = some ce9 := ⟨_, Array.getElem?_eq_getElem ha.lt⟩
      refine ha.kept ?_
      show U.heap[G.b + k]? = s.heap[G.b + k]?
      rw [hce9]
      exact u5.kept_off (fun i hi => by cases hi) hce9
    · have hk2 : k = h.length := by
        have := (List.getElem?_eq_some_iff.mp hc9).1
        omega
      subst hk2
      rw [List.getElem?_append_right (Nat.le_refl _), Nat.sub_self] at hc9
      cases hc9
      exact ⟨_, hc, ce, u6, Option.some.inj (u7.cls.symm.trans hKn.2.1), u7.vm, fun j hj => absurd hj (Nat.not_lt_zero j)⟩
  · rw [e1, e2, show h.length + 1 - h.length = 0 + 1 by omega, show sl h + 6 - sl h = 0 + 6 by omega]
    exact u5
end P23
end
section
section P24
section A24
variable {e : Env} {s : State} {f : JFrame} {a : Addr}
/-- an entry of the table whose class is linked now, or was before: the search goes on from the tables in which it is noted -/
theorem goCold {Q : Handler → Jvm.Pre} {E : Jvm.CtlPost} {d : Bool} {acts : List Action} {x : ExceptionTableEntry} {t : List ExceptionTableEntry} {c : ClassId} {vm' : Vm} {cell : Cell} (hx : covers x f.pc = true) (h0 : x.catchType ≠ 0) (hg : (Jvm.resolveClass f.method.cls x.catchType).Gives e.toSetting s.vm (.ok c) vm') (hsz : vm'.classes.size ≤ s.vm.classes.size) (hcell : s.heap[a]? = some cell) (hobj : ∀ k, cell.vm ≠ .statics k)
    (hk : ∃ k, vm'.classes[cell.cls]? = some k) (hc : ∃ k, vm'.classes[c]? = some k) :
    wp (findHandler.go f a (x :: t)) Q E e d acts s ↔ if vm'.assignable cell.cls c = true then Q (.found x.handlerPc) d acts (s.setVm vm') else wp (findHandler.go f a t) Q E e d acts (s.setVm vm') := by
  simp only [covers] at hx
  obtain ⟨ha, ht⟩ := hg.op (op := VmOp.resolveClass f.method.cls x.catchType) rfl
  cases hfit : vm'.assignable cell.cls c <;>
    simp [findHandler.go, hx, h0, ha, ht, hsz, hcell, hobj, hk, hc, hfit, VmOp.dirties, VmOp.acts]
def FindsTo (e : Env) (s : State) (f : JFrame) (a : Addr) (h : Handler) (s' : State) : Prop :=
  ∀ (Q : Handler → Jvm.Pre) (E : Jvm.CtlPost) (d : Bool) (acts : List Action), wp (findHandler f a) Q E e d acts s ↔ Q h d acts s'
theorem catchTo {r : List Frame} {pc : Nat} {s' : State} (hfind : FindsTo e s f a (.found pc) s') : (stepThrowing e s a (.java f :: r)).Is (s'.setFrames (.java { f with pc := pc, stack := [.ref a] } :: r)) [] := by
  simp only [stepThrowing, searchFrame, vmDo]
  generalize hr : Sem.go _ e false [] s = res
  obtain ⟨as, rfl, ha⟩ := Sem.eq_ok_of hr (a := Handler.found pc) (s' := s') (acts' := []) (by simp [hfind _ _ _ _])
  exact ⟨rfl, ha⟩
theorem caughtTo {tb : Tables} {target : State} {g : JFrame} {c : Code} {below : List Frame} {vm' : Vm} (h : At s g.method c below) {pc : Nat} (hfind : FindsTo e ((s.setTop g).pushFrame (.throwing a)) g a (.found pc) ((((s.setTop g).pushFrame (.throwing a))).setVm vm'))
    (hrest : Steps tb e below ((s.setVm vm').setTop { g with pc := pc, stack := [.ref a] }) target) : Steps tb e below ((s.setTop g).pushFrame (.throwing a)) target := by
  obtain ⟨hgo, hw⟩ := h.throwing a
  refine Steps.head hgo hw ?_
  rw [stepThread_throwing (frames_entered h.top _), (catchTo (s := (s.setTop g).pushFrame (.throwing a)) hfind).1]
  obtain ⟨g₀, hg⟩ := Option.isSome_iff_exists.mp h.top
  obtain ⟨r, hr⟩ := State.topJava?_eq_some.mp hg
  have e9 : ((((s.setTop g).pushFrame (.throwing a))).setVm vm') = (((s.setVm vm').setTop g).pushFrame (.throwing a)) := rfl
  have hr' : (s.setVm vm').frames = .java g₀ :: r := hr
  rw [e9, State.pushFrame, State.setFrames_setFrames, State.setTop_of_frames _ hr', State.setFrames_setFrames]
  rw [State.setTop_of_frames _ hr'] at hrest
  rw [hr]
  exact hrest
end A24
variable {l : Launch} {G : Gb} {K : Kt} {h0 : List Ce} {pc : Nat} {ls : List (Nat × Value)} {st : List Value} {h : List Ce} {r : Rs} {h' : List Ce}
/-- the search through the table: entries of other classes, then the one -/
theorem goAll {p : Program} {s : State} {m : MethodId} {args : Array Value} {meth : Method} {c : Code} {e : Env} {own X9 : String} {f : JFrame} {ad : Nat} {cell : Cell} {x : ExceptionTableEntry} {post : List ExceptionTableEntry} (hpl : e.platform.magicAccessors = ({} : Platform).magicAccessors) (hown : s.vm.findClass own = some f.method.cls) (hX : s.vm.findClass X9 = some cell.cls) (hobj : ∀ k, cell.vm ≠ .statics k) (hx : covers x f.pc = true) (hx0 : x.catchType ≠ 0) (hxl : (Cond.classLink own x.catchType X9).before args s = true) (hxc : s.vm.assignable cell.cls cell.cls = true) :
    ∀ (pre : List ExceptionTableEntry) (U : State), (∀ y ∈ pre, covers y f.pc = true ∧ y.catchType ≠ 0 ∧ ∃ Y, (Cond.classLink own y.catchType Y).before args s = true ∧ va_Nc X9 Y s) → s.WarmedH U.vm → U.heap[ad]? = some cell →
      ∃ vm', s.WarmedH vm' ∧ ∀ (Q : Handler → Jvm.Pre) (E : Jvm.CtlPost) (d : Bool) (acts : List Action), wp (findHandler.go f ad (pre ++ x :: post)) Q E e d acts U ↔ Q (.found x.handlerPc) d acts (U.setVm vm') := by
  have link : ∀ (U : State) (y : ExceptionTableEntry) (Y : String), (Cond.classLink own y.catchType Y).before args s = true → s.WarmedH U.vm → ∃ cY vm', s.vm.findClass Y = some cY ∧ (Jvm.resolveClass f.method.cls y.catchType).Gives e.toSetting U.vm (.ok cY) vm' ∧ vm'.classes.size ≤ U.vm.classes.size ∧ s.WarmedH vm' := by
    intro U y Y hl hW
    obtain ⟨cY, hcY, hlk⟩ := Cond.classLink_spec hown hl e.platform hpl
    obtain ⟨dk, _, _, _, hd, _, _, _, _, _, _, hres⟩ := hlk.here
    refine ⟨cY, U.vm.noted f.method.cls y.catchType (.cls cY), hcY, resolveClass_links e.toSetting (hW.classLinks hlk), by no_record, hW.noted hd hres (State.rightAt_cls hlk)⟩
  have known : ∀ (vm' : Vm) (n : String) (cn : ClassId), s.WarmedH vm' → s.vm.findClass n = some cn → ∃ k, vm'.classes[cn]? = some k := by
    intro vm' n cn hW hn
    exact Vm.classAt_of_findClass (name := n) (by rw [hW.alike.findClass]; exact hn)
  intro pre
  induction pre with
  | nil =>
    intro U _ hW hcell
    obtain ⟨cY, vm', h1, h2, h3, h4⟩ := link U x X9 hxl hW
    cases hX.symm.trans h1
    refine ⟨vm', h4, fun Q E d acts => ?_⟩
    rw [List.nil_append, goCold hx hx0 h2 h3 hcell hobj (known vm' X9 _ h4 hX) (known vm' X9 _ h4 hX), if_pos (by rw [h4.alike.assignable]; exact hxc)]
  | cons y t ih =>
    intro U hpre hW hcell
    obtain ⟨hy1, hy2, Y, hy3, hy4⟩ := hpre y List.mem_cons_self
    obtain ⟨cY, vm1, h1, h2, h3, h4⟩ := link U y Y hy3 hW
    obtain ⟨cX, cY', k1, k2, k3⟩ := hy4
    cases hX.symm.trans k1
    cases h1.symm.trans k2
    obtain ⟨vm', g1, g2⟩ := ih (U.setVm vm1) (fun z hz => hpre z (List.mem_cons_of_mem _ hz)) h4 hcell
    refine ⟨vm', g1, fun Q E d acts => ?_⟩
    rw [List.cons_append, goCold hy1 hy2 h2 h3 hcell hobj (known vm1 X9 _ h4 hX) (known vm1 Y _ h4 h1), if_neg (by rw [h4.alike.assignable, k3]; decide), g2]
    rfl
/-- the callee throws, and this method catches: the entries ahead are of other classes -/
theorem V_catch {j : Kt} {As rest : List Value} {h1 : List Ce} {a ci hpc ct p1 p2 : Nat} {X9 : String} {T9 : u_T} {pre post : List (Nat × Nat × Nat × Nat)} {ig : Instr} (hd : decode K.code pc = .ok (ig, 3)) (ft : Fit K j) (lk9 : Link l G K j pc h As rest st) (hrest : (rest.map fun v => v.category).sum ≤ 8) (hD : Do l G j As h (.inr a) h1) (hcell : h1[a]? = some (.inr (ci, []))) (hc : cls[ci]? = some (X9, T9, 0)) (hhd : K.hd = pre ++ (p1, p2, hpc, ct) :: post) (hcov : p1 ≤ pc ∧ pc < p2 ∧ ct ≠ 0) (hlink : Cond.classLink K.y.cls ct X9 ∈ tw) (hself : Cond.castable X9 X9 ∈ tw) (hpre : ∀ y ∈ pre, y.1 ≤ pc ∧ pc < y.2.1 ∧ y.2.2.2 ≠ 0 ∧ ∃ Y, Cond.classLink K.y.cls y.2.2.2 Y ∈ tw ∧ ∀ (U : State) (H : Heap), Ev G U H → va_Nc X9 Y U) (kk : V l G K h0 hpc ls [.ref (a + 1)] h1 r h') : V l G K h0 pc ls st h r h' := by
  have d1 := hD.1
  have d2 := hD.2.1
  have k1 := kk.1
  have k2 := kk.2.1
  refine ⟨Nat.le_trans d1 k1, Nat.le_trans d2 k2, ?_⟩
  intro p e s m args below meth c H locs lsA X0 hP a1 a2 a3 a4 hl T hT X
  subst hT
  have hz := sz_of (G := G) X a1 a2 hP
  obtain ⟨mk, vm', hn, X1, hstep⟩ := lk9 X0 X hP hl.1
  have hdg : decode c.code pc = .ok (ig, 3) := by rw [X0.2.1]; exact hd
  obtain ⟨s₂, Ls, hst, hend, hP2, hW2, hsame, hL⟩ := callDo hD ft.1 ft.2.1 X0 X1 hP hz a4 (g := F0 m pc lsA (rest.map (sv G))) rfl (hl.1.trans X0.2.2.1.symm) hdg hn ft.2.2.1
    (by show 2 * 0 + _ + _ + _ ≤ K.lo; have := ft.2.2.2; rw [cat_map]; omega) (by show _ ≤ h'.length - h0.length; omega) (by show _ ≤ sl h' - sl h0; omega)
  obtain ⟨T', X', hW', hsm, ht⟩ := X1.outOfThrown (g := F0 m pc lsA (rest.map (sv G))) rfl hend hW2 hsame
  have e1 : s₂.heap = T'.heap := by rw [ht]; exact Stand.throwing_heap _ _ _
  have hS' : va_S (Ar G) s.heap T'.heap (locs ++ Ls) := va_S.call (T := T.setVm vm') (U := T'.setVm (T.setVm vm').vm) a4 hsm hL
  rw [show h.length - h0.length + (h1.length - h.length) = h1.length - h0.length by omega, show sl h - sl h0 + (sl h1 - sl h) = sl h1 - sl h0 by omega] at X'
  have hP3 : va_P G.D cls (wl G h1) T'.heap := by rw [← e1]; exact hP2
  obtain ⟨cell, q1, q2, q3⟩ := recvOf X0 hP3 hcell hc
  have htab : ∃ (pr : List ExceptionTableEntry) (x : ExceptionTableEntry) (po : List ExceptionTableEntry), c.exceptionTable.toList = pr ++ x :: po ∧ pr.map (fun h => (h.startPc, h.endPc, h.handlerPc, h.catchType)) = pre ∧ (x.startPc, x.endPc, x.handlerPc, x.catchType) = (p1, p2, hpc, ct) := by
    have h9 : hdl c = pre ++ (p1, p2, hpc, ct) :: post := X0.2.2.2.2.2.2.2.1.trans hhd
    obtain ⟨pr, z1, w1, w2, w3⟩ := List.map_eq_append_iff.mp h9
    obtain ⟨x, po, w4, w5, w6⟩ := List.map_eq_cons_iff.mp w3
    exact ⟨pr, x, po, by rw [w1, w4], w2, w5⟩
  obtain ⟨pr, x, po, t1, t2, t3⟩ := htab
  simp only [Prod.mk.injEq] at t3
  obtain ⟨t3, t4, t5, t6⟩ := t3
  obtain ⟨_, _, f1, f2, f3⟩ := Cond.castable_spec (X0.tw _ hself)
  cases q3.symm.trans f1
  cases q3.symm.trans f2
  obtain ⟨vm2, g1, g2⟩ := goAll (p := p) (m := m) (meth := meth) (c := c) (e := e) (own := K.y.cls) (X9 := X9) (f := F0 m pc lsA (rest.map (sv G))) (ad := G.b + a) (cell := cell) (x := x) (post := po) (args := args) (by rw [X.admits.platform]) X0.own q3 q2 (by simp [covers, t3, t4, hcov.1, hcov.2.1]) (by rw [t6]; exact hcov.2.2) (by rw [t6]; exact X0.tw _ hlink) f3 pr (((T'.setTop (F0 m pc lsA (rest.map (sv G)))).pushFrame (.throwing (G.b + a)))) (fun y hy => by
      have hm : (y.startPc, y.endPc, y.handlerPc, y.catchType) ∈ pre := by rw [← t2]; exact List.mem_map.mpr ⟨y, hy, rfl⟩
      obtain ⟨b1, b2, b3, Y, b4, b5⟩ := hpre _ hm
      exact ⟨by simp [covers]; exact ⟨b1, b2⟩, b3, Y, X0.tw _ b4, b5 s _ X0.ev⟩) (by rw [Stand.throwing_vm]; exact X'.warmed) (by rw [Stand.throwing_heap]; exact q1)
  have hfind : FindsTo e ((T'.setTop (F0 m pc lsA (rest.map (sv G)))).pushFrame (.throwing (G.b + a))) (F0 m pc lsA (rest.map (sv G))) (G.b + a) (.found hpc) (((T'.setTop (F0 m pc lsA (rest.map (sv G)))).pushFrame (.throwing (G.b + a))).setVm vm2) := by
    intro Q E d acts
    rw [W.findHandler_eq (meth := meth) (code := c) (by rw [Stand.throwing_vm]; exact X'.method') X'.code, t1, g2, t5]
  have X2 := X'.noted g1
  have w := kk.2.2 (e := e) (below := below) (H := T'.heap) (locs := locs ++ Ls) X0 hP3 a1 (by omega) (by omega) hS' hl
  obtain ⟨t, b1, b2⟩ := w (T'.setVm vm2) rfl X2
  refine ⟨t, hstep _ (fun acts => ?_), b2⟩
  rw [doInvoke_state]
  refine hst.trans ?_
  rw [ht]
  exact caughtTo X'.here hfind b1
end P24
end
section
section P25
variable {l : Launch} {G : Gb} {h : List Ce}
/-- the cells of the list are there -/
def okS (h : List Ce) (l : List (Nat × Ce)) : Prop := ∀ k c, lk l k = some c → h[k]? = some c
theorem okS_nil : okS h [] := fun k c e => by cases e
theorem okS_cons {k : Nat} {c : Ce} {t : List (Nat × Ce)} (h1 : h[k]? = some c) (h2 : okS h t) : okS h ((k, c) :: t) := by
  intro j d e
  simp only [lk] at e
  by_cases q : k = j
  · subst q; rw [if_pos rfl] at e; cases e; exact h1
  · rw [if_neg q] at e; exact h2 j d e
abbrev exI : Ce := .inr (9, [])
abbrev exA : Ce := .inr (10, [])
abbrev exS : Ce := .inr (11, [])
theorem ownOf {own : String} {ic : Nat} {X9 : String} {names : List String} (hh : (Bundle.ownAtoms own ic X9 names).all (fun a => decide (a ∈ lw_tbl) && okW a || decide (a ∈ evw)) = true) : ∀ a ∈ Bundle.ownAtoms own ic X9 names, a ∈ tw ∨ a ∈ evw := by
  intro a ha
  have := List.all_eq_true.mp hh a ha
  simp only [Bool.or_eq_true, Bool.and_eq_true, decide_eq_true_eq] at this
  exact this.imp (fun q => List.mem_filter.mpr q) id
theorem own9 : ∀ a ∈ Bundle.ownAtoms "PhotoModels" 194 "java/lang/IndexOutOfBoundsException" ["java/lang/RuntimeException", "java/lang/Exception"], a ∈ tw ∨ a ∈ evw := ownOf (by decide +kernel)
theorem own10 : ∀ a ∈ Bundle.ownAtoms "PhotoModels" 211 "java/lang/IllegalArgumentException" ["java/lang/RuntimeException", "java/lang/Exception"], a ∈ tw ∨ a ∈ evw := ownOf (by decide +kernel)
theorem own11 : ∀ a ∈ Bundle.ownAtoms "PhotoModels" 216 "java/lang/IllegalStateException" ["java/lang/RuntimeException", "java/lang/Exception"], a ∈ tw ∨ a ∈ evw := ownOf (by decide +kernel)
theorem ndI_t : Do l G k_Pm_needIndex [.int (bI true)] h rv h := by
  refine Do.of (by decide) (Nat.le_of_ble_eq_true rfl) kw_Pm_needIndex ?_
  refine V_iload_n d_Pm_needIndex_0 rfl ?_
  refine V_if_ne (tgt := 14) d_Pm_needIndex_1 (by decide) (fun _ => ?_) (fun c9 => absurd (c9 : _) ((by decide : ¬ bI true = 0)))
  exact V_vret d_Pm_needIndex_14 rfl
theorem ndA_t : Do l G k_Pm_needArgument [.int (bI true)] h rv h := by
  refine Do.of (by decide) (Nat.le_of_ble_eq_true rfl) kw_Pm_needArgument ?_
  refine V_iload_n d_Pm_needArgument_0 rfl ?_
  refine V_if_ne (tgt := 14) d_Pm_needArgument_1 (by decide) (fun _ => ?_) (fun c9 => absurd (c9 : _) ((by decide : ¬ bI true = 0)))
  exact V_vret d_Pm_needArgument_14 rfl
theorem ndS_t : Do l G k_Pm_needState [.int (bI true)] h rv h := by
  refine Do.of (by decide) (Nat.le_of_ble_eq_true rfl) kw_Pm_needState ?_
  refine V_iload_n d_Pm_needState_0 rfl ?_
  refine V_if_ne (tgt := 14) d_Pm_needState_1 (by decide) (fun _ => ?_) (fun c9 => absurd (c9 : _) ((by decide : ¬ bI true = 0)))
  exact V_vret d_Pm_needState_14 rfl
theorem ndI_f (hNT : NoTr l) : Do l G k_Pm_needIndex [.int (bI false)] h (.inr h.length) (h ++ [exI]) := by
  refine Do.of0 (by decide) (Nat.le_of_ble_eq_true rfl) kw_Pm_needIndex ?_
  refine V0_iload_n d_Pm_needIndex_0 rfl ?_
  refine V0_ifne_f (tgt := 14) d_Pm_needIndex_1 (by decide) (by decide) ?_
  exact V0_thr hNT (X9 := "java/lang/IndexOutOfBoundsException") (tx := "no such photo, cell, place or what") (names := ["java/lang/RuntimeException", "java/lang/Exception"]) d_Pm_needIndex_4 d_Pm_needIndex_7 d_Pm_needIndex_8 d_Pm_needIndex_10 d_Pm_needIndex_13 rfl (tx2 53 rfl rfl) (tx2 54 rfl rfl) (tx1 14 rfl rfl) (tx2 94 rfl rfl) (by decide) (by decide) own9 rfl rfl (by decide) (by decide) (Nat.le_of_ble_eq_true rfl)
theorem ndA_f (hNT : NoTr l) : Do l G k_Pm_needArgument [.int (bI false)] h (.inr h.length) (h ++ [exA]) := by
  refine Do.of0 (by decide) (Nat.le_of_ble_eq_true rfl) kw_Pm_needArgument ?_
  refine V0_iload_n d_Pm_needArgument_0 rfl ?_
  refine V0_ifne_f (tgt := 14) d_Pm_needArgument_1 (by decide) (by decide) ?_
  exact V0_thr hNT (X9 := "java/lang/IllegalArgumentException") (tx := "an argument is not in its range") (names := ["java/lang/RuntimeException", "java/lang/Exception"]) d_Pm_needArgument_4 d_Pm_needArgument_7 d_Pm_needArgument_8 d_Pm_needArgument_10 d_Pm_needArgument_13 rfl (tx2 124 rfl rfl) (tx2 125 rfl rfl) (tx1 15 rfl rfl) (tx2 133 rfl rfl) (by decide) (by decide) own10 rfl rfl (by decide) (by decide) (Nat.le_of_ble_eq_true rfl)
theorem ndS_f (hNT : NoTr l) : Do l G k_Pm_needState [.int (bI false)] h (.inr h.length) (h ++ [exS]) := by
  refine Do.of0 (by decide) (Nat.le_of_ble_eq_true rfl) kw_Pm_needState ?_
  refine V0_iload_n d_Pm_needState_0 rfl ?_
  refine V0_ifne_f (tgt := 14) d_Pm_needState_1 (by decide) (by decide) ?_
  exact V0_thr hNT (X9 := "java/lang/IllegalStateException") (tx := "not now") (names := ["java/lang/RuntimeException", "java/lang/Exception"]) d_Pm_needState_4 d_Pm_needState_7 d_Pm_needState_8 d_Pm_needState_10 d_Pm_needState_13 rfl (tx2 194 rfl rfl) (tx2 195 rfl rfl) (tx1 16 rfl rfl) (tx2 203 rfl rfl) (by decide) (by decide) own11 rfl rfl (by decide) (by decide) (Nat.le_of_ble_eq_true rfl)
theorem do_isPhoto (x : Int32) : Do l G k_Pm_isPhoto [.int x] h (rz (wiB x 0 3)) h := by
  refine Do.of (by decide) (Nat.le_of_ble_eq_true rfl) kw_Pm_isPhoto ?_
  refine V_iload_n d_Pm_isPhoto_0 rfl ?_
  refine V_iconst (v := 0) d_Pm_isPhoto_1 (by decide) ?_
  refine V_iconst (v := 3) d_Pm_isPhoto_2 (by decide) ?_
  refine V_cS s_Pm_isPhoto_3 (do_isWithin x 0 3) rfl rfl (Nat.le_of_ble_eq_true rfl) ?_
  exact V_iret d_Pm_isPhoto_6 rfl (by first | rfl | exact bI_n _)
theorem do_isAxis (x : Int32) : Do l G k_Pm_isAxis [.int x] h (rz (wiB x 0 1)) h := by
  refine Do.of (by decide) (Nat.le_of_ble_eq_true rfl) kw_Pm_isAxis ?_
  refine V_iload_n d_Pm_isAxis_0 rfl ?_
  refine V_iconst (v := 0) d_Pm_isAxis_1 (by decide) ?_
  refine V_iconst (v := 1) d_Pm_isAxis_2 (by decide) ?_
  refine V_cS s_Pm_isAxis_3 (do_isWithin x 0 1) rfl rfl (Nat.le_of_ble_eq_true rfl) ?_
  exact V_iret d_Pm_isAxis_6 rfl (by first | rfl | exact bI_n _)
def clI (x a b : Int32) : Int32 := if a < (if x < b then x else b) then (if x < b then x else b) else a
theorem do_within (x a b : Int32) : Do l G k_Pm_within [.int x, .int a, .int b] h (ri (clI x a b)) h := by
  refine Do.of (by decide) (Nat.le_of_ble_eq_true rfl) kw_Pm_within ?_
  refine V_iload_n d_Pm_within_0 rfl ?_
  refine V_iload_n d_Pm_within_1 rfl ?_
  refine V_iload_n d_Pm_within_2 rfl ?_
  refine V_min s_Pm_within_3 (Nat.le_of_ble_eq_true rfl) ?_
  refine V_max s_Pm_within_6 (Nat.le_of_ble_eq_true rfl) ?_
  exact V_iret d_Pm_within_9 rfl rfl
end P25
end
section
section P26
variable {l : Launch} {G : Gb} {h : List Ce} {w ht n : Nat} {f C Df ms wh P O PB OB Ln : Nat → Int32} {Dp F T : Nat → Nat} {As Bn op : Nat → Bool} {dn rc ra : Bool} {fx fy le sp bx y9 qd : Int32} {sd nm : Nat} {qu : Nat → Int32}
abbrev PmO : Ce := .inr (7, [.ref 2, .ref 4, .ref 6, .ref 10, .ref 13, .ref 18, .ref 22])
theorem wi_n {k b : Nat} (h1 : k ≤ b) (h2 : b < 2 ^ 31) : wiB (nI k) 0 (nI b) = true := by
  simp only [wiB, Bool.and_eq_true, decide_eq_true_eq]
  exact ⟨nI_pos' (by omega), nI_le h1 h2⟩
/-- pixel -/
theorem pm_pixel_i (hNT : NoTr l) (c_Pm : h[0]? = some PmO) (c_Ph : h[1]? = some (PhO w ht)) (p x y v : Int32) (hc : (wiB p 0 3 && (wiB x 0 (nI w - 1) && wiB y 0 (nI ht - 1))) = false) : Do l G k_Pm_pixel [.ref 1, .int p, .int x, .int y, .int v] h (.inr h.length) (h ++ [exI]) := by
  refine Do.of (by decide) (Nat.le_of_ble_eq_true rfl) kw_Pm_pixel ?_
  refine V_iload_n d_Pm_pixel_0 rfl ?_
  refine V_cS s_Pm_pixel_1 (do_isPhoto p) rfl rfl (Nat.le_of_ble_eq_true rfl) ?_
  refine V_if_eq (tgt := 23) d_Pm_pixel_4 (by decide) (fun c1 => ?_) (fun c1 => ?_)
  · refine V_iconst (v := 0) d_Pm_pixel_23 (by decide) ?_
    exact V_cSt s_Pm_pixel_24 (ndI_f hNT) rfl rfl (Nat.le_of_ble_eq_true rfl) rfl
  · have c1' : wiB p 0 3 = true := by simpa [bI_0] using c1
    rw [c1', Bool.true_and] at hc
    refine V_aload_n d_Pm_pixel_7 rfl ?_
    refine V_gf g_Pm_pixel_8 c_Pm rfl ?_
    refine V_iload_n d_Pm_pixel_11 rfl ?_
    refine V_iload_n d_Pm_pixel_12 rfl ?_
    refine V_cV s_Pm_pixel_13 (do_Ph_hasCell c_Ph x y) c_Ph rfl rfl (Nat.le_of_ble_eq_true rfl) ?_
    refine V_if_eq (tgt := 23) d_Pm_pixel_16 (by decide) (fun _ => ?_) (fun c9 => absurd (((bI_0 _).mpr hc)) c9)
    refine V_iconst (v := 0) d_Pm_pixel_23 (by decide) ?_
    exact V_cSt s_Pm_pixel_24 (ndI_f hNT) rfl rfl (Nat.le_of_ble_eq_true rfl) rfl
theorem pm_pixel_a (hNT : NoTr l) (c_Pm : h[0]? = some PmO) (c_Ph : h[1]? = some (PhO w ht)) (p x y v : Int32) (hc : (wiB p 0 3 && (wiB x 0 (nI w - 1) && wiB y 0 (nI ht - 1))) = true) (hv : wiB v 0 255 = false) : Do l G k_Pm_pixel [.ref 1, .int p, .int x, .int y, .int v] h (.inr h.length) (h ++ [exA]) := by
  refine Do.of (by decide) (Nat.le_of_ble_eq_true rfl) kw_Pm_pixel ?_
  simp only [Bool.and_eq_true] at hc
  refine V_iload_n d_Pm_pixel_0 rfl ?_
  refine V_cS s_Pm_pixel_1 (do_isPhoto p) rfl rfl (Nat.le_of_ble_eq_true rfl) ?_
  refine V_if_eq (tgt := 23) d_Pm_pixel_4 (by decide) (fun c9 => absurd c9 ((by rw [hc.1]; decide : ¬ bI (wiB p 0 3) = 0))) (fun _ => ?_)
  refine V_aload_n d_Pm_pixel_7 rfl ?_
  refine V_gf g_Pm_pixel_8 c_Pm rfl ?_
  refine V_iload_n d_Pm_pixel_11 rfl ?_
  refine V_iload_n d_Pm_pixel_12 rfl ?_
  refine V_cV s_Pm_pixel_13 (do_Ph_hasCell c_Ph x y) c_Ph rfl rfl (Nat.le_of_ble_eq_true rfl) ?_
  refine V_if_eq (tgt := 23) d_Pm_pixel_16 (by decide) (fun c9 => absurd c9 ((by rw [hc.2.1, hc.2.2]; decide : ¬ bI (wiB x 0 (nI w - 1) && wiB y 0 (nI ht - 1)) = 0))) (fun _ => ?_)
  refine V_iconst (v := 1) d_Pm_pixel_19 (by decide) ?_
  refine V_goto (tgt := 24) d_Pm_pixel_20 (by decide) ?_
  refine V_cS s_Pm_pixel_24 ndI_t rfl rfl (Nat.le_of_ble_eq_true rfl) ?_
  refine V_iload d_Pm_pixel_27 rfl ?_
  refine V_iconst (v := 0) d_Pm_pixel_29 (by decide) ?_
  refine V_sipush (v := 255) d_Pm_pixel_30 (by decide) ?_
  refine V_cS s_Pm_pixel_33 (do_isWithin v 0 255) rfl rfl (Nat.le_of_ble_eq_true rfl) ?_
  rw [hv]
  exact V_cSt s_Pm_pixel_36 (ndA_f hNT) rfl rfl (Nat.le_of_ble_eq_true rfl) rfl
theorem pm_pixel (c_Pm : h[0]? = some PmO) (c_Ph : h[1]? = some (PhO w ht)) (a_Ph_values : h[2]? = some (IA (4 * ht * w) f)) (hw : w ≤ 20) (hht : ht ≤ 20) (p x y : Nat) (v : Int32) (hp : p < 4) (hx : x < w) (hy : y < ht) (hv : wiB v 0 255 = true) : Do l G k_Pm_pixel [.ref 1, .int (nI p), .int (nI x), .int (nI y), .int v] h (ri (f (px w ht p x y))) (h.set 2 (IA (4 * ht * w) (upd f (px w ht p x y) v))) := by
  refine Do.of (by decide) (Nat.le_of_ble_eq_true rfl) kw_Pm_pixel ?_
  have hN : 4 * ht * w < 2 ^ 31 := by
    have : 4 * ht * w ≤ 4 * 20 * 20 := Nat.mul_le_mul (Nat.mul_le_mul_left _ hht) hw
    omega
  have e1 : wiB (nI p) 0 3 = true := wi_n (b := 3) (by omega) (by decide)
  have e2 : wiB (nI x) 0 (nI w - 1) = true := by rw [nIm1 (by omega)]; exact wi_n (by omega) (by omega)
  have e3 : wiB (nI y) 0 (nI ht - 1) = true := by rw [nIm1 (by omega)]; exact wi_n (by omega) (by omega)
  refine V_iload_n d_Pm_pixel_0 rfl ?_
  refine V_cS s_Pm_pixel_1 (do_isPhoto (nI p)) rfl rfl (Nat.le_of_ble_eq_true rfl) ?_
  refine V_if_eq (tgt := 23) d_Pm_pixel_4 (by decide) (fun c9 => absurd c9 ((by rw [e1]; decide : ¬ bI (wiB (nI p) 0 3) = 0))) (fun _ => ?_)
  refine V_aload_n d_Pm_pixel_7 rfl ?_
  refine V_gf g_Pm_pixel_8 c_Pm rfl ?_
  refine V_iload_n d_Pm_pixel_11 rfl ?_
  refine V_iload_n d_Pm_pixel_12 rfl ?_
  refine V_cV s_Pm_pixel_13 (do_Ph_hasCell c_Ph (nI x) (nI y)) c_Ph rfl rfl (Nat.le_of_ble_eq_true rfl) ?_
  refine V_if_eq (tgt := 23) d_Pm_pixel_16 (by decide) (fun c9 => absurd c9 ((by rw [e2, e3]; decide : ¬ bI (wiB (nI x) 0 (nI w - 1) && wiB (nI y) 0 (nI ht - 1)) = 0))) (fun _ => ?_)
  refine V_iconst (v := 1) d_Pm_pixel_19 (by decide) ?_
  refine V_goto (tgt := 24) d_Pm_pixel_20 (by decide) ?_
  refine V_cS s_Pm_pixel_24 ndI_t rfl rfl (Nat.le_of_ble_eq_true rfl) ?_
  refine V_iload d_Pm_pixel_27 rfl ?_
  refine V_iconst (v := 0) d_Pm_pixel_29 (by decide) ?_
  refine V_sipush (v := 255) d_Pm_pixel_30 (by decide) ?_
  refine V_cS s_Pm_pixel_33 (do_isWithin v 0 255) rfl rfl (Nat.le_of_ble_eq_true rfl) ?_
  rw [hv]
  refine V_cS s_Pm_pixel_36 ndA_t rfl rfl (Nat.le_of_ble_eq_true rfl) ?_
  refine V_aload_n d_Pm_pixel_39 rfl ?_
  refine V_gf g_Pm_pixel_40 c_Pm rfl ?_
  refine V_iload_n d_Pm_pixel_43 rfl ?_
  refine V_iload_n d_Pm_pixel_44 rfl ?_
  refine V_iload_n d_Pm_pixel_45 rfl ?_
  refine V_iload d_Pm_pixel_46 rfl ?_
  refine V_cV s_Pm_pixel_48 (do_Ph_change c_Ph a_Ph_values p x y v (px_lt hp hx hy) hN) c_Ph rfl rfl (Nat.le_of_ble_eq_true rfl) ?_
  exact V_iret d_Pm_pixel_51 rfl rfl
/-- match -/
theorem pm_match_i (hNT : NoTr l) (c_Pm : h[0]? = some PmO) (c_Ph : h[1]? = some (PhO w ht)) (a b x y : Int32) (hc : (wiB a 0 3 && (wiB b 0 3 && (wiB x 1 (nI w - 2) && wiB y 1 (nI ht - 2)))) = false) : Do l G k_Pm_match [.ref 1, .int a, .int b, .int x, .int y] h (.inr h.length) (h ++ [exI]) := by
  refine Do.of (by decide) (Nat.le_of_ble_eq_true rfl) kw_Pm_match ?_
  refine V_iload_n d_Pm_match_0 rfl ?_
  refine V_cS s_Pm_match_1 (do_isPhoto a) rfl rfl (Nat.le_of_ble_eq_true rfl) ?_
  refine V_if_eq (tgt := 31) d_Pm_match_4 (by decide) (fun c1 => ?_) (fun c1 => ?_)
  · refine V_iconst (v := 0) d_Pm_match_31 (by decide) ?_
    exact V_cSt s_Pm_match_32 (ndI_f hNT) rfl rfl (Nat.le_of_ble_eq_true rfl) rfl
  · have c1' : wiB a 0 3 = true := by simpa [bI_0] using c1
    rw [c1', Bool.true_and] at hc
    refine V_iload_n d_Pm_match_7 rfl ?_
    refine V_cS s_Pm_match_8 (do_isPhoto b) rfl rfl (Nat.le_of_ble_eq_true rfl) ?_
    refine V_if_eq (tgt := 31) d_Pm_match_11 (by decide) (fun c2 => ?_) (fun c2 => ?_)
    · refine V_iconst (v := 0) d_Pm_match_31 (by decide) ?_
      exact V_cSt s_Pm_match_32 (ndI_f hNT) rfl rfl (Nat.le_of_ble_eq_true rfl) rfl
    · have c2' : wiB b 0 3 = true := by simpa [bI_0] using c2
      rw [c2', Bool.true_and] at hc
      refine V_aload_n d_Pm_match_14 rfl ?_
      refine V_gf g_Pm_match_15 c_Pm rfl ?_
      refine V_iload_n d_Pm_match_18 rfl ?_
      refine V_iload d_Pm_match_19 rfl ?_
      refine V_cV s_Pm_match_21 (do_Ph_hasWindow c_Ph x y) c_Ph rfl rfl (Nat.le_of_ble_eq_true rfl) ?_
      refine V_if_eq (tgt := 31) d_Pm_match_24 (by decide) (fun _ => ?_) (fun c9 => absurd (((bI_0 _).mpr hc)) c9)
      refine V_iconst (v := 0) d_Pm_match_31 (by decide) ?_
      exact V_cSt s_Pm_match_32 (ndI_f hNT) rfl rfl (Nat.le_of_ble_eq_true rfl) rfl
theorem pm_match (hL : 27 ≤ h.length) (c_Pm : h[0]? = some PmO) (c_Ph : h[1]? = some (PhO w ht)) (a_Ph_values : h[2]? = some (IA (4 * ht * w) f)) (c_Se : h[3]? = some (SeO w ht dn fx fy le)) (a_Se_misses : h[4]? = some (IA (w * ht) ms)) (hw : 6 ≤ w ∧ w ≤ 20) (hht : 6 ≤ ht ∧ ht ≤ 20) (a b x y : Nat) (ha : a < 4) (hb : b < 4) (hx : 1 ≤ x ∧ x + 1 < w) (hy : 1 ≤ y ∧ y + 1 < ht) (S : Lk) (hS9 : S = lookR (fun u v => wmiss f w ht a x y b u v) w ht (2147483647, fx, fy, ms)) : Do l G k_Pm_match [.ref 1, .int (nI a), .int (nI b), .int (nI x), .int (nI y)] h (ri S.1) (lkH h w ht f true (lfR S.2.2.2 w ht S.2.1 S.2.2.1) S) := by
  refine Do.of (by decide) (Nat.le_of_ble_eq_true rfl) kw_Pm_match ?_
  have e1 : wiB (nI a) 0 3 = true := wi_n (b := 3) (by omega) (by decide)
  have e2 : wiB (nI b) 0 3 = true := wi_n (b := 3) (by omega) (by decide)
  have wi1 : ∀ k b : Nat, 1 ≤ k → k ≤ b → b < 1000 → wiB (nI k) 1 (nI b) = true := by
    intro k b q1 q2 q3
    simp only [wiB, Bool.and_eq_true, decide_eq_true_eq]
    exact ⟨nI_le (a := 1) q1 (by omega), nI_le q2 (by omega)⟩
  have e3 : wiB (nI x) 1 (nI w - 2) = true := by rw [nIm2 (by omega)]; exact wi1 _ _ hx.1 (by omega) (by omega)
  have e4 : wiB (nI y) 1 (nI ht - 2) = true := by rw [nIm2 (by omega)]; exact wi1 _ _ hy.1 (by omega) (by omega)
  refine V_iload_n d_Pm_match_0 rfl ?_
  refine V_cS s_Pm_match_1 (do_isPhoto (nI a)) rfl rfl (Nat.le_of_ble_eq_true rfl) ?_
  refine V_if_eq (tgt := 31) d_Pm_match_4 (by decide) (fun c9 => absurd c9 ((by rw [e1]; decide : ¬ bI (wiB (nI a) 0 3) = 0))) (fun _ => ?_)
  refine V_iload_n d_Pm_match_7 rfl ?_
  refine V_cS s_Pm_match_8 (do_isPhoto (nI b)) rfl rfl (Nat.le_of_ble_eq_true rfl) ?_
  refine V_if_eq (tgt := 31) d_Pm_match_11 (by decide) (fun c9 => absurd c9 ((by rw [e2]; decide : ¬ bI (wiB (nI b) 0 3) = 0))) (fun _ => ?_)
  refine V_aload_n d_Pm_match_14 rfl ?_
  refine V_gf g_Pm_match_15 c_Pm rfl ?_
  refine V_iload_n d_Pm_match_18 rfl ?_
  refine V_iload d_Pm_match_19 rfl ?_
  refine V_cV s_Pm_match_21 (do_Ph_hasWindow c_Ph (nI x) (nI y)) c_Ph rfl rfl (Nat.le_of_ble_eq_true rfl) ?_
  refine V_if_eq (tgt := 31) d_Pm_match_24 (by decide) (fun c9 => absurd c9 ((by rw [e3, e4]; decide : ¬ bI (wiB (nI x) 1 (nI w - 2) && wiB (nI y) 1 (nI ht - 2)) = 0))) (fun _ => ?_)
  refine V_iconst (v := 1) d_Pm_match_27 (by decide) ?_
  refine V_goto (tgt := 32) d_Pm_match_28 (by decide) ?_
  refine V_cS s_Pm_match_32 ndI_t rfl rfl (Nat.le_of_ble_eq_true rfl) ?_
  have hid : lkH h w ht f dn le (0, fx, fy, ms) = h := hS_id (okS_cons c_Ph (okS_cons a_Ph_values (okS_cons c_Se (okS_cons a_Se_misses okS_nil))))
  refine V_aload_n d_Pm_match_35 rfl ?_
  refine V_gf g_Pm_match_36 c_Pm rfl ?_
  refine V_aload_n d_Pm_match_39 rfl ?_
  refine V_gf g_Pm_match_40 c_Pm rfl ?_
  refine V_iload_n d_Pm_match_43 rfl ?_
  refine V_iload_n d_Pm_match_44 rfl ?_
  refine V_iload_n d_Pm_match_45 rfl ?_
  refine V_iload d_Pm_match_46 rfl ?_
  refine V_cV s_Pm_match_48 ((do_Se_look (dn := dn) (le := le) hL hw hht a b x y ha hb hx hy fx fy ms S hS9).eqh hid rfl) c_Se rfl rfl (Nat.le_of_ble_eq_true rfl) ?_
  exact V_iret d_Pm_match_51 rfl rfl
/-- found -/
theorem pm_found_i (hNT : NoTr l) (x : Int32) (hc : wiB x 0 2 = false) : Do l G k_Pm_found [.ref 1, .int x] h (.inr h.length) (h ++ [exI]) := by
  refine Do.of (by decide) (Nat.le_of_ble_eq_true rfl) kw_Pm_found ?_
  refine V_iload_n d_Pm_found_0 rfl ?_
  refine V_iconst (v := 0) d_Pm_found_1 (by decide) ?_
  refine V_iconst (v := 2) d_Pm_found_2 (by decide) ?_
  refine V_cS s_Pm_found_3 (do_isWithin x 0 2) rfl rfl (Nat.le_of_ble_eq_true rfl) ?_
  rw [hc]
  exact V_cSt s_Pm_found_6 (ndI_f hNT) rfl rfl (Nat.le_of_ble_eq_true rfl) rfl
theorem pm_found_s (hNT : NoTr l) (c_Pm : h[0]? = some PmO) (c_Se : h[3]? = some (SeO w ht false fx fy le)) (x : Int32) (hc : wiB x 0 2 = true) : Do l G k_Pm_found [.ref 1, .int x] h (.inr h.length) (h ++ [exS]) := by
  refine Do.of (by decide) (Nat.le_of_ble_eq_true rfl) kw_Pm_found ?_
  refine V_iload_n d_Pm_found_0 rfl ?_
  refine V_iconst (v := 0) d_Pm_found_1 (by decide) ?_
  refine V_iconst (v := 2) d_Pm_found_2 (by decide) ?_
  refine V_cS s_Pm_found_3 (do_isWithin x 0 2) rfl rfl (Nat.le_of_ble_eq_true rfl) ?_
  rw [hc]
  refine V_cS s_Pm_found_6 ndI_t rfl rfl (Nat.le_of_ble_eq_true rfl) ?_
  refine V_aload_n d_Pm_found_9 rfl ?_
  refine V_gf g_Pm_found_10 c_Pm rfl ?_
  refine V_cV s_Pm_found_13 (do_Se_isDone c_Se) c_Se rfl rfl (Nat.le_of_ble_eq_true rfl) ?_
  exact V_cSt s_Pm_found_16 (ndS_f hNT) rfl rfl (Nat.le_of_ble_eq_true rfl) rfl
theorem pm_found (c_Pm : h[0]? = some PmO) (c_Se : h[3]? = some (SeO w ht true fx fy le)) (x : Int32) (hc : wiB x 0 2 = true) : Do l G k_Pm_found [.ref 1, .int x] h (ri (if x = 2 then le else if x = 0 then fx else fy)) h := by
  refine Do.of (by decide) (Nat.le_of_ble_eq_true rfl) kw_Pm_found ?_
  refine V_iload_n d_Pm_found_0 rfl ?_
  refine V_iconst (v := 0) d_Pm_found_1 (by decide) ?_
  refine V_iconst (v := 2) d_Pm_found_2 (by decide) ?_
  refine V_cS s_Pm_found_3 (do_isWithin x 0 2) rfl rfl (Nat.le_of_ble_eq_true rfl) ?_
  rw [hc]
  refine V_cS s_Pm_found_6 ndI_t rfl rfl (Nat.le_of_ble_eq_true rfl) ?_
  refine V_aload_n d_Pm_found_9 rfl ?_
  refine V_gf g_Pm_found_10 c_Pm rfl ?_
  refine V_cV s_Pm_found_13 (do_Se_isDone c_Se) c_Se rfl rfl (Nat.le_of_ble_eq_true rfl) ?_
  refine V_cS s_Pm_found_16 ndS_t rfl rfl (Nat.le_of_ble_eq_true rfl) ?_
  refine V_aload_n d_Pm_found_19 rfl ?_
  refine V_gf g_Pm_found_20 c_Pm rfl ?_
  refine V_iload_n d_Pm_found_23 rfl ?_
  refine V_cV s_Pm_found_24 (do_Se_answer c_Se x) c_Se rfl rfl (Nat.le_of_ble_eq_true rfl) ?_
  exact V_iret d_Pm_found_27 rfl rfl
/-- place -/
theorem pm_place_s (hNT : NoTr l) (c_Pm : h[0]? = some PmO) (c_Pl : h[5]? = some (PlO 12 sp)) : Do l G k_Pm_place [.ref 1] h (.inr h.length) (h ++ [exS]) := by
  refine Do.of (by decide) (Nat.le_of_ble_eq_true rfl) kw_Pm_place ?_
  refine V_aload_n d_Pm_place_0 rfl ?_
  refine V_gf g_Pm_place_1 c_Pm rfl ?_
  refine V_cV s_Pm_place_4 (do_Pl_number c_Pl) c_Pl rfl rfl (Nat.le_of_ble_eq_true rfl) ?_
  refine V_bipush (v := 12) d_Pm_place_7 (by decide) ?_
  refine V_icmp_ge (tgt := 16) d_Pm_place_9 (by decide) (fun _ => ?_) (fun c9 => absurd ((by decide : (12 : Int32) ≤ nI 12)) c9)
  refine V_iconst (v := 0) d_Pm_place_16 (by decide) ?_
  exact V_cSt s_Pm_place_17 (ndS_f hNT) rfl rfl (Nat.le_of_ble_eq_true rfl) rfl
theorem pm_place (c_Pm : h[0]? = some PmO) (c_Pl : h[5]? = some (PlO n sp)) (hn : n < 12) : Do l G k_Pm_place [.ref 1] h (ri (nI n)) (h.set 5 (PlO (n + 1) sp)) := by
  refine Do.of (by decide) (Nat.le_of_ble_eq_true rfl) kw_Pm_place ?_
  refine V_aload_n d_Pm_place_0 rfl ?_
  refine V_gf g_Pm_place_1 c_Pm rfl ?_
  refine V_cV s_Pm_place_4 (do_Pl_number c_Pl) c_Pl rfl rfl (Nat.le_of_ble_eq_true rfl) ?_
  refine V_bipush (v := 12) d_Pm_place_7 (by decide) ?_
  refine V_icmp_ge (tgt := 16) d_Pm_place_9 (by decide) (fun c9 => absurd c9 ((nI_ge (b := 12) hn (by decide) : ¬ (12 : Int32) ≤ nI n))) (fun _ => ?_)
  refine V_iconst (v := 1) d_Pm_place_12 (by decide) ?_
  refine V_goto (tgt := 17) d_Pm_place_13 (by decide) ?_
  refine V_cS s_Pm_place_17 ndS_t rfl rfl (Nat.le_of_ble_eq_true rfl) ?_
  refine V_aload_n d_Pm_place_20 rfl ?_
  refine V_gf g_Pm_place_21 c_Pm rfl ?_
  refine V_cV s_Pm_place_24 (do_Pl_add c_Pl) c_Pl rfl rfl (Nat.le_of_ble_eq_true rfl) ?_
  exact V_iret d_Pm_place_27 rfl rfl
end P26
end
section
section P27
variable {l : Launch} {G : Gb} {h : List Ce} {w ht n : Nat} {f C Df ms wh P O PB OB Ln : Nat → Int32} {Dp F T : Nat → Nat} {As Bn op : Nat → Bool} {dn rc ra : Bool} {fx fy le sp bx y9 qd : Int32} {sd nm : Nat} {qu : Nat → Int32}
theorem has_n {k n : Nat} (h1 : k < n) (h2 : n < 2 ^ 31) : hasB (nI k) n = true := by
  simp only [hasB, Bool.and_eq_true, decide_eq_true_eq]
  exact ⟨nI_pos' (by omega), nI_lt h1 h2⟩
/-- seen: what its x and y must be -/
def seenB (x y : Int32) : Bool := decide (x < 0) || (decide (x ≤ 999) && wiB y 0 999)
theorem pm_seen_i (hNT : NoTr l) (c_Pm : h[0]? = some PmO) (c_Pl : h[5]? = some (PlO n sp)) (p q x y : Int32) (hc : (hasB p n && wiB q 0 3) = false) : Do l G k_Pm_seen [.ref 1, .int p, .int q, .int x, .int y] h (.inr h.length) (h ++ [exI]) := by
  refine Do.of (by decide) (Nat.le_of_ble_eq_true rfl) kw_Pm_seen ?_
  refine V_aload_n d_Pm_seen_0 rfl ?_
  refine V_gf g_Pm_seen_1 c_Pm rfl ?_
  refine V_iload_n d_Pm_seen_4 rfl ?_
  refine V_cV s_Pm_seen_5 (do_Pl_has c_Pl p) c_Pl rfl rfl (Nat.le_of_ble_eq_true rfl) ?_
  refine V_if_eq (tgt := 22) d_Pm_seen_8 (by decide) (fun c1 => ?_) (fun c1 => ?_)
  · refine V_iconst (v := 0) d_Pm_seen_22 (by decide) ?_
    exact V_cSt s_Pm_seen_23 (ndI_f hNT) rfl rfl (Nat.le_of_ble_eq_true rfl) rfl
  · have c1' : hasB p n = true := by simpa [bI_0] using c1
    rw [c1', Bool.true_and] at hc
    refine V_iload_n d_Pm_seen_11 rfl ?_
    refine V_cS s_Pm_seen_12 (do_isPhoto q) rfl rfl (Nat.le_of_ble_eq_true rfl) ?_
    refine V_if_eq (tgt := 22) d_Pm_seen_15 (by decide) (fun _ => ?_) (fun c9 => absurd (((bI_0 _).mpr hc)) c9)
    refine V_iconst (v := 0) d_Pm_seen_22 (by decide) ?_
    exact V_cSt s_Pm_seen_23 (ndI_f hNT) rfl rfl (Nat.le_of_ble_eq_true rfl) rfl
theorem pm_seen_a (hNT : NoTr l) (c_Pm : h[0]? = some PmO) (c_Pl : h[5]? = some (PlO n sp)) (p q x y : Int32) (hc : (hasB p n && wiB q 0 3) = true) (hs : seenB x y = false) : Do l G k_Pm_seen [.ref 1, .int p, .int q, .int x, .int y] h (.inr h.length) (h ++ [exA]) := by
  refine Do.of (by decide) (Nat.le_of_ble_eq_true rfl) kw_Pm_seen ?_
  simp only [Bool.and_eq_true] at hc
  refine V_aload_n d_Pm_seen_0 rfl ?_
  refine V_gf g_Pm_seen_1 c_Pm rfl ?_
  refine V_iload_n d_Pm_seen_4 rfl ?_
  refine V_cV s_Pm_seen_5 (do_Pl_has c_Pl p) c_Pl rfl rfl (Nat.le_of_ble_eq_true rfl) ?_
  refine V_if_eq (tgt := 22) d_Pm_seen_8 (by decide) (fun c9 => absurd c9 ((by rw [hc.1]; decide : ¬ bI (hasB p n) = 0))) (fun _ => ?_)
  refine V_iload_n d_Pm_seen_11 rfl ?_
  refine V_cS s_Pm_seen_12 (do_isPhoto q) rfl rfl (Nat.le_of_ble_eq_true rfl) ?_
  refine V_if_eq (tgt := 22) d_Pm_seen_15 (by decide) (fun c9 => absurd c9 ((by rw [hc.2]; decide : ¬ bI (wiB q 0 3) = 0))) (fun _ => ?_)
  refine V_iconst (v := 1) d_Pm_seen_18 (by decide) ?_
  refine V_goto (tgt := 23) d_Pm_seen_19 (by decide) ?_
  refine V_cS s_Pm_seen_23 ndI_t rfl rfl (Nat.le_of_ble_eq_true rfl) ?_
  simp only [seenB, Bool.or_eq_false_iff, Bool.and_eq_false_iff, decide_eq_false_iff_not] at hs
  refine V_iload_n d_Pm_seen_26 rfl ?_
  refine V_if_lt (tgt := 49) d_Pm_seen_27 (by decide) (fun c9 => absurd c9 (hs.1)) (fun _ => ?_)
  refine V_iload_n d_Pm_seen_30 rfl ?_
  refine V_sipush (v := 999) d_Pm_seen_31 (by decide) ?_
  refine V_icmp_gt (tgt := 53) d_Pm_seen_34 (by decide) (fun c2 => ?_) (fun c2 => ?_)
  · refine V_iconst (v := 0) d_Pm_seen_53 (by decide) ?_
    exact V_cSt s_Pm_seen_54 (ndA_f hNT) rfl rfl (Nat.le_of_ble_eq_true rfl) rfl
  · have hw9 : wiB y 0 999 = false := hs.2.resolve_left (fun z => z (nlt_iff.mp c2))
    refine V_iload d_Pm_seen_37 rfl ?_
    refine V_iconst (v := 0) d_Pm_seen_39 (by decide) ?_
    refine V_sipush (v := 999) d_Pm_seen_40 (by decide) ?_
    refine V_cS s_Pm_seen_43 (do_isWithin y 0 999) rfl rfl (Nat.le_of_ble_eq_true rfl) ?_
    refine V_if_eq (tgt := 53) d_Pm_seen_46 (by decide) (fun _ => ?_) (fun c9 => absurd (((bI_0 _).mpr hw9)) c9)
    refine V_iconst (v := 0) d_Pm_seen_53 (by decide) ?_
    exact V_cSt s_Pm_seen_54 (ndA_f hNT) rfl rfl (Nat.le_of_ble_eq_true rfl) rfl
theorem pm_seen_f (c_Pm : h[0]? = some PmO) (c_Pl : h[5]? = some (PlO n sp)) (a_Pl_noted : h[7]? = some (ZA 48 Bn)) (hn : n ≤ 12) (p q : Nat) (x y : Int32) (hp : p < n) (hq : q < 4) (hx : x < 0) : Do l G k_Pm_seen [.ref 1, .int (nI p), .int (nI q), .int x, .int y] h (rz (Bn (p * 4 + q))) (h.set 7 (ZA 48 (updB Bn (p * 4 + q) false))) := by
  refine Do.of (by decide) (Nat.le_of_ble_eq_true rfl) kw_Pm_seen ?_
  have e1 : hasB (nI p) n = true := has_n hp (by omega)
  have e2 : wiB (nI q) 0 3 = true := wi_n (b := 3) (by omega) (by decide)
  refine V_aload_n d_Pm_seen_0 rfl ?_
  refine V_gf g_Pm_seen_1 c_Pm rfl ?_
  refine V_iload_n d_Pm_seen_4 rfl ?_
  refine V_cV s_Pm_seen_5 (do_Pl_has c_Pl (nI p)) c_Pl rfl rfl (Nat.le_of_ble_eq_true rfl) ?_
  refine V_if_eq (tgt := 22) d_Pm_seen_8 (by decide) (fun c9 => absurd c9 ((by rw [e1]; decide : ¬ bI (hasB (nI p) n) = 0))) (fun _ => ?_)
  refine V_iload_n d_Pm_seen_11 rfl ?_
  refine V_cS s_Pm_seen_12 (do_isPhoto (nI q)) rfl rfl (Nat.le_of_ble_eq_true rfl) ?_
  refine V_if_eq (tgt := 22) d_Pm_seen_15 (by decide) (fun c9 => absurd c9 ((by rw [e2]; decide : ¬ bI (wiB (nI q) 0 3) = 0))) (fun _ => ?_)
  refine V_iconst (v := 1) d_Pm_seen_18 (by decide) ?_
  refine V_goto (tgt := 23) d_Pm_seen_19 (by decide) ?_
  refine V_cS s_Pm_seen_23 ndI_t rfl rfl (Nat.le_of_ble_eq_true rfl) ?_
  refine V_iload_n d_Pm_seen_26 rfl ?_
  refine V_if_lt (tgt := 49) d_Pm_seen_27 (by decide) (fun _ => ?_) (fun c9 => absurd (hx) c9)
  refine V_iconst (v := 1) d_Pm_seen_49 (by decide) ?_
  refine V_goto (tgt := 54) d_Pm_seen_50 (by decide) ?_
  refine V_cS s_Pm_seen_54 ndA_t rfl rfl (Nat.le_of_ble_eq_true rfl) ?_
  refine V_iload_n d_Pm_seen_57 rfl ?_
  refine V_if_ge (tgt := 73) d_Pm_seen_58 (by decide) (fun c9 => absurd c9 ((nle_iff.mpr hx))) (fun _ => ?_)
  refine V_aload_n d_Pm_seen_61 rfl ?_
  refine V_gf g_Pm_seen_62 c_Pm rfl ?_
  refine V_iload_n d_Pm_seen_65 rfl ?_
  refine V_iload_n d_Pm_seen_66 rfl ?_
  refine V_cV s_Pm_seen_67 (do_Pl_forget c_Pl a_Pl_noted (show p < 12 by omega) hq) c_Pl rfl rfl (Nat.le_of_ble_eq_true rfl) ?_
  refine V_goto (tgt := 85) d_Pm_seen_70 (by decide) ?_
  exact V_iret d_Pm_seen_85 rfl (by first | rfl | exact bI_n _)
theorem pm_seen (c_Pm : h[0]? = some PmO) (c_Pl : h[5]? = some (PlO n sp)) (a_Pl_noted : h[7]? = some (ZA 48 Bn)) (a_Pl_where : h[8]? = some (IA 96 wh)) (hn : n ≤ 12) (p q : Nat) (x y : Int32) (hp : p < n) (hq : q < 4) (hx : ¬ x < 0) (hx2 : x ≤ 999) (hy : wiB y 0 999 = true) : Do l G k_Pm_seen [.ref 1, .int (nI p), .int (nI q), .int x, .int y] h (rz (Bn (p * 4 + q))) ((h.set 7 (ZA 48 (updB Bn (p * 4 + q) true))).set 8 (IA 96 (upd (upd wh ((p * 4 + q) * 2) x) ((p * 4 + q) * 2 + 1) y))) := by
  refine Do.of (by decide) (Nat.le_of_ble_eq_true rfl) kw_Pm_seen ?_
  have e1 : hasB (nI p) n = true := has_n hp (by omega)
  have e2 : wiB (nI q) 0 3 = true := wi_n (b := 3) (by omega) (by decide)
  refine V_aload_n d_Pm_seen_0 rfl ?_
  refine V_gf g_Pm_seen_1 c_Pm rfl ?_
  refine V_iload_n d_Pm_seen_4 rfl ?_
  refine V_cV s_Pm_seen_5 (do_Pl_has c_Pl (nI p)) c_Pl rfl rfl (Nat.le_of_ble_eq_true rfl) ?_
  refine V_if_eq (tgt := 22) d_Pm_seen_8 (by decide) (fun c9 => absurd c9 ((by rw [e1]; decide : ¬ bI (hasB (nI p) n) = 0))) (fun _ => ?_)
  refine V_iload_n d_Pm_seen_11 rfl ?_
  refine V_cS s_Pm_seen_12 (do_isPhoto (nI q)) rfl rfl (Nat.le_of_ble_eq_true rfl) ?_
  refine V_if_eq (tgt := 22) d_Pm_seen_15 (by decide) (fun c9 => absurd c9 ((by rw [e2]; decide : ¬ bI (wiB (nI q) 0 3) = 0))) (fun _ => ?_)
  refine V_iconst (v := 1) d_Pm_seen_18 (by decide) ?_
  refine V_goto (tgt := 23) d_Pm_seen_19 (by decide) ?_
  refine V_cS s_Pm_seen_23 ndI_t rfl rfl (Nat.le_of_ble_eq_true rfl) ?_
  refine V_iload_n d_Pm_seen_26 rfl ?_
  refine V_if_lt (tgt := 49) d_Pm_seen_27 (by decide) (fun c9 => absurd c9 (hx)) (fun _ => ?_)
  refine V_iload_n d_Pm_seen_30 rfl ?_
  refine V_sipush (v := 999) d_Pm_seen_31 (by decide) ?_
  refine V_icmp_gt (tgt := 53) d_Pm_seen_34 (by decide) (fun c9 => absurd c9 ((nlt_iff.mpr hx2))) (fun _ => ?_)
  refine V_iload d_Pm_seen_37 rfl ?_
  refine V_iconst (v := 0) d_Pm_seen_39 (by decide) ?_
  refine V_sipush (v := 999) d_Pm_seen_40 (by decide) ?_
  refine V_cS s_Pm_seen_43 (do_isWithin y 0 999) rfl rfl (Nat.le_of_ble_eq_true rfl) ?_
  refine V_if_eq (tgt := 53) d_Pm_seen_46 (by decide) (fun c9 => absurd c9 ((by rw [hy]; decide : ¬ bI (wiB y 0 999) = 0))) (fun _ => ?_)
  refine V_iconst (v := 1) d_Pm_seen_49 (by decide) ?_
  refine V_goto (tgt := 54) d_Pm_seen_50 (by decide) ?_
  refine V_cS s_Pm_seen_54 ndA_t rfl rfl (Nat.le_of_ble_eq_true rfl) ?_
  refine V_iload_n d_Pm_seen_57 rfl ?_
  refine V_if_ge (tgt := 73) d_Pm_seen_58 (by decide) (fun _ => ?_) (fun c9 => absurd ((nlt_iff.mp hx)) c9)
  refine V_aload_n d_Pm_seen_73 rfl ?_
  refine V_gf g_Pm_seen_74 c_Pm rfl ?_
  refine V_iload_n d_Pm_seen_77 rfl ?_
  refine V_iload_n d_Pm_seen_78 rfl ?_
  refine V_iload_n d_Pm_seen_79 rfl ?_
  refine V_iload d_Pm_seen_80 rfl ?_
  refine V_cV s_Pm_seen_82 (do_Pl_note c_Pl a_Pl_noted a_Pl_where (show p < 12 by omega) hq x y) c_Pl rfl rfl (Nat.le_of_ble_eq_true rfl) ?_
  exact V_iret d_Pm_seen_85 rfl (by first | rfl | exact bI_n _)
/-- relative -/
theorem pm_relative_i (hNT : NoTr l) (a b t tol : Int32) (hc : (wiB a 0 3 && wiB b 0 3) = false) : Do l G k_Pm_relative [.ref 1, .int a, .int b, .int t, .int tol] h (.inr h.length) (h ++ [exI]) := by
  refine Do.of (by decide) (Nat.le_of_ble_eq_true rfl) kw_Pm_relative ?_
  refine V_iload_n d_Pm_relative_0 rfl ?_
  refine V_cS s_Pm_relative_1 (do_isPhoto a) rfl rfl (Nat.le_of_ble_eq_true rfl) ?_
  refine V_if_eq (tgt := 18) d_Pm_relative_4 (by decide) (fun c1 => ?_) (fun c1 => ?_)
  · refine V_iconst (v := 0) d_Pm_relative_18 (by decide) ?_
    exact V_cSt s_Pm_relative_19 (ndI_f hNT) rfl rfl (Nat.le_of_ble_eq_true rfl) rfl
  · have c1' : wiB a 0 3 = true := by simpa [bI_0] using c1
    rw [c1', Bool.true_and] at hc
    refine V_iload_n d_Pm_relative_7 rfl ?_
    refine V_cS s_Pm_relative_8 (do_isPhoto b) rfl rfl (Nat.le_of_ble_eq_true rfl) ?_
    refine V_if_eq (tgt := 18) d_Pm_relative_11 (by decide) (fun _ => ?_) (fun c9 => absurd (((bI_0 _).mpr hc)) c9)
    refine V_iconst (v := 0) d_Pm_relative_18 (by decide) ?_
    exact V_cSt s_Pm_relative_19 (ndI_f hNT) rfl rfl (Nat.le_of_ble_eq_true rfl) rfl
theorem pm_relative_a (hNT : NoTr l) (a b t tol : Int32) (hc : (wiB a 0 3 && wiB b 0 3) = true) (hs : (wiB t 1 20 && wiB tol 0 100) = false) : Do l G k_Pm_relative [.ref 1, .int a, .int b, .int t, .int tol] h (.inr h.length) (h ++ [exA]) := by
  refine Do.of (by decide) (Nat.le_of_ble_eq_true rfl) kw_Pm_relative ?_
  simp only [Bool.and_eq_true] at hc
  refine V_iload_n d_Pm_relative_0 rfl ?_
  refine V_cS s_Pm_relative_1 (do_isPhoto a) rfl rfl (Nat.le_of_ble_eq_true rfl) ?_
  refine V_if_eq (tgt := 18) d_Pm_relative_4 (by decide) (fun c9 => absurd c9 ((by rw [hc.1]; decide : ¬ bI (wiB a 0 3) = 0))) (fun _ => ?_)
  refine V_iload_n d_Pm_relative_7 rfl ?_
  refine V_cS s_Pm_relative_8 (do_isPhoto b) rfl rfl (Nat.le_of_ble_eq_true rfl) ?_
  refine V_if_eq (tgt := 18) d_Pm_relative_11 (by decide) (fun c9 => absurd c9 ((by rw [hc.2]; decide : ¬ bI (wiB b 0 3) = 0))) (fun _ => ?_)
  refine V_iconst (v := 1) d_Pm_relative_14 (by decide) ?_
  refine V_goto (tgt := 19) d_Pm_relative_15 (by decide) ?_
  refine V_cS s_Pm_relative_19 ndI_t rfl rfl (Nat.le_of_ble_eq_true rfl) ?_
  refine V_iload_n d_Pm_relative_22 rfl ?_
  refine V_iconst (v := 1) d_Pm_relative_23 (by decide) ?_
  refine V_bipush (v := 20) d_Pm_relative_24 (by decide) ?_
  refine V_cS s_Pm_relative_26 (do_isWithin t 1 20) rfl rfl (Nat.le_of_ble_eq_true rfl) ?_
  cases ht : wiB t 1 20 with
  | false => exact V_cSt s_Pm_relative_29 (ndA_f hNT) rfl rfl (Nat.le_of_ble_eq_true rfl) rfl
  | true =>
    rw [ht, Bool.true_and] at hs
    refine V_cS s_Pm_relative_29 ndA_t rfl rfl (Nat.le_of_ble_eq_true rfl) ?_
    refine V_iload d_Pm_relative_32 rfl ?_
    refine V_iconst (v := 0) d_Pm_relative_34 (by decide) ?_
    refine V_bipush (v := 100) d_Pm_relative_35 (by decide) ?_
    refine V_cS s_Pm_relative_37 (do_isWithin tol 0 100) rfl rfl (Nat.le_of_ble_eq_true rfl) ?_
    rw [hs]
    exact V_cSt s_Pm_relative_40 (ndA_f hNT) rfl rfl (Nat.le_of_ble_eq_true rfl) rfl
theorem pm_relative (hL : 27 ≤ h.length) (c_Pm : h[0]? = some PmO) (c_Pl : h[5]? = some (PlO n sp)) (a_Pl_aside : h[6]? = some (ZA 12 As)) (a_Pl_noted : h[7]? = some (ZA 48 Bn)) (a_Pl_where : h[8]? = some (IA 96 wh)) {sx sy : Nat → Int32} (c_Ag : h[9]? = some (AgO sd nm rc bx y9)) (a1 : h[10]? = some (IA 12 sx)) (a2 : h[11]? = some (IA 12 sy)) (hn : n ≤ 12) (hs : sd ≤ 65536) (a b t : Nat) (tol : Int32) (ha : a < 4) (hb : b < 4) (ht : 1 ≤ t ∧ t ≤ 20) (htol : wiB tol 0 100 = true) (g : Gt) (hg : g = gtR Bn wh a b n sx sy) (d : Dr) (hd : d = drR g sd tol t bx y9) : Do l G k_Pm_relative [.ref 1, .int (nI a), .int (nI b), .int (nI t), .int tol] h (ri (nI d.1)) (agH h n sp As Bn wh sd (decide (0 < g.1)) d.2.1 d.2.2 g) := by
  refine Do.of (by decide) (Nat.le_of_ble_eq_true rfl) kw_Pm_relative ?_
  have e1 : wiB (nI a) 0 3 = true := wi_n (b := 3) (by omega) (by decide)
  have e2 : wiB (nI b) 0 3 = true := wi_n (b := 3) (by omega) (by decide)
  have e3 : wiB (nI t) 1 20 = true := by
    simp only [wiB, Bool.and_eq_true, decide_eq_true_eq]
    exact ⟨nI_le (a := 1) ht.1 (by omega), nI_le (b := 20) ht.2 (by decide)⟩
  refine V_iload_n d_Pm_relative_0 rfl ?_
  refine V_cS s_Pm_relative_1 (do_isPhoto (nI a)) rfl rfl (Nat.le_of_ble_eq_true rfl) ?_
  refine V_if_eq (tgt := 18) d_Pm_relative_4 (by decide) (fun c9 => absurd c9 ((by rw [e1]; decide : ¬ bI (wiB (nI a) 0 3) = 0))) (fun _ => ?_)
  refine V_iload_n d_Pm_relative_7 rfl ?_
  refine V_cS s_Pm_relative_8 (do_isPhoto (nI b)) rfl rfl (Nat.le_of_ble_eq_true rfl) ?_
  refine V_if_eq (tgt := 18) d_Pm_relative_11 (by decide) (fun c9 => absurd c9 ((by rw [e2]; decide : ¬ bI (wiB (nI b) 0 3) = 0))) (fun _ => ?_)
  refine V_iconst (v := 1) d_Pm_relative_14 (by decide) ?_
  refine V_goto (tgt := 19) d_Pm_relative_15 (by decide) ?_
  refine V_cS s_Pm_relative_19 ndI_t rfl rfl (Nat.le_of_ble_eq_true rfl) ?_
  refine V_iload_n d_Pm_relative_22 rfl ?_
  refine V_iconst (v := 1) d_Pm_relative_23 (by decide) ?_
  refine V_bipush (v := 20) d_Pm_relative_24 (by decide) ?_
  refine V_cS s_Pm_relative_26 (do_isWithin (nI t) 1 20) rfl rfl (Nat.le_of_ble_eq_true rfl) ?_
  rw [e3]
  refine V_cS s_Pm_relative_29 ndA_t rfl rfl (Nat.le_of_ble_eq_true rfl) ?_
  refine V_iload d_Pm_relative_32 rfl ?_
  refine V_iconst (v := 0) d_Pm_relative_34 (by decide) ?_
  refine V_bipush (v := 100) d_Pm_relative_35 (by decide) ?_
  refine V_cS s_Pm_relative_37 (do_isWithin tol 0 100) rfl rfl (Nat.le_of_ble_eq_true rfl) ?_
  rw [htol]
  refine V_cS s_Pm_relative_40 ndA_t rfl rfl (Nat.le_of_ble_eq_true rfl) ?_
  have hid : agH h n sp As Bn wh sd rc bx y9 (nm, sx, sy) = h := hS_id (okS_cons c_Pl (okS_cons a_Pl_aside (okS_cons a_Pl_noted (okS_cons a_Pl_where (okS_cons c_Ag (okS_cons a1 (okS_cons a2 okS_nil)))))))
  refine V_aload_n d_Pm_relative_43 rfl ?_
  refine V_gf g_Pm_relative_44 c_Pm rfl ?_
  refine V_aload_n d_Pm_relative_47 rfl ?_
  refine V_gf g_Pm_relative_48 c_Pm rfl ?_
  refine V_iload_n d_Pm_relative_51 rfl ?_
  refine V_iload_n d_Pm_relative_52 rfl ?_
  refine V_iload_n d_Pm_relative_53 rfl ?_
  refine V_iload d_Pm_relative_54 rfl ?_
  refine V_cV s_Pm_relative_56 ((do_Ag_draw hL hn hs a b t tol ha hb ht.2 nm g hg d hd).eqh hid rfl) c_Ag rfl rfl (Nat.le_of_ble_eq_true rfl) ?_
  exact V_iret d_Pm_relative_59 rfl rfl
/-- shift -/
theorem pm_shift_i (hNT : NoTr l) (x : Int32) (hc : wiB x 0 1 = false) : Do l G k_Pm_shift [.ref 1, .int x] h (.inr h.length) (h ++ [exI]) := by
  refine Do.of (by decide) (Nat.le_of_ble_eq_true rfl) kw_Pm_shift ?_
  refine V_iload_n d_Pm_shift_0 rfl ?_
  refine V_cS s_Pm_shift_1 (do_isAxis x) rfl rfl (Nat.le_of_ble_eq_true rfl) ?_
  rw [hc]
  exact V_cSt s_Pm_shift_4 (ndI_f hNT) rfl rfl (Nat.le_of_ble_eq_true rfl) rfl
theorem pm_shift_s (hNT : NoTr l) (c_Pm : h[0]? = some PmO) (c_Ag : h[9]? = some (AgO sd nm false bx y9)) (x : Int32) (hc : wiB x 0 1 = true) : Do l G k_Pm_shift [.ref 1, .int x] h (.inr h.length) (h ++ [exS]) := by
  refine Do.of (by decide) (Nat.le_of_ble_eq_true rfl) kw_Pm_shift ?_
  refine V_iload_n d_Pm_shift_0 rfl ?_
  refine V_cS s_Pm_shift_1 (do_isAxis x) rfl rfl (Nat.le_of_ble_eq_true rfl) ?_
  rw [hc]
  refine V_cS s_Pm_shift_4 ndI_t rfl rfl (Nat.le_of_ble_eq_true rfl) ?_
  refine V_aload_n d_Pm_shift_7 rfl ?_
  refine V_gf g_Pm_shift_8 c_Pm rfl ?_
  refine V_cV s_Pm_shift_11 (do_Ag_isReached c_Ag) c_Ag rfl rfl (Nat.le_of_ble_eq_true rfl) ?_
  exact V_cSt s_Pm_shift_14 (ndS_f hNT) rfl rfl (Nat.le_of_ble_eq_true rfl) rfl
theorem pm_shift (c_Pm : h[0]? = some PmO) (c_Ag : h[9]? = some (AgO sd nm true bx y9)) (x : Int32) (hc : wiB x 0 1 = true) : Do l G k_Pm_shift [.ref 1, .int x] h (ri (if x = 0 then bx else y9)) h := by
  refine Do.of (by decide) (Nat.le_of_ble_eq_true rfl) kw_Pm_shift ?_
  refine V_iload_n d_Pm_shift_0 rfl ?_
  refine V_cS s_Pm_shift_1 (do_isAxis x) rfl rfl (Nat.le_of_ble_eq_true rfl) ?_
  rw [hc]
  refine V_cS s_Pm_shift_4 ndI_t rfl rfl (Nat.le_of_ble_eq_true rfl) ?_
  refine V_aload_n d_Pm_shift_7 rfl ?_
  refine V_gf g_Pm_shift_8 c_Pm rfl ?_
  refine V_cV s_Pm_shift_11 (do_Ag_isReached c_Ag) c_Ag rfl rfl (Nat.le_of_ble_eq_true rfl) ?_
  refine V_cS s_Pm_shift_14 ndS_t rfl rfl (Nat.le_of_ble_eq_true rfl) ?_
  refine V_aload_n d_Pm_shift_17 rfl ?_
  refine V_gf g_Pm_shift_18 c_Pm rfl ?_
  refine V_iload_n d_Pm_shift_21 rfl ?_
  refine V_cV s_Pm_shift_22 (do_Ag_along c_Ag x) c_Ag rfl rfl (Nat.le_of_ble_eq_true rfl) ?_
  exact V_iret d_Pm_shift_25 rfl rfl
/-- spare -/
theorem pm_spare_i (hNT : NoTr l) (c_Pm : h[0]? = some PmO) (c_Pl : h[5]? = some (PlO n sp)) (p : Int32) (b : Bool) (hc : hasB p n = false) : Do l G k_Pm_spare [.ref 1, .int p, .int (bI b)] h (.inr h.length) (h ++ [exI]) := by
  refine Do.of (by decide) (Nat.le_of_ble_eq_true rfl) kw_Pm_spare ?_
  refine V_aload_n d_Pm_spare_0 rfl ?_
  refine V_gf g_Pm_spare_1 c_Pm rfl ?_
  refine V_iload_n d_Pm_spare_4 rfl ?_
  refine V_cV s_Pm_spare_5 (do_Pl_has c_Pl p) c_Pl rfl rfl (Nat.le_of_ble_eq_true rfl) ?_
  rw [hc]
  exact V_cSt s_Pm_spare_8 (ndI_f hNT) rfl rfl (Nat.le_of_ble_eq_true rfl) rfl
theorem pm_spare (c_Pm : h[0]? = some PmO) (c_Pl : h[5]? = some (PlO n sp)) (a_Pl_aside : h[6]? = some (ZA 12 As)) (hn : n ≤ 12) (p : Nat) (hp : p < n) (b : Bool) : Do l G k_Pm_spare [.ref 1, .int (nI p), .int (bI b)] h (rz (As p != b)) (if As p = b then h else (h.set 6 (ZA 12 (updB As p b))).set 5 (PlO n (sp + if b then 1 else -1))) := by
  refine Do.of (by decide) (Nat.le_of_ble_eq_true rfl) kw_Pm_spare ?_
  have e1 : hasB (nI p) n = true := has_n hp (by omega)
  refine V_aload_n d_Pm_spare_0 rfl ?_
  refine V_gf g_Pm_spare_1 c_Pm rfl ?_
  refine V_iload_n d_Pm_spare_4 rfl ?_
  refine V_cV s_Pm_spare_5 (do_Pl_has c_Pl (nI p)) c_Pl rfl rfl (Nat.le_of_ble_eq_true rfl) ?_
  rw [e1]
  refine V_cS s_Pm_spare_8 ndI_t rfl rfl (Nat.le_of_ble_eq_true rfl) ?_
  refine V_aload_n d_Pm_spare_11 rfl ?_
  refine V_gf g_Pm_spare_12 c_Pm rfl ?_
  refine V_iload_n d_Pm_spare_15 rfl ?_
  refine V_iload_n d_Pm_spare_16 rfl ?_
  refine V_cV s_Pm_spare_17 (do_Pl_setAside c_Pl a_Pl_aside (show p < 12 by omega) b) c_Pl rfl rfl (Nat.le_of_ble_eq_true rfl) ?_
  exact V_iret d_Pm_spare_20 rfl (by first | rfl | exact bI_n _)
/-- run, sum, at, offset, miss -/
theorem pm_run_a (hNT : NoTr l) (x : Int32) (hc : wiB x 0 20 = false) : Do l G k_Pm_run [.ref 1, .int x] h (.inr h.length) (h ++ [exA]) := by
  refine Do.of (by decide) (Nat.le_of_ble_eq_true rfl) kw_Pm_run ?_
  refine V_iload_n d_Pm_run_0 rfl ?_
  refine V_iconst (v := 0) d_Pm_run_1 (by decide) ?_
  refine V_bipush (v := 20) d_Pm_run_2 (by decide) ?_
  refine V_cS s_Pm_run_4 (do_isWithin x 0 20) rfl rfl (Nat.le_of_ble_eq_true rfl) ?_
  rw [hc]
  exact V_cSt s_Pm_run_7 (ndA_f hNT) rfl rfl (Nat.le_of_ble_eq_true rfl) rfl
theorem adH_id (c_Pl : h[5]? = some (PlO n sp)) (a_Pl_aside : h[6]? = some (ZA 12 As)) (a_Pl_noted : h[7]? = some (ZA 48 Bn)) (a_Pl_where : h[8]? = some (IA 96 wh)) (c_Ad : h[12]? = some AdO) (d1 : h[13]? = some (IA 24 P)) (d2 : h[14]? = some (IA 8 O)) (d3 : h[15]? = some (IA 24 PB)) (d4 : h[16]? = some (IA 8 OB)) : adH h n sp As Bn wh P O PB OB = h := hS_id (okS_cons c_Pl (okS_cons a_Pl_aside (okS_cons a_Pl_noted (okS_cons a_Pl_where (okS_cons c_Ad (okS_cons d1 (okS_cons d2 (okS_cons d3 (okS_cons d4 okS_nil)))))))))
theorem pm_run (hL : 27 ≤ h.length) (c_Pm : h[0]? = some PmO) (c_Pl : h[5]? = some (PlO n sp)) (c_Ad : h[12]? = some AdO) (hid : adH h n sp As Bn wh P O PB OB = h) (hn : n ≤ 12) (x : Nat) (hx : x ≤ 20) (R : Aj) (hR : R = ajR As Bn wh n x 0 (toR As Bn wh (psR Bn wh (z8 O) n P) (z8 O) n) (psR Bn wh (z8 O) n P) (z8 O) PB OB) : Do l G k_Pm_run [.ref 1, .int (nI x)] h (ri (nI R.1)) (adH h n sp As Bn wh R.2.1 R.2.2.1 R.2.2.2.1 R.2.2.2.2) := by
  refine Do.of (by decide) (Nat.le_of_ble_eq_true rfl) kw_Pm_run ?_
  have e1 : wiB (nI x) 0 20 = true := wi_n (b := 20) hx (by decide)
  refine V_iload_n d_Pm_run_0 rfl ?_
  refine V_iconst (v := 0) d_Pm_run_1 (by decide) ?_
  refine V_bipush (v := 20) d_Pm_run_2 (by decide) ?_
  refine V_cS s_Pm_run_4 (do_isWithin (nI x) 0 20) rfl rfl (Nat.le_of_ble_eq_true rfl) ?_
  rw [e1]
  refine V_cS s_Pm_run_7 ndA_t rfl rfl (Nat.le_of_ble_eq_true rfl) ?_
  refine V_aload_n d_Pm_run_10 rfl ?_
  refine V_gf g_Pm_run_11 c_Pm rfl ?_
  refine V_aload_n d_Pm_run_14 rfl ?_
  refine V_gf g_Pm_run_15 c_Pm rfl ?_
  refine V_iload_n d_Pm_run_18 rfl ?_
  refine V_cV s_Pm_run_19 ((do_Ad_adjust hL hn x hx R hR).eqh hid rfl) c_Ad rfl rfl (Nat.le_of_ble_eq_true rfl) ?_
  exact V_iret d_Pm_run_22 rfl rfl
theorem pm_sum (hL : 27 ≤ h.length) (c_Pm : h[0]? = some PmO) (c_Ad : h[12]? = some AdO) (hid : adH h n sp As Bn wh P O PB OB = h) (hn : n ≤ 12) : Do l G k_Pm_sum [.ref 1] h (rl (toR As Bn wh P O n)) h := by
  refine Do.of (by decide) (Nat.le_of_ble_eq_true rfl) kw_Pm_sum ?_
  refine V_aload_n d_Pm_sum_0 rfl ?_
  refine V_gf g_Pm_sum_1 c_Pm rfl ?_
  refine V_aload_n d_Pm_sum_4 rfl ?_
  refine V_gf g_Pm_sum_5 c_Pm rfl ?_
  refine V_cV s_Pm_sum_8 ((do_Ad_total hL hn).eqh hid hid) c_Ad rfl rfl (Nat.le_of_ble_eq_true rfl) ?_
  exact V_lret d_Pm_sum_11 rfl
theorem pm_at_i (hNT : NoTr l) (c_Pm : h[0]? = some PmO) (c_Pl : h[5]? = some (PlO n sp)) (p x : Int32) (hc : (hasB p n && wiB x 0 1) = false) : Do l G k_Pm_at [.ref 1, .int p, .int x] h (.inr h.length) (h ++ [exI]) := by
  refine Do.of (by decide) (Nat.le_of_ble_eq_true rfl) kw_Pm_at ?_
  refine V_aload_n d_Pm_at_0 rfl ?_
  refine V_gf g_Pm_at_1 c_Pm rfl ?_
  refine V_iload_n d_Pm_at_4 rfl ?_
  refine V_cV s_Pm_at_5 (do_Pl_has c_Pl p) c_Pl rfl rfl (Nat.le_of_ble_eq_true rfl) ?_
  refine V_if_eq (tgt := 22) d_Pm_at_8 (by decide) (fun c1 => ?_) (fun c1 => ?_)
  · refine V_iconst (v := 0) d_Pm_at_22 (by decide) ?_
    exact V_cSt s_Pm_at_23 (ndI_f hNT) rfl rfl (Nat.le_of_ble_eq_true rfl) rfl
  · have c1' : hasB p n = true := by simpa [bI_0] using c1
    rw [c1', Bool.true_and] at hc
    refine V_iload_n d_Pm_at_11 rfl ?_
    refine V_cS s_Pm_at_12 (do_isAxis x) rfl rfl (Nat.le_of_ble_eq_true rfl) ?_
    refine V_if_eq (tgt := 22) d_Pm_at_15 (by decide) (fun _ => ?_) (fun c9 => absurd (((bI_0 _).mpr hc)) c9)
    refine V_iconst (v := 0) d_Pm_at_22 (by decide) ?_
    exact V_cSt s_Pm_at_23 (ndI_f hNT) rfl rfl (Nat.le_of_ble_eq_true rfl) rfl
theorem pm_at (c_Pm : h[0]? = some PmO) (c_Pl : h[5]? = some (PlO n sp)) (c_Ad : h[12]? = some AdO) (d1 : h[13]? = some (IA 24 P)) (hn : n ≤ 12) (p x : Nat) (hp : p < n) (hx : x < 2) : Do l G k_Pm_at [.ref 1, .int (nI p), .int (nI x)] h (ri (P (p * 2 + x))) h := by
  refine Do.of (by decide) (Nat.le_of_ble_eq_true rfl) kw_Pm_at ?_
  have e1 : hasB (nI p) n = true := has_n hp (by omega)
  have e2 : wiB (nI x) 0 1 = true := wi_n (b := 1) (by omega) (by decide)
  refine V_aload_n d_Pm_at_0 rfl ?_
  refine V_gf g_Pm_at_1 c_Pm rfl ?_
  refine V_iload_n d_Pm_at_4 rfl ?_
  refine V_cV s_Pm_at_5 (do_Pl_has c_Pl (nI p)) c_Pl rfl rfl (Nat.le_of_ble_eq_true rfl) ?_
  refine V_if_eq (tgt := 22) d_Pm_at_8 (by decide) (fun c9 => absurd c9 ((by rw [e1]; decide : ¬ bI (hasB (nI p) n) = 0))) (fun _ => ?_)
  refine V_iload_n d_Pm_at_11 rfl ?_
  refine V_cS s_Pm_at_12 (do_isAxis (nI x)) rfl rfl (Nat.le_of_ble_eq_true rfl) ?_
  refine V_if_eq (tgt := 22) d_Pm_at_15 (by decide) (fun c9 => absurd c9 ((by rw [e2]; decide : ¬ bI (wiB (nI x) 0 1) = 0))) (fun _ => ?_)
  refine V_iconst (v := 1) d_Pm_at_18 (by decide) ?_
  refine V_goto (tgt := 23) d_Pm_at_19 (by decide) ?_
  refine V_cS s_Pm_at_23 ndI_t rfl rfl (Nat.le_of_ble_eq_true rfl) ?_
  refine V_aload_n d_Pm_at_26 rfl ?_
  refine V_gf g_Pm_at_27 c_Pm rfl ?_
  refine V_iload_n d_Pm_at_30 rfl ?_
  refine V_iload_n d_Pm_at_31 rfl ?_
  refine V_cV s_Pm_at_32 (do_Ad_position c_Ad d1 p x (by omega) hx) c_Ad rfl rfl (Nat.le_of_ble_eq_true rfl) ?_
  exact V_iret d_Pm_at_35 rfl rfl
theorem pm_offset_i (hNT : NoTr l) (q x : Int32) (hc : (wiB q 0 3 && wiB x 0 1) = false) : Do l G k_Pm_offset [.ref 1, .int q, .int x] h (.inr h.length) (h ++ [exI]) := by
  refine Do.of (by decide) (Nat.le_of_ble_eq_true rfl) kw_Pm_offset ?_
  refine V_iload_n d_Pm_offset_0 rfl ?_
  refine V_cS s_Pm_offset_1 (do_isPhoto q) rfl rfl (Nat.le_of_ble_eq_true rfl) ?_
  refine V_if_eq (tgt := 18) d_Pm_offset_4 (by decide) (fun c1 => ?_) (fun c1 => ?_)
  · refine V_iconst (v := 0) d_Pm_offset_18 (by decide) ?_
    exact V_cSt s_Pm_offset_19 (ndI_f hNT) rfl rfl (Nat.le_of_ble_eq_true rfl) rfl
  · have c1' : wiB q 0 3 = true := by simpa [bI_0] using c1
    rw [c1', Bool.true_and] at hc
    refine V_iload_n d_Pm_offset_7 rfl ?_
    refine V_cS s_Pm_offset_8 (do_isAxis x) rfl rfl (Nat.le_of_ble_eq_true rfl) ?_
    refine V_if_eq (tgt := 18) d_Pm_offset_11 (by decide) (fun _ => ?_) (fun c9 => absurd (((bI_0 _).mpr hc)) c9)
    refine V_iconst (v := 0) d_Pm_offset_18 (by decide) ?_
    exact V_cSt s_Pm_offset_19 (ndI_f hNT) rfl rfl (Nat.le_of_ble_eq_true rfl) rfl
theorem pm_offset (c_Pm : h[0]? = some PmO) (c_Ad : h[12]? = some AdO) (d2 : h[14]? = some (IA 8 O)) (q x : Nat) (hq : q < 4) (hx : x < 2) : Do l G k_Pm_offset [.ref 1, .int (nI q), .int (nI x)] h (ri (O (q * 2 + x))) h := by
  refine Do.of (by decide) (Nat.le_of_ble_eq_true rfl) kw_Pm_offset ?_
  have e1 : wiB (nI q) 0 3 = true := wi_n (b := 3) (by omega) (by decide)
  have e2 : wiB (nI x) 0 1 = true := wi_n (b := 1) (by omega) (by decide)
  refine V_iload_n d_Pm_offset_0 rfl ?_
  refine V_cS s_Pm_offset_1 (do_isPhoto (nI q)) rfl rfl (Nat.le_of_ble_eq_true rfl) ?_
  refine V_if_eq (tgt := 18) d_Pm_offset_4 (by decide) (fun c9 => absurd c9 ((by rw [e1]; decide : ¬ bI (wiB (nI q) 0 3) = 0))) (fun _ => ?_)
  refine V_iload_n d_Pm_offset_7 rfl ?_
  refine V_cS s_Pm_offset_8 (do_isAxis (nI x)) rfl rfl (Nat.le_of_ble_eq_true rfl) ?_
  refine V_if_eq (tgt := 18) d_Pm_offset_11 (by decide) (fun c9 => absurd c9 ((by rw [e2]; decide : ¬ bI (wiB (nI x) 0 1) = 0))) (fun _ => ?_)
  refine V_iconst (v := 1) d_Pm_offset_14 (by decide) ?_
  refine V_goto (tgt := 19) d_Pm_offset_15 (by decide) ?_
  refine V_cS s_Pm_offset_19 ndI_t rfl rfl (Nat.le_of_ble_eq_true rfl) ?_
  refine V_aload_n d_Pm_offset_22 rfl ?_
  refine V_gf g_Pm_offset_23 c_Pm rfl ?_
  refine V_iload_n d_Pm_offset_26 rfl ?_
  refine V_iload_n d_Pm_offset_27 rfl ?_
  refine V_cV s_Pm_offset_28 (do_Ad_moved c_Ad d2 q x hq hx) c_Ad rfl rfl (Nat.le_of_ble_eq_true rfl) ?_
  exact V_iret d_Pm_offset_31 rfl rfl
theorem pm_miss_i (hNT : NoTr l) (c_Pm : h[0]? = some PmO) (c_Pl : h[5]? = some (PlO n sp)) (p : Int32) (hc : hasB p n = false) : Do l G k_Pm_miss [.ref 1, .int p] h (.inr h.length) (h ++ [exI]) := by
  refine Do.of (by decide) (Nat.le_of_ble_eq_true rfl) kw_Pm_miss ?_
  refine V_aload_n d_Pm_miss_0 rfl ?_
  refine V_gf g_Pm_miss_1 c_Pm rfl ?_
  refine V_iload_n d_Pm_miss_4 rfl ?_
  refine V_cV s_Pm_miss_5 (do_Pl_has c_Pl p) c_Pl rfl rfl (Nat.le_of_ble_eq_true rfl) ?_
  rw [hc]
  exact V_cSt s_Pm_miss_8 (ndI_f hNT) rfl rfl (Nat.le_of_ble_eq_true rfl) rfl
theorem pm_miss (hL : 27 ≤ h.length) (c_Pm : h[0]? = some PmO) (c_Pl : h[5]? = some (PlO n sp)) (c_Ad : h[12]? = some AdO) (hid : adH h n sp As Bn wh P O PB OB = h) (hn : n ≤ 12) (p : Nat) (hp : p < n) : Do l G k_Pm_miss [.ref 1, .int (nI p)] h (rl (shR Bn wh P O p)) h := by
  refine Do.of (by decide) (Nat.le_of_ble_eq_true rfl) kw_Pm_miss ?_
  have e1 : hasB (nI p) n = true := has_n hp (by omega)
  refine V_aload_n d_Pm_miss_0 rfl ?_
  refine V_gf g_Pm_miss_1 c_Pm rfl ?_
  refine V_iload_n d_Pm_miss_4 rfl ?_
  refine V_cV s_Pm_miss_5 (do_Pl_has c_Pl (nI p)) c_Pl rfl rfl (Nat.le_of_ble_eq_true rfl) ?_
  rw [e1]
  refine V_cS s_Pm_miss_8 ndI_t rfl rfl (Nat.le_of_ble_eq_true rfl) ?_
  refine V_aload_n d_Pm_miss_11 rfl ?_
  refine V_gf g_Pm_miss_12 c_Pm rfl ?_
  refine V_aload_n d_Pm_miss_15 rfl ?_
  refine V_gf g_Pm_miss_16 c_Pm rfl ?_
  refine V_iload_n d_Pm_miss_19 rfl ?_
  refine V_cV s_Pm_miss_20 ((do_Ad_share hL p (by omega)).eqh hid hid) c_Ad rfl rfl (Nat.le_of_ble_eq_true rfl) ?_
  exact V_lret d_Pm_miss_23 rfl
end P27
end
section
section P28
variable {l : Launch} {G : Gb} {h : List Ce} {w ht n : Nat} {f C Df ms wh P O PB OB Ln : Nat → Int32} {Dp F T : Nat → Nat} {As Bn op : Nat → Bool} {dn rc ra : Bool} {fx fy le sp bx y9 qd : Int32} {sd nm : Nat} {qu : Nat → Int32}
/-- known -/
theorem pm_known_i (hNT : NoTr l) (c_Pm : h[0]? = some PmO) (c_Pl : h[5]? = some (PlO n sp)) (a b k : Int32) (hc : (hasB a n && hasB b n) = false) : Do l G k_Pm_known [.ref 1, .int a, .int b, .int k] h (.inr h.length) (h ++ [exI]) := by
  refine Do.of (by decide) (Nat.le_of_ble_eq_true rfl) kw_Pm_known ?_
  refine V_aload_n d_Pm_known_0 rfl ?_
  refine V_gf g_Pm_known_1 c_Pm rfl ?_
  refine V_iload_n d_Pm_known_4 rfl ?_
  refine V_cV s_Pm_known_5 (do_Pl_has c_Pl a) c_Pl rfl rfl (Nat.le_of_ble_eq_true rfl) ?_
  refine V_if_eq (tgt := 26) d_Pm_known_8 (by decide) (fun c1 => ?_) (fun c1 => ?_)
  · refine V_iconst (v := 0) d_Pm_known_26 (by decide) ?_
    exact V_cSt s_Pm_known_27 (ndI_f hNT) rfl rfl (Nat.le_of_ble_eq_true rfl) rfl
  · have c1' : hasB a n = true := by simpa [bI_0] using c1
    rw [c1', Bool.true_and] at hc
    refine V_aload_n d_Pm_known_11 rfl ?_
    refine V_gf g_Pm_known_12 c_Pm rfl ?_
    refine V_iload_n d_Pm_known_15 rfl ?_
    refine V_cV s_Pm_known_16 (do_Pl_has c_Pl b) c_Pl rfl rfl (Nat.le_of_ble_eq_true rfl) ?_
    refine V_if_eq (tgt := 26) d_Pm_known_19 (by decide) (fun _ => ?_) (fun c9 => absurd (((bI_0 _).mpr hc)) c9)
    refine V_iconst (v := 0) d_Pm_known_26 (by decide) ?_
    exact V_cSt s_Pm_known_27 (ndI_f hNT) rfl rfl (Nat.le_of_ble_eq_true rfl) rfl
theorem pm_known_a (hNT : NoTr l) (c_Pm : h[0]? = some PmO) (c_Pl : h[5]? = some (PlO n sp)) (a b k : Int32) (hc : (hasB a n && hasB b n) = true) (hs : (!decide (a = b) && wiB k 1 10000) = false) : Do l G k_Pm_known [.ref 1, .int a, .int b, .int k] h (.inr h.length) (h ++ [exA]) := by
  refine Do.of (by decide) (Nat.le_of_ble_eq_true rfl) kw_Pm_known ?_
  simp only [Bool.and_eq_true] at hc
  refine V_aload_n d_Pm_known_0 rfl ?_
  refine V_gf g_Pm_known_1 c_Pm rfl ?_
  refine V_iload_n d_Pm_known_4 rfl ?_
  refine V_cV s_Pm_known_5 (do_Pl_has c_Pl a) c_Pl rfl rfl (Nat.le_of_ble_eq_true rfl) ?_
  refine V_if_eq (tgt := 26) d_Pm_known_8 (by decide) (fun c9 => absurd c9 ((by rw [hc.1]; decide : ¬ bI (hasB a n) = 0))) (fun _ => ?_)
  refine V_aload_n d_Pm_known_11 rfl ?_
  refine V_gf g_Pm_known_12 c_Pm rfl ?_
  refine V_iload_n d_Pm_known_15 rfl ?_
  refine V_cV s_Pm_known_16 (do_Pl_has c_Pl b) c_Pl rfl rfl (Nat.le_of_ble_eq_true rfl) ?_
  refine V_if_eq (tgt := 26) d_Pm_known_19 (by decide) (fun c9 => absurd c9 ((by rw [hc.2]; decide : ¬ bI (hasB b n) = 0))) (fun _ => ?_)
  refine V_iconst (v := 1) d_Pm_known_22 (by decide) ?_
  refine V_goto (tgt := 27) d_Pm_known_23 (by decide) ?_
  refine V_cS s_Pm_known_27 ndI_t rfl rfl (Nat.le_of_ble_eq_true rfl) ?_
  refine V_iload_n d_Pm_known_30 rfl ?_
  refine V_iload_n d_Pm_known_31 rfl ?_
  refine V_icmp_eq (tgt := 50) d_Pm_known_32 (by decide) (fun c1 => ?_) (fun c1 => ?_)
  · refine V_iconst (v := 0) d_Pm_known_50 (by decide) ?_
    exact V_cSt s_Pm_known_51 (ndA_f hNT) rfl rfl (Nat.le_of_ble_eq_true rfl) rfl
  · simp only [show decide (a = b) = false from decide_eq_false c1, Bool.not_false, Bool.true_and] at hs
    refine V_iload_n d_Pm_known_35 rfl ?_
    refine V_iconst (v := 1) d_Pm_known_36 (by decide) ?_
    refine V_sipush (v := 10000) d_Pm_known_37 (by decide) ?_
    refine V_cS s_Pm_known_40 (do_isWithin k 1 10000) rfl rfl (Nat.le_of_ble_eq_true rfl) ?_
    refine V_if_eq (tgt := 50) d_Pm_known_43 (by decide) (fun _ => ?_) (fun c9 => absurd (((bI_0 _).mpr hs)) c9)
    refine V_iconst (v := 0) d_Pm_known_50 (by decide) ?_
    exact V_cSt s_Pm_known_51 (ndA_f hNT) rfl rfl (Nat.le_of_ble_eq_true rfl) rfl
theorem pm_known_s (hNT : NoTr l) (c_Pm : h[0]? = some PmO) (c_Pl : h[5]? = some (PlO n sp)) {m : Nat} (c_Le : h[17]? = some (LeO m)) (hm : m = 10) (a b k : Int32) (hc : (hasB a n && hasB b n) = true) (hs : (!decide (a = b) && wiB k 1 10000) = true) : Do l G k_Pm_known [.ref 1, .int a, .int b, .int k] h (.inr h.length) (h ++ [exS]) := by
  subst hm
  refine Do.of (by decide) (Nat.le_of_ble_eq_true rfl) kw_Pm_known ?_
  simp only [Bool.and_eq_true, Bool.not_eq_true', decide_eq_false_iff_not] at hc hs
  refine V_aload_n d_Pm_known_0 rfl ?_
  refine V_gf g_Pm_known_1 c_Pm rfl ?_
  refine V_iload_n d_Pm_known_4 rfl ?_
  refine V_cV s_Pm_known_5 (do_Pl_has c_Pl a) c_Pl rfl rfl (Nat.le_of_ble_eq_true rfl) ?_
  refine V_if_eq (tgt := 26) d_Pm_known_8 (by decide) (fun c9 => absurd c9 ((by rw [hc.1]; decide : ¬ bI (hasB a n) = 0))) (fun _ => ?_)
  refine V_aload_n d_Pm_known_11 rfl ?_
  refine V_gf g_Pm_known_12 c_Pm rfl ?_
  refine V_iload_n d_Pm_known_15 rfl ?_
  refine V_cV s_Pm_known_16 (do_Pl_has c_Pl b) c_Pl rfl rfl (Nat.le_of_ble_eq_true rfl) ?_
  refine V_if_eq (tgt := 26) d_Pm_known_19 (by decide) (fun c9 => absurd c9 ((by rw [hc.2]; decide : ¬ bI (hasB b n) = 0))) (fun _ => ?_)
  refine V_iconst (v := 1) d_Pm_known_22 (by decide) ?_
  refine V_goto (tgt := 27) d_Pm_known_23 (by decide) ?_
  refine V_cS s_Pm_known_27 ndI_t rfl rfl (Nat.le_of_ble_eq_true rfl) ?_
  refine V_iload_n d_Pm_known_30 rfl ?_
  refine V_iload_n d_Pm_known_31 rfl ?_
  refine V_icmp_eq (tgt := 50) d_Pm_known_32 (by decide) (fun c9 => absurd c9 (hs.1)) (fun _ => ?_)
  refine V_iload_n d_Pm_known_35 rfl ?_
  refine V_iconst (v := 1) d_Pm_known_36 (by decide) ?_
  refine V_sipush (v := 10000) d_Pm_known_37 (by decide) ?_
  refine V_cS s_Pm_known_40 (do_isWithin k 1 10000) rfl rfl (Nat.le_of_ble_eq_true rfl) ?_
  refine V_if_eq (tgt := 50) d_Pm_known_43 (by decide) (fun c9 => absurd c9 ((by rw [hs.2]; decide : ¬ bI (wiB k 1 10000) = 0))) (fun _ => ?_)
  refine V_iconst (v := 1) d_Pm_known_46 (by decide) ?_
  refine V_goto (tgt := 51) d_Pm_known_47 (by decide) ?_
  refine V_cS s_Pm_known_51 ndA_t rfl rfl (Nat.le_of_ble_eq_true rfl) ?_
  refine V_aload_n d_Pm_known_54 rfl ?_
  refine V_gf g_Pm_known_55 c_Pm rfl ?_
  refine V_cV s_Pm_known_58 (do_Le_number c_Le) c_Le rfl rfl (Nat.le_of_ble_eq_true rfl) ?_
  refine V_bipush (v := 10) d_Pm_known_61 (by decide) ?_
  refine V_icmp_ge (tgt := 70) d_Pm_known_63 (by decide) (fun _ => ?_) (fun c9 => absurd ((by decide : (10 : Int32) ≤ nI 10)) c9)
  refine V_iconst (v := 0) d_Pm_known_70 (by decide) ?_
  exact V_cSt s_Pm_known_71 (ndS_f hNT) rfl rfl (Nat.le_of_ble_eq_true rfl) rfl
theorem pm_known (hL : 27 ≤ h.length) (c_Pm : h[0]? = some PmO) (c_Pl : h[5]? = some (PlO n sp)) {m : Nat} (c_Le : h[17]? = some (LeO m)) (hid : leH h P m F T Ln = h) (hn : n ≤ 12) (hm : m < 10) (a b : Nat) (k : Int32) (ha : a < n) (hb : b < n) (hab : a ≠ b) (hk : wiB k 1 10000 = true) : Do l G k_Pm_known [.ref 1, .int (nI a), .int (nI b), .int k] h (ri (nI (m + 1))) (leH h P (m + 1) (updN F m a) (updN T m b) (upd Ln m k)) := by
  refine Do.of (by decide) (Nat.le_of_ble_eq_true rfl) kw_Pm_known ?_
  have e1 : hasB (nI a) n = true := has_n ha (by omega)
  have e2 : hasB (nI b) n = true := has_n hb (by omega)
  refine V_aload_n d_Pm_known_0 rfl ?_
  refine V_gf g_Pm_known_1 c_Pm rfl ?_
  refine V_iload_n d_Pm_known_4 rfl ?_
  refine V_cV s_Pm_known_5 (do_Pl_has c_Pl (nI a)) c_Pl rfl rfl (Nat.le_of_ble_eq_true rfl) ?_
  refine V_if_eq (tgt := 26) d_Pm_known_8 (by decide) (fun c9 => absurd c9 ((by rw [e1]; decide : ¬ bI (hasB (nI a) n) = 0))) (fun _ => ?_)
  refine V_aload_n d_Pm_known_11 rfl ?_
  refine V_gf g_Pm_known_12 c_Pm rfl ?_
  refine V_iload_n d_Pm_known_15 rfl ?_
  refine V_cV s_Pm_known_16 (do_Pl_has c_Pl (nI b)) c_Pl rfl rfl (Nat.le_of_ble_eq_true rfl) ?_
  refine V_if_eq (tgt := 26) d_Pm_known_19 (by decide) (fun c9 => absurd c9 ((by rw [e2]; decide : ¬ bI (hasB (nI b) n) = 0))) (fun _ => ?_)
  refine V_iconst (v := 1) d_Pm_known_22 (by decide) ?_
  refine V_goto (tgt := 27) d_Pm_known_23 (by decide) ?_
  refine V_cS s_Pm_known_27 ndI_t rfl rfl (Nat.le_of_ble_eq_true rfl) ?_
  refine V_iload_n d_Pm_known_30 rfl ?_
  refine V_iload_n d_Pm_known_31 rfl ?_
  refine V_icmp_eq (tgt := 50) d_Pm_known_32 (by decide) (fun c9 => absurd c9 ((fun q => hab ((nI_eq (by omega) (by omega)).mp q) : ¬ nI a = nI b))) (fun _ => ?_)
  refine V_iload_n d_Pm_known_35 rfl ?_
  refine V_iconst (v := 1) d_Pm_known_36 (by decide) ?_
  refine V_sipush (v := 10000) d_Pm_known_37 (by decide) ?_
  refine V_cS s_Pm_known_40 (do_isWithin k 1 10000) rfl rfl (Nat.le_of_ble_eq_true rfl) ?_
  refine V_if_eq (tgt := 50) d_Pm_known_43 (by decide) (fun c9 => absurd c9 ((by rw [hk]; decide : ¬ bI (wiB k 1 10000) = 0))) (fun _ => ?_)
  refine V_iconst (v := 1) d_Pm_known_46 (by decide) ?_
  refine V_goto (tgt := 51) d_Pm_known_47 (by decide) ?_
  refine V_cS s_Pm_known_51 ndA_t rfl rfl (Nat.le_of_ble_eq_true rfl) ?_
  refine V_aload_n d_Pm_known_54 rfl ?_
  refine V_gf g_Pm_known_55 c_Pm rfl ?_
  refine V_cV s_Pm_known_58 (do_Le_number c_Le) c_Le rfl rfl (Nat.le_of_ble_eq_true rfl) ?_
  refine V_bipush (v := 10) d_Pm_known_61 (by decide) ?_
  refine V_icmp_ge (tgt := 70) d_Pm_known_63 (by decide) (fun c9 => absurd c9 ((nI_ge (b := 10) hm (by decide) : ¬ (10 : Int32) ≤ nI m))) (fun _ => ?_)
  refine V_iconst (v := 1) d_Pm_known_66 (by decide) ?_
  refine V_goto (tgt := 71) d_Pm_known_67 (by decide) ?_
  refine V_cS s_Pm_known_71 ndS_t rfl rfl (Nat.le_of_ble_eq_true rfl) ?_
  refine V_aload_n d_Pm_known_74 rfl ?_
  refine V_gf g_Pm_known_75 c_Pm rfl ?_
  refine V_iload_n d_Pm_known_78 rfl ?_
  refine V_iload_n d_Pm_known_79 rfl ?_
  refine V_iload_n d_Pm_known_80 rfl ?_
  refine V_cV s_Pm_known_81 ((do_Le_add hL hm a b k).eqh hid rfl) c_Le rfl rfl (Nat.le_of_ble_eq_true rfl) ?_
  exact V_iret d_Pm_known_84 rfl rfl
/-- scale -/
theorem pm_scale_i (hNT : NoTr l) (x : Int32) (hc : wiB x 0 1 = false) : Do l G k_Pm_scale [.ref 1, .int x] h (.inr h.length) (h ++ [exI]) := by
  refine Do.of (by decide) (Nat.le_of_ble_eq_true rfl) kw_Pm_scale ?_
  refine V_iload_n d_Pm_scale_0 rfl ?_
  refine V_iconst (v := 0) d_Pm_scale_1 (by decide) ?_
  refine V_iconst (v := 1) d_Pm_scale_2 (by decide) ?_
  refine V_cS s_Pm_scale_3 (do_isWithin x 0 1) rfl rfl (Nat.le_of_ble_eq_true rfl) ?_
  rw [hc]
  exact V_cSt s_Pm_scale_6 (ndI_f hNT) rfl rfl (Nat.le_of_ble_eq_true rfl) rfl
theorem pm_scale (hL : 27 ≤ h.length) (c_Pm : h[0]? = some PmO) {m : Nat} (c_Le : h[17]? = some (LeO m)) (hid : leH h P m F T Ln = h) (hm : m ≤ 10) (hF : ∀ i, i < m → F i < 12 ∧ T i < 12) (x : Int32) (hc : wiB x 0 1 = true) : Do l G k_Pm_scale [.ref 1, .int x] h (rl (frA (frR P Ln F T m) x)) h := by
  refine Do.of (by decide) (Nat.le_of_ble_eq_true rfl) kw_Pm_scale ?_
  refine V_iload_n d_Pm_scale_0 rfl ?_
  refine V_iconst (v := 0) d_Pm_scale_1 (by decide) ?_
  refine V_iconst (v := 1) d_Pm_scale_2 (by decide) ?_
  refine V_cS s_Pm_scale_3 (do_isWithin x 0 1) rfl rfl (Nat.le_of_ble_eq_true rfl) ?_
  rw [hc]
  refine V_cS s_Pm_scale_6 ndI_t rfl rfl (Nat.le_of_ble_eq_true rfl) ?_
  refine V_aload_n d_Pm_scale_9 rfl ?_
  refine V_gf g_Pm_scale_10 c_Pm rfl ?_
  refine V_aload_n d_Pm_scale_13 rfl ?_
  refine V_gf g_Pm_scale_14 c_Pm rfl ?_
  refine V_iload_n d_Pm_scale_17 rfl ?_
  refine V_cV s_Pm_scale_18 ((do_Le_fraction hL hm hF x).eqh hid hid) c_Le rfl rfl (Nat.le_of_ble_eq_true rfl) ?_
  exact V_lret d_Pm_scale_21 rfl
/-- heights, depth, holes -/
theorem pm_heights_i (hNT : NoTr l) (a b k : Int32) (hc : (wiB a 0 3 && wiB b 0 3) = false) : Do l G k_Pm_heights [.ref 1, .int a, .int b, .int k] h (.inr h.length) (h ++ [exI]) := by
  refine Do.of (by decide) (Nat.le_of_ble_eq_true rfl) kw_Pm_heights ?_
  refine V_iload_n d_Pm_heights_0 rfl ?_
  refine V_cS s_Pm_heights_1 (do_isPhoto a) rfl rfl (Nat.le_of_ble_eq_true rfl) ?_
  refine V_if_eq (tgt := 18) d_Pm_heights_4 (by decide) (fun c1 => ?_) (fun c1 => ?_)
  · refine V_iconst (v := 0) d_Pm_heights_18 (by decide) ?_
    exact V_cSt s_Pm_heights_19 (ndI_f hNT) rfl rfl (Nat.le_of_ble_eq_true rfl) rfl
  · have c1' : wiB a 0 3 = true := by simpa [bI_0] using c1
    rw [c1', Bool.true_and] at hc
    refine V_iload_n d_Pm_heights_7 rfl ?_
    refine V_cS s_Pm_heights_8 (do_isPhoto b) rfl rfl (Nat.le_of_ble_eq_true rfl) ?_
    refine V_if_eq (tgt := 18) d_Pm_heights_11 (by decide) (fun _ => ?_) (fun c9 => absurd (((bI_0 _).mpr hc)) c9)
    refine V_iconst (v := 0) d_Pm_heights_18 (by decide) ?_
    exact V_cSt s_Pm_heights_19 (ndI_f hNT) rfl rfl (Nat.le_of_ble_eq_true rfl) rfl
theorem pm_heights_a (hNT : NoTr l) (a b k : Int32) (hc : (wiB a 0 3 && wiB b 0 3) = true) (hs : wiB k 0 100 = false) : Do l G k_Pm_heights [.ref 1, .int a, .int b, .int k] h (.inr h.length) (h ++ [exA]) := by
  refine Do.of (by decide) (Nat.le_of_ble_eq_true rfl) kw_Pm_heights ?_
  simp only [Bool.and_eq_true] at hc
  refine V_iload_n d_Pm_heights_0 rfl ?_
  refine V_cS s_Pm_heights_1 (do_isPhoto a) rfl rfl (Nat.le_of_ble_eq_true rfl) ?_
  refine V_if_eq (tgt := 18) d_Pm_heights_4 (by decide) (fun c9 => absurd c9 ((by rw [hc.1]; decide : ¬ bI (wiB a 0 3) = 0))) (fun _ => ?_)
  refine V_iload_n d_Pm_heights_7 rfl ?_
  refine V_cS s_Pm_heights_8 (do_isPhoto b) rfl rfl (Nat.le_of_ble_eq_true rfl) ?_
  refine V_if_eq (tgt := 18) d_Pm_heights_11 (by decide) (fun c9 => absurd c9 ((by rw [hc.2]; decide : ¬ bI (wiB b 0 3) = 0))) (fun _ => ?_)
  refine V_iconst (v := 1) d_Pm_heights_14 (by decide) ?_
  refine V_goto (tgt := 19) d_Pm_heights_15 (by decide) ?_
  refine V_cS s_Pm_heights_19 ndI_t rfl rfl (Nat.le_of_ble_eq_true rfl) ?_
  refine V_iload_n d_Pm_heights_22 rfl ?_
  refine V_iconst (v := 0) d_Pm_heights_23 (by decide) ?_
  refine V_bipush (v := 100) d_Pm_heights_24 (by decide) ?_
  refine V_cS s_Pm_heights_26 (do_isWithin k 0 100) rfl rfl (Nat.le_of_ble_eq_true rfl) ?_
  rw [hs]
  exact V_cSt s_Pm_heights_29 (ndA_f hNT) rfl rfl (Nat.le_of_ble_eq_true rfl) rfl
theorem pm_heights (hL : 27 ≤ h.length) (c_Pm : h[0]? = some PmO) (c_Re : h[21]? = some (ReO w ht qd ra)) (hid : reH h w ht f qd ra Dp Df C op qu = h) (hw : 6 ≤ w ∧ w ≤ 20) (hht : ht ≤ 20) (a b : Nat) (k : Int32) (ha : a < 4) (hb : b < 4) (hk : wiB k 0 100 = true) (R : Ra) (hR : R = raR f w ht a b k Dp Df C) : Do l G k_Pm_heights [.ref 1, .int (nI a), .int (nI b), .int k] h (ri R.1) (reH h w ht f qd true R.2.1 R.2.2.1 R.2.2.2 op qu) := by
  refine Do.of (by decide) (Nat.le_of_ble_eq_true rfl) kw_Pm_heights ?_
  have e1 : wiB (nI a) 0 3 = true := wi_n (b := 3) (by omega) (by decide)
  have e2 : wiB (nI b) 0 3 = true := wi_n (b := 3) (by omega) (by decide)
  refine V_iload_n d_Pm_heights_0 rfl ?_
  refine V_cS s_Pm_heights_1 (do_isPhoto (nI a)) rfl rfl (Nat.le_of_ble_eq_true rfl) ?_
  refine V_if_eq (tgt := 18) d_Pm_heights_4 (by decide) (fun c9 => absurd c9 ((by rw [e1]; decide : ¬ bI (wiB (nI a) 0 3) = 0))) (fun _ => ?_)
  refine V_iload_n d_Pm_heights_7 rfl ?_
  refine V_cS s_Pm_heights_8 (do_isPhoto (nI b)) rfl rfl (Nat.le_of_ble_eq_true rfl) ?_
  refine V_if_eq (tgt := 18) d_Pm_heights_11 (by decide) (fun c9 => absurd c9 ((by rw [e2]; decide : ¬ bI (wiB (nI b) 0 3) = 0))) (fun _ => ?_)
  refine V_iconst (v := 1) d_Pm_heights_14 (by decide) ?_
  refine V_goto (tgt := 19) d_Pm_heights_15 (by decide) ?_
  refine V_cS s_Pm_heights_19 ndI_t rfl rfl (Nat.le_of_ble_eq_true rfl) ?_
  refine V_iload_n d_Pm_heights_22 rfl ?_
  refine V_iconst (v := 0) d_Pm_heights_23 (by decide) ?_
  refine V_bipush (v := 100) d_Pm_heights_24 (by decide) ?_
  refine V_cS s_Pm_heights_26 (do_isWithin k 0 100) rfl rfl (Nat.le_of_ble_eq_true rfl) ?_
  rw [hk]
  refine V_cS s_Pm_heights_29 ndA_t rfl rfl (Nat.le_of_ble_eq_true rfl) ?_
  refine V_aload_n d_Pm_heights_32 rfl ?_
  refine V_gf g_Pm_heights_33 c_Pm rfl ?_
  refine V_aload_n d_Pm_heights_36 rfl ?_
  refine V_gf g_Pm_heights_37 c_Pm rfl ?_
  refine V_iload_n d_Pm_heights_40 rfl ?_
  refine V_iload_n d_Pm_heights_41 rfl ?_
  refine V_iload_n d_Pm_heights_42 rfl ?_
  refine V_cV s_Pm_heights_43 ((do_Re_raise hL hw hht a b k ha hb R hR).eqh hid rfl) c_Re rfl rfl (Nat.le_of_ble_eq_true rfl) ?_
  exact V_iret d_Pm_heights_46 rfl rfl
theorem pm_depth_i (hNT : NoTr l) (c_Pm : h[0]? = some PmO) (c_Ph : h[1]? = some (PhO w ht)) (x y : Int32) (hc : (wiB x 0 (nI w - 1) && wiB y 0 (nI ht - 1)) = false) : Do l G k_Pm_depth [.ref 1, .int x, .int y] h (.inr h.length) (h ++ [exI]) := by
  refine Do.of (by decide) (Nat.le_of_ble_eq_true rfl) kw_Pm_depth ?_
  refine V_aload_n d_Pm_depth_0 rfl ?_
  refine V_gf g_Pm_depth_1 c_Pm rfl ?_
  refine V_iload_n d_Pm_depth_4 rfl ?_
  refine V_iload_n d_Pm_depth_5 rfl ?_
  refine V_cV s_Pm_depth_6 (do_Ph_hasCell c_Ph x y) c_Ph rfl rfl (Nat.le_of_ble_eq_true rfl) ?_
  rw [hc]
  exact V_cSt s_Pm_depth_9 (ndI_f hNT) rfl rfl (Nat.le_of_ble_eq_true rfl) rfl
theorem pm_depth_s (hNT : NoTr l) (c_Pm : h[0]? = some PmO) (c_Ph : h[1]? = some (PhO w ht)) (c_Re : h[21]? = some (ReO w ht qd false)) (x y : Int32) (hc : (wiB x 0 (nI w - 1) && wiB y 0 (nI ht - 1)) = true) : Do l G k_Pm_depth [.ref 1, .int x, .int y] h (.inr h.length) (h ++ [exS]) := by
  refine Do.of (by decide) (Nat.le_of_ble_eq_true rfl) kw_Pm_depth ?_
  refine V_aload_n d_Pm_depth_0 rfl ?_
  refine V_gf g_Pm_depth_1 c_Pm rfl ?_
  refine V_iload_n d_Pm_depth_4 rfl ?_
  refine V_iload_n d_Pm_depth_5 rfl ?_
  refine V_cV s_Pm_depth_6 (do_Ph_hasCell c_Ph x y) c_Ph rfl rfl (Nat.le_of_ble_eq_true rfl) ?_
  rw [hc]
  refine V_cS s_Pm_depth_9 ndI_t rfl rfl (Nat.le_of_ble_eq_true rfl) ?_
  refine V_aload_n d_Pm_depth_12 rfl ?_
  refine V_gf g_Pm_depth_13 c_Pm rfl ?_
  refine V_cV s_Pm_depth_16 (do_Re_isRaised c_Re) c_Re rfl rfl (Nat.le_of_ble_eq_true rfl) ?_
  exact V_cSt s_Pm_depth_19 (ndS_f hNT) rfl rfl (Nat.le_of_ble_eq_true rfl) rfl
theorem pm_depth (c_Pm : h[0]? = some PmO) (c_Ph : h[1]? = some (PhO w ht)) (c_Re : h[21]? = some (ReO w ht qd true)) (a_Re_depths : h[22]? = some (NA (w * ht) Dp)) (hw : w ≤ 20) (hht : ht ≤ 20) (x y : Nat) (hx : x < w) (hy : y < ht) : Do l G k_Pm_depth [.ref 1, .int (nI x), .int (nI y)] h (ri (nI (Dp (y * w + x)))) h := by
  refine Do.of (by decide) (Nat.le_of_ble_eq_true rfl) kw_Pm_depth ?_
  have e2 : wiB (nI x) 0 (nI w - 1) = true := by rw [nIm1 (by omega)]; exact wi_n (by omega) (by omega)
  have e3 : wiB (nI y) 0 (nI ht - 1) = true := by rw [nIm1 (by omega)]; exact wi_n (by omega) (by omega)
  refine V_aload_n d_Pm_depth_0 rfl ?_
  refine V_gf g_Pm_depth_1 c_Pm rfl ?_
  refine V_iload_n d_Pm_depth_4 rfl ?_
  refine V_iload_n d_Pm_depth_5 rfl ?_
  refine V_cV s_Pm_depth_6 (do_Ph_hasCell c_Ph (nI x) (nI y)) c_Ph rfl rfl (Nat.le_of_ble_eq_true rfl) ?_
  rw [e2, e3]
  refine V_cS s_Pm_depth_9 ndI_t rfl rfl (Nat.le_of_ble_eq_true rfl) ?_
  refine V_aload_n d_Pm_depth_12 rfl ?_
  refine V_gf g_Pm_depth_13 c_Pm rfl ?_
  refine V_cV s_Pm_depth_16 (do_Re_isRaised c_Re) c_Re rfl rfl (Nat.le_of_ble_eq_true rfl) ?_
  refine V_cS s_Pm_depth_19 ndS_t rfl rfl (Nat.le_of_ble_eq_true rfl) ?_
  refine V_aload_n d_Pm_depth_22 rfl ?_
  refine V_gf g_Pm_depth_23 c_Pm rfl ?_
  refine V_iload_n d_Pm_depth_26 rfl ?_
  refine V_iload_n d_Pm_depth_27 rfl ?_
  refine V_cV s_Pm_depth_28 (do_Re_depthOf c_Re a_Re_depths hw hht x y hx hy) c_Re rfl rfl (Nat.le_of_ble_eq_true rfl) ?_
  exact V_iret d_Pm_depth_31 rfl rfl
theorem pm_holes_s (hNT : NoTr l) (c_Pm : h[0]? = some PmO) (c_Re : h[21]? = some (ReO w ht qd false)) (x : Int32) : Do l G k_Pm_holes [.ref 1, .int x] h (.inr h.length) (h ++ [exS]) := by
  refine Do.of (by decide) (Nat.le_of_ble_eq_true rfl) kw_Pm_holes ?_
  refine V_aload_n d_Pm_holes_0 rfl ?_
  refine V_gf g_Pm_holes_1 c_Pm rfl ?_
  refine V_cV s_Pm_holes_4 (do_Re_isRaised c_Re) c_Re rfl rfl (Nat.le_of_ble_eq_true rfl) ?_
  exact V_cSt s_Pm_holes_7 (ndS_f hNT) rfl rfl (Nat.le_of_ble_eq_true rfl) rfl
theorem pm_holes (hL : 27 ≤ h.length) (c_Pm : h[0]? = some PmO) (q0 : Nat) (Q : Nat → Nat) (c_Re : h[21]? = some (ReO w ht (nI q0) true)) (hid : hoH h w ht f true Dp Df C (q0, Q, op) = h) (hw : w ≤ 20) (hht : ht ≤ 20) (hop : ∀ k, op k = true → inn w ht k) (lv : Int32) (S : Ho) (hS9 : S = hoR w ht (0, q0, Q, oaR Df w ht lv op)) : Do l G k_Pm_holes [.ref 1, .int lv] h (ri (nI S.1)) (hoH h w ht f true Dp Df C S.2) := by
  refine Do.of (by decide) (Nat.le_of_ble_eq_true rfl) kw_Pm_holes ?_
  refine V_aload_n d_Pm_holes_0 rfl ?_
  refine V_gf g_Pm_holes_1 c_Pm rfl ?_
  refine V_cV s_Pm_holes_4 (do_Re_isRaised c_Re) c_Re rfl rfl (Nat.le_of_ble_eq_true rfl) ?_
  refine V_cS s_Pm_holes_7 ndS_t rfl rfl (Nat.le_of_ble_eq_true rfl) ?_
  refine V_aload_n d_Pm_holes_10 rfl ?_
  refine V_gf g_Pm_holes_11 c_Pm rfl ?_
  refine V_iload_n d_Pm_holes_14 rfl ?_
  refine V_cV s_Pm_holes_15 ((do_Re_holesAbove hL hw hht q0 Q op hop lv S hS9).eqh hid rfl) c_Re rfl rfl (Nat.le_of_ble_eq_true rfl) ?_
  exact V_iret d_Pm_holes_18 rfl rfl
/-- count -/
theorem pm_count_i (hNT : NoTr l) (x : Int32) (hc : wiB x 0 4 = false) : Do l G k_Pm_count [.ref 1, .int x] h (.inr h.length) (h ++ [exI]) := by
  refine Do.of0 (by decide) (Nat.le_of_ble_eq_true rfl) kw_Pm_count ?_
  refine V0_iload_n d_Pm_count_0 rfl ?_
  have hx : x.toInt < 0 ∨ 4 < x.toInt := by
    simp only [wiB, Bool.and_eq_false_iff, decide_eq_false_iff_not, nle_iff, Int32.lt_iff_toInt_lt] at hc
    exact hc
  refine V0_swOut (tgt := 76) d_Pm_count_1 hx (by decide) ?_
  exact V0_thr hNT (X9 := "java/lang/IndexOutOfBoundsException") (tx := "no such count") (names := ["java/lang/RuntimeException", "java/lang/Exception"]) d_Pm_count_76 d_Pm_count_79 d_Pm_count_80 d_Pm_count_82 d_Pm_count_85 rfl (tx2 53 rfl rfl) (tx2 54 rfl rfl) (tx1 14 rfl rfl) (tx4 35 rfl rfl) (by decide) (by decide) own9 rfl rfl (by decide) (by decide) (Nat.le_of_ble_eq_true rfl)
theorem pm_count (c_Pm : h[0]? = some PmO) (c_Ph : h[1]? = some (PhO w ht)) (c_Pl : h[5]? = some (PlO n sp)) {m : Nat} (c_Le : h[17]? = some (LeO m)) (x : Nat) (hx : x ≤ 4) : Do l G k_Pm_count [.ref 1, .int (nI x)] h (ri (if x = 0 then nI w else if x = 1 then nI ht else if x = 2 then nI n else if x = 3 then nI m else sp)) h := by
  refine Do.of (by decide) (Nat.le_of_ble_eq_true rfl) kw_Pm_count ?_
  refine V_iload_n d_Pm_count_0 rfl ?_
  rcases (show x = 0 ∨ x = 1 ∨ x = 2 ∨ x = 3 ∨ x = 4 by omega) with q | q | q | q | q <;> subst q
  · refine V_swIn (off := 35) (tgt := 36) d_Pm_count_1 (by decide) (by decide) (by decide) (by decide) ?_
    refine V_aload_n d_Pm_count_36 rfl ?_
    refine V_gf g_Pm_count_37 c_Pm rfl ?_
    refine V_cV s_Pm_count_40 (do_Ph_width c_Ph) c_Ph rfl rfl (Nat.le_of_ble_eq_true rfl) ?_
    exact V_iret d_Pm_count_43 rfl rfl
  · refine V_swIn (off := 43) (tgt := 44) d_Pm_count_1 (by decide) (by decide) (by decide) (by decide) ?_
    refine V_aload_n d_Pm_count_44 rfl ?_
    refine V_gf g_Pm_count_45 c_Pm rfl ?_
    refine V_cV s_Pm_count_48 (do_Ph_height c_Ph) c_Ph rfl rfl (Nat.le_of_ble_eq_true rfl) ?_
    exact V_iret d_Pm_count_51 rfl rfl
  · refine V_swIn (off := 51) (tgt := 52) d_Pm_count_1 (by decide) (by decide) (by decide) (by decide) ?_
    refine V_aload_n d_Pm_count_52 rfl ?_
    refine V_gf g_Pm_count_53 c_Pm rfl ?_
    refine V_cV s_Pm_count_56 (do_Pl_number c_Pl) c_Pl rfl rfl (Nat.le_of_ble_eq_true rfl) ?_
    exact V_iret d_Pm_count_59 rfl rfl
  · refine V_swIn (off := 59) (tgt := 60) d_Pm_count_1 (by decide) (by decide) (by decide) (by decide) ?_
    refine V_aload_n d_Pm_count_60 rfl ?_
    refine V_gf g_Pm_count_61 c_Pm rfl ?_
    refine V_cV s_Pm_count_64 (do_Le_number c_Le) c_Le rfl rfl (Nat.le_of_ble_eq_true rfl) ?_
    exact V_iret d_Pm_count_67 rfl rfl
  · refine V_swIn (off := 67) (tgt := 68) d_Pm_count_1 (by decide) (by decide) (by decide) (by decide) ?_
    refine V_aload_n d_Pm_count_68 rfl ?_
    refine V_gf g_Pm_count_69 c_Pm rfl ?_
    refine V_cV s_Pm_count_72 (do_Pl_spares c_Pl) c_Pl rfl rfl (Nat.le_of_ble_eq_true rfl) ?_
    exact V_iret d_Pm_count_75 rfl rfl
end P28
end
section
section P29
variable {l : Launch} {G : Gb} {h : List Ce} {w ht sd : Nat}
section R
variable {K : Kt} {h0 : List Ce} {pc : Nat} {ls : List (Nat × Value)} {st : List Value} {r : Rs} {h' : List Ce}
theorem V_newiN {n : Int32} {N : Nat} (hd : decode K.code pc = .ok (.newarray .int, 2)) (hw : Cond.arrayClass .int ∈ tw) (e : n = nI N ∧ N ≤ 10000) (kk : V l G K h0 (pc + 2) ls (.ref (h.length + 1) :: st) (h ++ [IA N (fun _ => 0)]) r h') : V l G K h0 pc ls (.int n :: st) h r h' := by
  obtain ⟨rfl, hb⟩ := e
  exact V_newi hd hw (nI_pos (by omega)) (nI_clamp (by omega)) (by omega) kk
theorem V_newzN {n : Int32} {N : Nat} (hd : decode K.code pc = .ok (.newarray .boolean, 2)) (hw : Cond.arrayClass .boolean ∈ tw) (e : n = nI N ∧ N ≤ 10000) (kk : V l G K h0 (pc + 2) ls (.ref (h.length + 1) :: st) (h ++ [ZA N (fun _ => false)]) r h') : V l G K h0 pc ls (.int n :: st) h r h' := by
  obtain ⟨rfl, hb⟩ := e
  exact V_newz hd hw (nI_pos (by omega)) (nI_clamp (by omega)) (by omega) kk
theorem V_newlN {n : Int32} {N : Nat} (hd : decode K.code pc = .ok (.newarray .long, 2)) (hw : Cond.arrayClass .long ∈ tw) (e : n = nI N ∧ N ≤ 10000) (kk : V l G K h0 (pc + 2) ls (.ref (h.length + 1) :: st) (h ++ [.inl (.long, N, .inr (.inl (fun _ => 0)))]) r h') : V l G K h0 pc ls (.int n :: st) h r h' := by
  obtain ⟨rfl, hb⟩ := e
  exact V_newl hd hw (nI_pos (by omega)) (nI_clamp (by omega)) (by omega) kk
end R
abbrev zI : Nat → Int32 := fun _ => 0
abbrev zB : Nat → Bool := fun _ => false
theorem b1 (hw : w ≤ 20) (hht : ht ≤ 20) : 4 * ht * w ≤ 10000 := by
  have : 4 * ht * w ≤ 4 * 20 * 20 := Nat.mul_le_mul (Nat.mul_le_mul_left _ hht) hw
  omega
theorem b2 (hw : w ≤ 20) (hht : ht ≤ 20) : w * ht ≤ 10000 := by
  have : w * ht ≤ 20 * 20 := Nat.mul_le_mul hw hht
  omega
theorem b3 (hw : w ≤ 20) (hht : ht ≤ 20) : (w + 2) * (ht + 2) ≤ 10000 := by
  have : (w + 2) * (ht + 2) ≤ 22 * 22 := Nat.mul_le_mul (by omega) (by omega)
  omega
theorem do_Ph_init (c0 : Ce) (hw : w ≤ 20) (hht : ht ≤ 20) : Do l G k_Ph_init [.ref 2, .int (nI w), .int (nI ht)] [c0, .inr (3, [.int 0, .int 0, .null])] rv [c0, PhO w ht, IA (4 * ht * w) zI] := by
  refine Do.of (by decide) (Nat.le_of_ble_eq_true rfl) kw_Ph_init ?_
  have e : (4 : Int32) * nI w * nI ht = nI (4 * ht * w) := by rw [show (4 : Int32) = nI 4 from rfl, pk_mul, pk_mul, Nat.mul_right_comm]
  refine V_aload_n d_Ph_init_0 rfl ?_
  refine V_ob s_Ph_init_1 (Nat.le_of_ble_eq_true rfl) ?_
  refine V_aload_n d_Ph_init_4 rfl ?_
  refine V_iload_n d_Ph_init_5 rfl ?_
  refine V_pf p_Ph_init_6 rfl (Nat.le_of_ble_eq_true rfl) rfl rfl ?_
  refine V_aload_n d_Ph_init_9 rfl ?_
  refine V_iload_n d_Ph_init_10 rfl ?_
  refine V_pf p_Ph_init_11 rfl (Nat.le_of_ble_eq_true rfl) rfl rfl ?_
  refine V_aload_n d_Ph_init_14 rfl ?_
  refine V_iconst (v := 4) d_Ph_init_15 (by decide) ?_
  refine V_iload_n d_Ph_init_16 rfl ?_
  refine V_imul d_Ph_init_17 ?_
  refine V_iload_n d_Ph_init_18 rfl ?_
  refine V_imul d_Ph_init_19 ?_
  refine V_newiN d_Ph_init_20 tw_ai (⟨e, b1 hw hht⟩) ?_
  refine V_pf p_Ph_init_22 rfl (Nat.le_of_ble_eq_true rfl) rfl rfl ?_
  exact V_vret d_Ph_init_25 rfl
theorem do_Se_init (c0 c1 c2 : Ce) (hw : w ≤ 20) (hht : ht ≤ 20) : Do l G k_Se_init [.ref 4, .int (nI w), .int (nI ht)] [c0, c1, c2, .inr (6, [.int 0, .int 0, .null, .int 0, .int 0, .int 0, .int 0])] rv [c0, c1, c2, SeO w ht false 0 0 0, IA (w * ht) zI] := by
  refine Do.of (by decide) (Nat.le_of_ble_eq_true rfl) kw_Se_init ?_
  refine V_aload_n d_Se_init_0 rfl ?_
  refine V_ob s_Se_init_1 (Nat.le_of_ble_eq_true rfl) ?_
  refine V_aload_n d_Se_init_4 rfl ?_
  refine V_iload_n d_Se_init_5 rfl ?_
  refine V_pf p_Se_init_6 rfl (Nat.le_of_ble_eq_true rfl) rfl rfl ?_
  refine V_aload_n d_Se_init_9 rfl ?_
  refine V_iload_n d_Se_init_10 rfl ?_
  refine V_pf p_Se_init_11 rfl (Nat.le_of_ble_eq_true rfl) rfl rfl ?_
  refine V_aload_n d_Se_init_14 rfl ?_
  refine V_iload_n d_Se_init_15 rfl ?_
  refine V_iload_n d_Se_init_16 rfl ?_
  refine V_imul d_Se_init_17 ?_
  refine V_newiN d_Se_init_18 tw_ai (⟨pk_mul w ht, b2 hw hht⟩) ?_
  refine V_pf p_Se_init_20 rfl (Nat.le_of_ble_eq_true rfl) rfl rfl ?_
  exact V_vret d_Se_init_23 rfl
theorem do_Pl_init (c0 c1 c2 c3 c4 : Ce) : Do l G k_Pl_init [.ref 6] [c0, c1, c2, c3, c4, .inr (4, [.null, .null, .null, .int 0, .int 0])] rv [c0, c1, c2, c3, c4, PlO 0 0, ZA 12 zB, ZA 48 zB, IA 96 zI] := by
  refine Do.of (by decide) (Nat.le_of_ble_eq_true rfl) kw_Pl_init ?_
  refine V_aload_n d_Pl_init_0 rfl ?_
  refine V_ob s_Pl_init_1 (Nat.le_of_ble_eq_true rfl) ?_
  refine V_aload_n d_Pl_init_4 rfl ?_
  refine V_bipush (v := 12) d_Pl_init_5 (by decide) ?_
  refine V_newzN d_Pl_init_7 tw_az ((⟨rfl, by decide⟩ : (12 : Int32) = nI 12 ∧ _)) ?_
  refine V_pf p_Pl_init_9 rfl (Nat.le_of_ble_eq_true rfl) rfl rfl ?_
  refine V_aload_n d_Pl_init_12 rfl ?_
  refine V_bipush (v := 48) d_Pl_init_13 (by decide) ?_
  refine V_newzN d_Pl_init_15 tw_az ((⟨rfl, by decide⟩ : (48 : Int32) = nI 48 ∧ _)) ?_
  refine V_pf p_Pl_init_17 rfl (Nat.le_of_ble_eq_true rfl) rfl rfl ?_
  refine V_aload_n d_Pl_init_20 rfl ?_
  refine V_bipush (v := 96) d_Pl_init_21 (by decide) ?_
  refine V_newiN d_Pl_init_23 tw_ai ((⟨rfl, by decide⟩ : (96 : Int32) = nI 96 ∧ _)) ?_
  refine V_pf p_Pl_init_25 rfl (Nat.le_of_ble_eq_true rfl) rfl rfl ?_
  exact V_vret d_Pl_init_28 rfl
theorem do_Ag_init (c0 c1 c2 c3 c4 c5 c6 c7 c8 : Ce) : Do l G k_Ag_init [.ref 10, .int (nI sd)] [c0, c1, c2, c3, c4, c5, c6, c7, c8, .inr (1, [.int 0, .null, .null, .int 0, .int 0, .int 0, .int 0])] rv [c0, c1, c2, c3, c4, c5, c6, c7, c8, AgO sd 0 false 0 0, IA 12 zI, IA 12 zI] := by
  refine Do.of (by decide) (Nat.le_of_ble_eq_true rfl) kw_Ag_init ?_
  refine V_aload_n d_Ag_init_0 rfl ?_
  refine V_ob s_Ag_init_1 (Nat.le_of_ble_eq_true rfl) ?_
  refine V_aload_n d_Ag_init_4 rfl ?_
  refine V_bipush (v := 12) d_Ag_init_5 (by decide) ?_
  refine V_newiN d_Ag_init_7 tw_ai ((⟨rfl, by decide⟩ : (12 : Int32) = nI 12 ∧ _)) ?_
  refine V_pf p_Ag_init_9 rfl (Nat.le_of_ble_eq_true rfl) rfl rfl ?_
  refine V_aload_n d_Ag_init_12 rfl ?_
  refine V_bipush (v := 12) d_Ag_init_13 (by decide) ?_
  refine V_newiN d_Ag_init_15 tw_ai ((⟨rfl, by decide⟩ : (12 : Int32) = nI 12 ∧ _)) ?_
  refine V_pf p_Ag_init_17 rfl (Nat.le_of_ble_eq_true rfl) rfl rfl ?_
  refine V_aload_n d_Ag_init_20 rfl ?_
  refine V_iload_n d_Ag_init_21 rfl ?_
  refine V_pf p_Ag_init_22 rfl (Nat.le_of_ble_eq_true rfl) rfl rfl ?_
  exact V_vret d_Ag_init_25 rfl
theorem do_Ad_init (c0 c1 c2 c3 c4 c5 c6 c7 c8 c9 c10 c11 : Ce) : Do l G k_Ad_init [.ref 13] [c0, c1, c2, c3, c4, c5, c6, c7, c8, c9, c10, c11, .inr (0, [.null, .null, .null, .null])] rv [c0, c1, c2, c3, c4, c5, c6, c7, c8, c9, c10, c11, AdO, IA 24 zI, IA 8 zI, IA 24 zI, IA 8 zI] := by
  refine Do.of (by decide) (Nat.le_of_ble_eq_true rfl) kw_Ad_init ?_
  refine V_aload_n d_Ad_init_0 rfl ?_
  refine V_ob s_Ad_init_1 (Nat.le_of_ble_eq_true rfl) ?_
  refine V_aload_n d_Ad_init_4 rfl ?_
  refine V_bipush (v := 24) d_Ad_init_5 (by decide) ?_
  refine V_newiN d_Ad_init_7 tw_ai ((⟨rfl, by decide⟩ : (24 : Int32) = nI 24 ∧ _)) ?_
  refine V_pf p_Ad_init_9 rfl (Nat.le_of_ble_eq_true rfl) rfl rfl ?_
  refine V_aload_n d_Ad_init_12 rfl ?_
  refine V_bipush (v := 8) d_Ad_init_13 (by decide) ?_
  refine V_newiN d_Ad_init_15 tw_ai ((⟨rfl, by decide⟩ : (8 : Int32) = nI 8 ∧ _)) ?_
  refine V_pf p_Ad_init_17 rfl (Nat.le_of_ble_eq_true rfl) rfl rfl ?_
  refine V_aload_n d_Ad_init_20 rfl ?_
  refine V_bipush (v := 24) d_Ad_init_21 (by decide) ?_
  refine V_newiN d_Ad_init_23 tw_ai ((⟨rfl, by decide⟩ : (24 : Int32) = nI 24 ∧ _)) ?_
  refine V_pf p_Ad_init_25 rfl (Nat.le_of_ble_eq_true rfl) rfl rfl ?_
  refine V_aload_n d_Ad_init_28 rfl ?_
  refine V_bipush (v := 8) d_Ad_init_29 (by decide) ?_
  refine V_newiN d_Ad_init_31 tw_ai ((⟨rfl, by decide⟩ : (8 : Int32) = nI 8 ∧ _)) ?_
  refine V_pf p_Ad_init_33 rfl (Nat.le_of_ble_eq_true rfl) rfl rfl ?_
  exact V_vret d_Ad_init_36 rfl
theorem do_Le_init (c0 c1 c2 c3 c4 c5 c6 c7 c8 c9 c10 c11 c12 c13 c14 c15 c16 : Ce) : Do l G k_Le_init [.ref 18] [c0, c1, c2, c3, c4, c5, c6, c7, c8, c9, c10, c11, c12, c13, c14, c15, c16, .inr (2, [.null, .null, .null, .int 0])] rv [c0, c1, c2, c3, c4, c5, c6, c7, c8, c9, c10, c11, c12, c13, c14, c15, c16, LeO 0, IA 10 zI, IA 10 zI, IA 10 zI] := by
  refine Do.of (by decide) (Nat.le_of_ble_eq_true rfl) kw_Le_init ?_
  refine V_aload_n d_Le_init_0 rfl ?_
  refine V_ob s_Le_init_1 (Nat.le_of_ble_eq_true rfl) ?_
  refine V_aload_n d_Le_init_4 rfl ?_
  refine V_bipush (v := 10) d_Le_init_5 (by decide) ?_
  refine V_newiN d_Le_init_7 tw_ai ((⟨rfl, by decide⟩ : (10 : Int32) = nI 10 ∧ _)) ?_
  refine V_pf p_Le_init_9 rfl (Nat.le_of_ble_eq_true rfl) rfl rfl ?_
  refine V_aload_n d_Le_init_12 rfl ?_
  refine V_bipush (v := 10) d_Le_init_13 (by decide) ?_
  refine V_newiN d_Le_init_15 tw_ai ((⟨rfl, by decide⟩ : (10 : Int32) = nI 10 ∧ _)) ?_
  refine V_pf p_Le_init_17 rfl (Nat.le_of_ble_eq_true rfl) rfl rfl ?_
  refine V_aload_n d_Le_init_20 rfl ?_
  refine V_bipush (v := 10) d_Le_init_21 (by decide) ?_
  refine V_newiN d_Le_init_23 tw_ai ((⟨rfl, by decide⟩ : (10 : Int32) = nI 10 ∧ _)) ?_
  refine V_pf p_Le_init_25 rfl (Nat.le_of_ble_eq_true rfl) rfl rfl ?_
  exact V_vret d_Le_init_28 rfl
theorem do_Re_init (c0 c1 c2 c3 c4 c5 c6 c7 c8 c9 c10 c11 c12 c13 c14 c15 c16 c17 c18 c19 c20 : Ce) (hw : w ≤ 20) (hht : ht ≤ 20) : Do l G k_Re_init [.ref 22, .int (nI w), .int (nI ht)] [c0, c1, c2, c3, c4, c5, c6, c7, c8, c9, c10, c11, c12, c13, c14, c15, c16, c17, c18, c19, c20, .inr (5, [.int 0, .int 0, .null, .null, .null, .int 0, .null, .null, .int 0, .int 0])] rv [c0, c1, c2, c3, c4, c5, c6, c7, c8, c9, c10, c11, c12, c13, c14, c15, c16, c17, c18, c19, c20, ReO w ht 0 false, IA (w * ht) zI, IA (w * ht) zI, IA (w * 6) zI, ZA ((w + 2) * (ht + 2)) zB, IA (w * ht) zI] := by
  refine Do.of (by decide) (Nat.le_of_ble_eq_true rfl) kw_Re_init ?_
  refine V_aload_n d_Re_init_0 rfl ?_
  refine V_ob s_Re_init_1 (Nat.le_of_ble_eq_true rfl) ?_
  refine V_aload_n d_Re_init_4 rfl ?_
  refine V_iload_n d_Re_init_5 rfl ?_
  refine V_pf p_Re_init_6 rfl (Nat.le_of_ble_eq_true rfl) rfl rfl ?_
  refine V_aload_n d_Re_init_9 rfl ?_
  refine V_iload_n d_Re_init_10 rfl ?_
  refine V_pf p_Re_init_11 rfl (Nat.le_of_ble_eq_true rfl) rfl rfl ?_
  refine V_aload_n d_Re_init_14 rfl ?_
  refine V_iload_n d_Re_init_15 rfl ?_
  refine V_iload_n d_Re_init_16 rfl ?_
  refine V_imul d_Re_init_17 ?_
  refine V_newiN d_Re_init_18 tw_ai (⟨pk_mul w ht, b2 hw hht⟩) ?_
  refine V_pf p_Re_init_20 rfl (Nat.le_of_ble_eq_true rfl) rfl rfl ?_
  refine V_aload_n d_Re_init_23 rfl ?_
  refine V_iload_n d_Re_init_24 rfl ?_
  refine V_iload_n d_Re_init_25 rfl ?_
  refine V_imul d_Re_init_26 ?_
  refine V_newiN d_Re_init_27 tw_ai (⟨pk_mul w ht, b2 hw hht⟩) ?_
  refine V_pf p_Re_init_29 rfl (Nat.le_of_ble_eq_true rfl) rfl rfl ?_
  refine V_aload_n d_Re_init_32 rfl ?_
  refine V_iload_n d_Re_init_33 rfl ?_
  refine V_bipush (v := 6) d_Re_init_34 (by decide) ?_
  refine V_imul d_Re_init_36 ?_
  refine V_newiN d_Re_init_37 tw_ai (⟨by rw [show (6 : Int32) = nI 6 from rfl, pk_mul], show w * 6 ≤ 10000 by omega⟩) ?_
  refine V_pf p_Re_init_39 rfl (Nat.le_of_ble_eq_true rfl) rfl rfl ?_
  refine V_aload_n d_Re_init_42 rfl ?_
  refine V_iload_n d_Re_init_43 rfl ?_
  refine V_iconst (v := 2) d_Re_init_44 (by decide) ?_
  refine V_iadd d_Re_init_45 ?_
  rw [show nI w + 2 = nI (w + 2) from nI_add w 2]
  refine V_pf p_Re_init_46 rfl (Nat.le_of_ble_eq_true rfl) rfl rfl ?_
  refine V_aload_n d_Re_init_49 rfl ?_
  refine V_aload_n d_Re_init_50 rfl ?_
  refine V_gf g_Re_init_51 rfl rfl ?_
  refine V_iload_n d_Re_init_54 rfl ?_
  refine V_iconst (v := 2) d_Re_init_55 (by decide) ?_
  refine V_iadd d_Re_init_56 ?_
  refine V_imul d_Re_init_57 ?_
  refine V_newzN d_Re_init_58 tw_az (⟨by rw [show nI ht + 2 = nI (ht + 2) from nI_add ht 2, pk_mul], b3 hw hht⟩) ?_
  refine V_pf p_Re_init_60 rfl (Nat.le_of_ble_eq_true rfl) rfl rfl ?_
  refine V_aload_n d_Re_init_63 rfl ?_
  refine V_iload_n d_Re_init_64 rfl ?_
  refine V_iload_n d_Re_init_65 rfl ?_
  refine V_imul d_Re_init_66 ?_
  refine V_newiN d_Re_init_67 tw_ai (⟨pk_mul w ht, b2 hw hht⟩) ?_
  refine V_pf p_Re_init_69 rfl (Nat.le_of_ble_eq_true rfl) rfl rfl ?_
  exact V_vret d_Re_init_72 rfl
/-- x as it is made -/
def x0 (w ht sd : Nat) : List Ce := [PmO, PhO w ht, IA (4 * ht * w) zI, SeO w ht false 0 0 0, IA (w * ht) zI, PlO 0 0, ZA 12 zB, ZA 48 zB, IA 96 zI, AgO sd 0 false 0 0, IA 12 zI, IA 12 zI, AdO, IA 24 zI, IA 8 zI, IA 24 zI, IA 8 zI, LeO 0, IA 10 zI, IA 10 zI, IA 10 zI, ReO w ht 0 false, IA (w * ht) zI, IA (w * ht) zI, IA (w * 6) zI, ZA ((w + 2) * (ht + 2)) zB, IA (w * ht) zI]
theorem do_Pm_init (w0 h0 s0 : Int32) (ew : clI w0 6 20 = nI w) (eh : clI h0 6 20 = nI ht) (es : clI s0 0 65536 = nI sd) (hw : w ≤ 20) (hht : ht ≤ 20) : Do l G k_Pm_init [.ref 1, .int w0, .int h0, .int s0] [.inr (7, [.null, .null, .null, .null, .null, .null, .null])] rv (x0 w ht sd) := by
  refine Do.of (by decide) (Nat.le_of_ble_eq_true rfl) kw_Pm_init ?_
  refine V_aload_n d_Pm_init_0 rfl ?_
  refine V_ob s_Pm_init_1 (Nat.le_of_ble_eq_true rfl) ?_
  refine V_iload_n d_Pm_init_4 rfl ?_
  refine V_bipush (v := 6) d_Pm_init_5 (by decide) ?_
  refine V_bipush (v := 20) d_Pm_init_7 (by decide) ?_
  refine V_cS s_Pm_init_9 (do_within w0 6 20) rfl rfl (Nat.le_of_ble_eq_true rfl) ?_
  rw [ew]
  refine V_istore d_Pm_init_12 (by decide) rfl ?_
  refine V_iload_n d_Pm_init_14 rfl ?_
  refine V_bipush (v := 6) d_Pm_init_15 (by decide) ?_
  refine V_bipush (v := 20) d_Pm_init_17 (by decide) ?_
  refine V_cS s_Pm_init_19 (do_within h0 6 20) rfl rfl (Nat.le_of_ble_eq_true rfl) ?_
  rw [eh]
  refine V_istore d_Pm_init_22 (by decide) rfl ?_
  refine V_aload_n d_Pm_init_24 rfl ?_
  refine V_nw n_Pm_init_25 ?_
  refine V_dup d_Pm_init_28 rfl ?_
  refine V_iload d_Pm_init_29 rfl ?_
  refine V_iload d_Pm_init_31 rfl ?_
  refine V_cI s_Pm_init_33 (do_Ph_init _ hw hht) rfl rfl (Nat.le_of_ble_eq_true rfl) ?_
  refine V_pf p_Pm_init_36 rfl (Nat.le_of_ble_eq_true rfl) rfl rfl ?_
  refine V_aload_n d_Pm_init_39 rfl ?_
  refine V_nw n_Pm_init_40 ?_
  refine V_dup d_Pm_init_43 rfl ?_
  refine V_iload d_Pm_init_44 rfl ?_
  refine V_iload d_Pm_init_46 rfl ?_
  refine V_cI s_Pm_init_48 (do_Se_init _ _ _ hw hht) rfl rfl (Nat.le_of_ble_eq_true rfl) ?_
  refine V_pf p_Pm_init_51 rfl (Nat.le_of_ble_eq_true rfl) rfl rfl ?_
  refine V_aload_n d_Pm_init_54 rfl ?_
  refine V_nw n_Pm_init_55 ?_
  refine V_dup d_Pm_init_58 rfl ?_
  refine V_cI s_Pm_init_59 (do_Pl_init _ _ _ _ _) rfl rfl (Nat.le_of_ble_eq_true rfl) ?_
  refine V_pf p_Pm_init_62 rfl (Nat.le_of_ble_eq_true rfl) rfl rfl ?_
  refine V_aload_n d_Pm_init_65 rfl ?_
  refine V_nw n_Pm_init_66 ?_
  refine V_dup d_Pm_init_69 rfl ?_
  refine V_iload_n d_Pm_init_70 rfl ?_
  refine V_iconst (v := 0) d_Pm_init_71 (by decide) ?_
  refine V_ldc d_Pm_init_72 c_Pm_init_72 ?_
  refine V_cS s_Pm_init_74 (do_within s0 0 65536) rfl rfl (Nat.le_of_ble_eq_true rfl) ?_
  rw [es]
  refine V_cI s_Pm_init_77 (do_Ag_init _ _ _ _ _ _ _ _ _) rfl rfl (Nat.le_of_ble_eq_true rfl) ?_
  refine V_pf p_Pm_init_80 rfl (Nat.le_of_ble_eq_true rfl) rfl rfl ?_
  refine V_aload_n d_Pm_init_83 rfl ?_
  refine V_nw n_Pm_init_84 ?_
  refine V_dup d_Pm_init_87 rfl ?_
  refine V_cI s_Pm_init_88 (do_Ad_init _ _ _ _ _ _ _ _ _ _ _ _) rfl rfl (Nat.le_of_ble_eq_true rfl) ?_
  refine V_pf p_Pm_init_91 rfl (Nat.le_of_ble_eq_true rfl) rfl rfl ?_
  refine V_aload_n d_Pm_init_94 rfl ?_
  refine V_nw n_Pm_init_95 ?_
  refine V_dup d_Pm_init_98 rfl ?_
  refine V_cI s_Pm_init_99 (do_Le_init _ _ _ _ _ _ _ _ _ _ _ _ _ _ _ _ _) rfl rfl (Nat.le_of_ble_eq_true rfl) ?_
  refine V_pf p_Pm_init_102 rfl (Nat.le_of_ble_eq_true rfl) rfl rfl ?_
  refine V_aload_n d_Pm_init_105 rfl ?_
  refine V_nw n_Pm_init_106 ?_
  refine V_dup d_Pm_init_109 rfl ?_
  refine V_iload d_Pm_init_110 rfl ?_
  refine V_iload d_Pm_init_112 rfl ?_
  refine V_cI s_Pm_init_114 (do_Re_init _ _ _ _ _ _ _ _ _ _ _ _ _ _ _ _ _ _ _ _ _ hw hht) rfl rfl (Nat.le_of_ble_eq_true rfl) ?_
  refine V_pf p_Pm_init_117 rfl (Nat.le_of_ble_eq_true rfl) rfl rfl ?_
  exact V_vret d_Pm_init_120 rfl
end P29
end
