-- ===== PART A: goes FIRST, ahead of the names: the tables' words, and 'selects' of the private methods out of them =====
/-- a private method of a class that the tables say can be made, by its rows of tables_1 -/
def lw_okq (q : MethodName × Nat) : Prop := (q.1.cls ≠ "java/lang/invoke/MethodHandle" ∧ q.1.cls ≠ "java/lang/invoke/VarHandle") ∧ Cond.instantiable q.1.cls q.2 ∈ tables_1 ∧ Cond.privateMethod q.1 ∈ tables_1 ∧ Cond.instanceMethod q.1 ∈ tables_1
theorem lw_p0 : lw_okq (⟨"java/lang/Throwable", "fillInStackTrace", "(I)Ljava/lang/Throwable;"⟩, 6) := ⟨⟨by decide +kernel, by decide +kernel⟩, List.mem_of_getElem? (i := 332) (by decide +kernel), List.mem_of_getElem? (i := 330) (by decide +kernel), List.mem_of_getElem? (i := 331) (by decide +kernel)⟩
theorem lw_p1 : lw_okq (⟨"PhotoModels$Photos", "index", "(III)I"⟩, 3) := ⟨⟨by decide +kernel, by decide +kernel⟩, List.mem_of_getElem? (i := 37) (by decide +kernel), List.mem_of_getElem? (i := 385) (by decide +kernel), List.mem_of_getElem? (i := 386) (by decide +kernel)⟩
theorem lw_p2 : lw_okq (⟨"PhotoModels$Search", "leastFarFromFound", "()I"⟩, 7) := ⟨⟨by decide +kernel, by decide +kernel⟩, List.mem_of_getElem? (i := 54) (by decide +kernel), List.mem_of_getElem? (i := 411) (by decide +kernel), List.mem_of_getElem? (i := 412) (by decide +kernel)⟩
theorem lw_p3 : lw_okq (⟨"PhotoModels$Search", "isFarFromFound", "(II)Z"⟩, 7) := ⟨⟨by decide +kernel, by decide +kernel⟩, List.mem_of_getElem? (i := 54) (by decide +kernel), List.mem_of_getElem? (i := 415) (by decide +kernel), List.mem_of_getElem? (i := 416) (by decide +kernel)⟩
theorem lw_p4 : lw_okq (⟨"PhotoModels$Agreement", "gatherShifts", "(LPhotoModels$Places;II)V"⟩, 7) := ⟨⟨by decide +kernel, by decide +kernel⟩, List.mem_of_getElem? (i := 105) (by decide +kernel), List.mem_of_getElem? (i := 500) (by decide +kernel), List.mem_of_getElem? (i := 501) (by decide +kernel)⟩
theorem lw_p5 : lw_okq (⟨"PhotoModels$Agreement", "drawnNumber", "(I)I"⟩, 7) := ⟨⟨by decide +kernel, by decide +kernel⟩, List.mem_of_getElem? (i := 105) (by decide +kernel), List.mem_of_getElem? (i := 507) (by decide +kernel), List.mem_of_getElem? (i := 508) (by decide +kernel)⟩
theorem lw_p6 : lw_okq (⟨"PhotoModels$Agreement", "agreeingWith", "(II)I"⟩, 7) := ⟨⟨by decide +kernel, by decide +kernel⟩, List.mem_of_getElem? (i := 105) (by decide +kernel), List.mem_of_getElem? (i := 512) (by decide +kernel), List.mem_of_getElem? (i := 513) (by decide +kernel)⟩
theorem lw_p7 : lw_okq (⟨"PhotoModels$Adjustment", "begin", "(LPhotoModels$Places;)V"⟩, 4) := ⟨⟨by decide +kernel, by decide +kernel⟩, List.mem_of_getElem? (i := 134) (by decide +kernel), List.mem_of_getElem? (i := 557) (by decide +kernel), List.mem_of_getElem? (i := 558) (by decide +kernel)⟩
theorem lw_p8 : lw_okq (⟨"PhotoModels$Adjustment", "movePlaces", "(LPhotoModels$Places;)V"⟩, 4) := ⟨⟨by decide +kernel, by decide +kernel⟩, List.mem_of_getElem? (i := 134) (by decide +kernel), List.mem_of_getElem? (i := 564) (by decide +kernel), List.mem_of_getElem? (i := 565) (by decide +kernel)⟩
theorem lw_p9 : lw_okq (⟨"PhotoModels$Adjustment", "movePlace", "(LPhotoModels$Places;II)V"⟩, 4) := ⟨⟨by decide +kernel, by decide +kernel⟩, List.mem_of_getElem? (i := 134) (by decide +kernel), List.mem_of_getElem? (i := 568) (by decide +kernel), List.mem_of_getElem? (i := 569) (by decide +kernel)⟩
theorem lw_p10 : lw_okq (⟨"PhotoModels$Adjustment", "remember", "()V"⟩, 4) := ⟨⟨by decide +kernel, by decide +kernel⟩, List.mem_of_getElem? (i := 134) (by decide +kernel), List.mem_of_getElem? (i := 579) (by decide +kernel), List.mem_of_getElem? (i := 580) (by decide +kernel)⟩
theorem lw_p11 : lw_okq (⟨"PhotoModels$Adjustment", "doRound", "(LPhotoModels$Places;)V"⟩, 4) := ⟨⟨by decide +kernel, by decide +kernel⟩, List.mem_of_getElem? (i := 134) (by decide +kernel), List.mem_of_getElem? (i := 586) (by decide +kernel), List.mem_of_getElem? (i := 587) (by decide +kernel)⟩
theorem lw_p12 : lw_okq (⟨"PhotoModels$Adjustment", "movePhoto", "(LPhotoModels$Places;II)V"⟩, 4) := ⟨⟨by decide +kernel, by decide +kernel⟩, List.mem_of_getElem? (i := 134) (by decide +kernel), List.mem_of_getElem? (i := 590) (by decide +kernel), List.mem_of_getElem? (i := 591) (by decide +kernel)⟩
theorem lw_p13 : lw_okq (⟨"PhotoModels$Adjustment", "undo", "()V"⟩, 4) := ⟨⟨by decide +kernel, by decide +kernel⟩, List.mem_of_getElem? (i := 134) (by decide +kernel), List.mem_of_getElem? (i := 594) (by decide +kernel), List.mem_of_getElem? (i := 595) (by decide +kernel)⟩
theorem lw_p14 : lw_okq (⟨"PhotoModels$Relief", "fillCosts", "(LPhotoModels$Photos;IIII)V"⟩, 10) := ⟨⟨by decide +kernel, by decide +kernel⟩, List.mem_of_getElem? (i := 172) (by decide +kernel), List.mem_of_getElem? (i := 669) (by decide +kernel), List.mem_of_getElem? (i := 670) (by decide +kernel)⟩
theorem lw_p15 : lw_okq (⟨"PhotoModels$Relief", "bestAhead", "(III)I"⟩, 10) := ⟨⟨by decide +kernel, by decide +kernel⟩, List.mem_of_getElem? (i := 172) (by decide +kernel), List.mem_of_getElem? (i := 685) (by decide +kernel), List.mem_of_getElem? (i := 686) (by decide +kernel)⟩
def lw_privs_1 : List (MethodName × Nat) := [(⟨"java/lang/Throwable", "fillInStackTrace", "(I)Ljava/lang/Throwable;"⟩, 6), (⟨"PhotoModels$Photos", "index", "(III)I"⟩, 3), (⟨"PhotoModels$Search", "leastFarFromFound", "()I"⟩, 7), (⟨"PhotoModels$Search", "isFarFromFound", "(II)Z"⟩, 7), (⟨"PhotoModels$Agreement", "gatherShifts", "(LPhotoModels$Places;II)V"⟩, 7), (⟨"PhotoModels$Agreement", "drawnNumber", "(I)I"⟩, 7), (⟨"PhotoModels$Agreement", "agreeingWith", "(II)I"⟩, 7), (⟨"PhotoModels$Adjustment", "begin", "(LPhotoModels$Places;)V"⟩, 4), (⟨"PhotoModels$Adjustment", "movePlaces", "(LPhotoModels$Places;)V"⟩, 4), (⟨"PhotoModels$Adjustment", "movePlace", "(LPhotoModels$Places;II)V"⟩, 4), (⟨"PhotoModels$Adjustment", "remember", "()V"⟩, 4), (⟨"PhotoModels$Adjustment", "doRound", "(LPhotoModels$Places;)V"⟩, 4), (⟨"PhotoModels$Adjustment", "movePhoto", "(LPhotoModels$Places;II)V"⟩, 4), (⟨"PhotoModels$Adjustment", "undo", "()V"⟩, 4), (⟨"PhotoModels$Relief", "fillCosts", "(LPhotoModels$Photos;IIII)V"⟩, 10), (⟨"PhotoModels$Relief", "bestAhead", "(III)I"⟩, 10)]
theorem lw_r1 : ∀ q ∈ lw_privs_1, lw_okq q := List.forall_mem_cons.mpr ⟨lw_p0, List.forall_mem_cons.mpr ⟨lw_p1, List.forall_mem_cons.mpr ⟨lw_p2, List.forall_mem_cons.mpr ⟨lw_p3, List.forall_mem_cons.mpr ⟨lw_p4, List.forall_mem_cons.mpr ⟨lw_p5, List.forall_mem_cons.mpr ⟨lw_p6, List.forall_mem_cons.mpr ⟨lw_p7, List.forall_mem_cons.mpr ⟨lw_p8, List.forall_mem_cons.mpr ⟨lw_p9, List.forall_mem_cons.mpr ⟨lw_p10, List.forall_mem_cons.mpr ⟨lw_p11, List.forall_mem_cons.mpr ⟨lw_p12, List.forall_mem_cons.mpr ⟨lw_p13, List.forall_mem_cons.mpr ⟨lw_p14, List.forall_mem_cons.mpr ⟨lw_p15, fun _ h => absurd h List.not_mem_nil⟩⟩⟩⟩⟩⟩⟩⟩⟩⟩⟩⟩⟩⟩⟩⟩
theorem lw_p16 : lw_okq (⟨"PhotoModels$Relief", "costAhead", "(IIII)I"⟩, 10) := ⟨⟨by decide +kernel, by decide +kernel⟩, List.mem_of_getElem? (i := 172) (by decide +kernel), List.mem_of_getElem? (i := 689) (by decide +kernel), List.mem_of_getElem? (i := 690) (by decide +kernel)⟩
theorem lw_p17 : lw_okq (⟨"PhotoModels$Relief", "traceBack", "(LPhotoModels$Photos;IIII)I"⟩, 10) := ⟨⟨by decide +kernel, by decide +kernel⟩, List.mem_of_getElem? (i := 172) (by decide +kernel), List.mem_of_getElem? (i := 693) (by decide +kernel), List.mem_of_getElem? (i := 694) (by decide +kernel)⟩
theorem lw_p18 : lw_okq (⟨"PhotoModels$Relief", "openAbove", "(I)V"⟩, 10) := ⟨⟨by decide +kernel, by decide +kernel⟩, List.mem_of_getElem? (i := 172) (by decide +kernel), List.mem_of_getElem? (i := 723) (by decide +kernel), List.mem_of_getElem? (i := 724) (by decide +kernel)⟩
theorem lw_p19 : lw_okq (⟨"PhotoModels$Relief", "marginedIndex", "(II)I"⟩, 10) := ⟨⟨by decide +kernel, by decide +kernel⟩, List.mem_of_getElem? (i := 172) (by decide +kernel), List.mem_of_getElem? (i := 727) (by decide +kernel), List.mem_of_getElem? (i := 728) (by decide +kernel)⟩
theorem lw_p20 : lw_okq (⟨"PhotoModels$Relief", "closeAround", "(I)V"⟩, 10) := ⟨⟨by decide +kernel, by decide +kernel⟩, List.mem_of_getElem? (i := 172) (by decide +kernel), List.mem_of_getElem? (i := 731) (by decide +kernel), List.mem_of_getElem? (i := 732) (by decide +kernel)⟩
theorem lw_p21 : lw_okq (⟨"PhotoModels$Relief", "closeIfOpen", "(I)V"⟩, 10) := ⟨⟨by decide +kernel, by decide +kernel⟩, List.mem_of_getElem? (i := 172) (by decide +kernel), List.mem_of_getElem? (i := 735) (by decide +kernel), List.mem_of_getElem? (i := 736) (by decide +kernel)⟩
theorem lw_p22 : lw_okq (⟨"PhotoModelsModel", "isCell", "(II)Z"⟩, 28) := ⟨⟨by decide +kernel, by decide +kernel⟩, List.mem_of_getElem? (i := 759) (by decide +kernel), List.mem_of_getElem? (i := 865) (by decide +kernel), List.mem_of_getElem? (i := 866) (by decide +kernel)⟩
theorem lw_p23 : lw_okq (⟨"PhotoModelsModel", "goes", "(ZZZ)Z"⟩, 28) := ⟨⟨by decide +kernel, by decide +kernel⟩, List.mem_of_getElem? (i := 759) (by decide +kernel), List.mem_of_getElem? (i := 869) (by decide +kernel), List.mem_of_getElem? (i := 870) (by decide +kernel)⟩
theorem lw_p24 : lw_okq (⟨"PhotoModelsModel", "valueOf", "(III)I"⟩, 28) := ⟨⟨by decide +kernel, by decide +kernel⟩, List.mem_of_getElem? (i := 759) (by decide +kernel), List.mem_of_getElem? (i := 873) (by decide +kernel), List.mem_of_getElem? (i := 874) (by decide +kernel)⟩
theorem lw_p25 : lw_okq (⟨"PhotoModelsModel", "missOf", "(IIIIII)I"⟩, 28) := ⟨⟨by decide +kernel, by decide +kernel⟩, List.mem_of_getElem? (i := 759) (by decide +kernel), List.mem_of_getElem? (i := 881) (by decide +kernel), List.mem_of_getElem? (i := 882) (by decide +kernel)⟩
theorem lw_p26 : lw_okq (⟨"PhotoModelsModel", "isPlace", "(I)Z"⟩, 28) := ⟨⟨by decide +kernel, by decide +kernel⟩, List.mem_of_getElem? (i := 759) (by decide +kernel), List.mem_of_getElem? (i := 900) (by decide +kernel), List.mem_of_getElem? (i := 901) (by decide +kernel)⟩
theorem lw_p27 : lw_okq (⟨"PhotoModelsModel", "isBoth", "(III)Z"⟩, 28) := ⟨⟨by decide +kernel, by decide +kernel⟩, List.mem_of_getElem? (i := 759) (by decide +kernel), List.mem_of_getElem? (i := 908) (by decide +kernel), List.mem_of_getElem? (i := 909) (by decide +kernel)⟩
theorem lw_p28 : lw_okq (⟨"PhotoModelsModel", "isSeen", "(II)Z"⟩, 28) := ⟨⟨by decide +kernel, by decide +kernel⟩, List.mem_of_getElem? (i := 759) (by decide +kernel), List.mem_of_getElem? (i := 912) (by decide +kernel), List.mem_of_getElem? (i := 913) (by decide +kernel)⟩
theorem lw_p29 : lw_okq (⟨"PhotoModelsModel", "drawn", "(I)I"⟩, 28) := ⟨⟨by decide +kernel, by decide +kernel⟩, List.mem_of_getElem? (i := 759) (by decide +kernel), List.mem_of_getElem? (i := 916) (by decide +kernel), List.mem_of_getElem? (i := 917) (by decide +kernel)⟩
theorem lw_p30 : lw_okq (⟨"PhotoModelsModel", "agreeing", "(IIII)I"⟩, 28) := ⟨⟨by decide +kernel, by decide +kernel⟩, List.mem_of_getElem? (i := 759) (by decide +kernel), List.mem_of_getElem? (i := 921) (by decide +kernel), List.mem_of_getElem? (i := 922) (by decide +kernel)⟩
theorem lw_p31 : lw_okq (⟨"PhotoModelsModel", "between", "(IIII)I"⟩, 28) := ⟨⟨by decide +kernel, by decide +kernel⟩, List.mem_of_getElem? (i := 759) (by decide +kernel), List.mem_of_getElem? (i := 925) (by decide +kernel), List.mem_of_getElem? (i := 926) (by decide +kernel)⟩
def lw_privs_2 : List (MethodName × Nat) := [(⟨"PhotoModels$Relief", "costAhead", "(IIII)I"⟩, 10), (⟨"PhotoModels$Relief", "traceBack", "(LPhotoModels$Photos;IIII)I"⟩, 10), (⟨"PhotoModels$Relief", "openAbove", "(I)V"⟩, 10), (⟨"PhotoModels$Relief", "marginedIndex", "(II)I"⟩, 10), (⟨"PhotoModels$Relief", "closeAround", "(I)V"⟩, 10), (⟨"PhotoModels$Relief", "closeIfOpen", "(I)V"⟩, 10), (⟨"PhotoModelsModel", "isCell", "(II)Z"⟩, 28), (⟨"PhotoModelsModel", "goes", "(ZZZ)Z"⟩, 28), (⟨"PhotoModelsModel", "valueOf", "(III)I"⟩, 28), (⟨"PhotoModelsModel", "missOf", "(IIIIII)I"⟩, 28), (⟨"PhotoModelsModel", "isPlace", "(I)Z"⟩, 28), (⟨"PhotoModelsModel", "isBoth", "(III)Z"⟩, 28), (⟨"PhotoModelsModel", "isSeen", "(II)Z"⟩, 28), (⟨"PhotoModelsModel", "drawn", "(I)I"⟩, 28), (⟨"PhotoModelsModel", "agreeing", "(IIII)I"⟩, 28), (⟨"PhotoModelsModel", "between", "(IIII)I"⟩, 28)]
theorem lw_r2 : ∀ q ∈ lw_privs_2, lw_okq q := List.forall_mem_cons.mpr ⟨lw_p16, List.forall_mem_cons.mpr ⟨lw_p17, List.forall_mem_cons.mpr ⟨lw_p18, List.forall_mem_cons.mpr ⟨lw_p19, List.forall_mem_cons.mpr ⟨lw_p20, List.forall_mem_cons.mpr ⟨lw_p21, List.forall_mem_cons.mpr ⟨lw_p22, List.forall_mem_cons.mpr ⟨lw_p23, List.forall_mem_cons.mpr ⟨lw_p24, List.forall_mem_cons.mpr ⟨lw_p25, List.forall_mem_cons.mpr ⟨lw_p26, List.forall_mem_cons.mpr ⟨lw_p27, List.forall_mem_cons.mpr ⟨lw_p28, List.forall_mem_cons.mpr ⟨lw_p29, List.forall_mem_cons.mpr ⟨lw_p30, List.forall_mem_cons.mpr ⟨lw_p31, fun _ h => absurd h List.not_mem_nil⟩⟩⟩⟩⟩⟩⟩⟩⟩⟩⟩⟩⟩⟩⟩⟩
theorem lw_p32 : lw_okq (⟨"PhotoModelsModel", "where", "(III)I"⟩, 28) := ⟨⟨by decide +kernel, by decide +kernel⟩, List.mem_of_getElem? (i := 759) (by decide +kernel), List.mem_of_getElem? (i := 929) (by decide +kernel), List.mem_of_getElem? (i := 930) (by decide +kernel)⟩
theorem lw_p33 : lw_okq (⟨"PhotoModelsModel", "begin", "()V"⟩, 28) := ⟨⟨by decide +kernel, by decide +kernel⟩, List.mem_of_getElem? (i := 759) (by decide +kernel), List.mem_of_getElem? (i := 945) (by decide +kernel), List.mem_of_getElem? (i := 946) (by decide +kernel)⟩
theorem lw_p34 : lw_okq (⟨"PhotoModelsModel", "put", "(II)V"⟩, 28) := ⟨⟨by decide +kernel, by decide +kernel⟩, List.mem_of_getElem? (i := 759) (by decide +kernel), List.mem_of_getElem? (i := 949) (by decide +kernel), List.mem_of_getElem? (i := 950) (by decide +kernel)⟩
theorem lw_p35 : lw_okq (⟨"PhotoModelsModel", "all", "()J"⟩, 28) := ⟨⟨by decide +kernel, by decide +kernel⟩, List.mem_of_getElem? (i := 759) (by decide +kernel), List.mem_of_getElem? (i := 956) (by decide +kernel), List.mem_of_getElem? (i := 957) (by decide +kernel)⟩
theorem lw_p36 : lw_okq (⟨"PhotoModelsModel", "missed", "(I)J"⟩, 28) := ⟨⟨by decide +kernel, by decide +kernel⟩, List.mem_of_getElem? (i := 759) (by decide +kernel), List.mem_of_getElem? (i := 960) (by decide +kernel), List.mem_of_getElem? (i := 961) (by decide +kernel)⟩
theorem lw_p37 : lw_okq (⟨"PhotoModelsModel", "round", "()V"⟩, 28) := ⟨⟨by decide +kernel, by decide +kernel⟩, List.mem_of_getElem? (i := 759) (by decide +kernel), List.mem_of_getElem? (i := 964) (by decide +kernel), List.mem_of_getElem? (i := 965) (by decide +kernel)⟩
theorem lw_p38 : lw_okq (⟨"PhotoModelsModel", "move", "(II)V"⟩, 28) := ⟨⟨by decide +kernel, by decide +kernel⟩, List.mem_of_getElem? (i := 759) (by decide +kernel), List.mem_of_getElem? (i := 968) (by decide +kernel), List.mem_of_getElem? (i := 969) (by decide +kernel)⟩
theorem lw_p39 : lw_okq (⟨"PhotoModelsModel", "costRow", "(IIII)V"⟩, 28) := ⟨⟨by decide +kernel, by decide +kernel⟩, List.mem_of_getElem? (i := 759) (by decide +kernel), List.mem_of_getElem? (i := 1008) (by decide +kernel), List.mem_of_getElem? (i := 1009) (by decide +kernel)⟩
theorem lw_p40 : lw_okq (⟨"PhotoModelsModel", "gap", "(IIIII)I"⟩, 28) := ⟨⟨by decide +kernel, by decide +kernel⟩, List.mem_of_getElem? (i := 759) (by decide +kernel), List.mem_of_getElem? (i := 1012) (by decide +kernel), List.mem_of_getElem? (i := 1013) (by decide +kernel)⟩
theorem lw_p41 : lw_okq (⟨"PhotoModelsModel", "trace", "(IIII)I"⟩, 28) := ⟨⟨by decide +kernel, by decide +kernel⟩, List.mem_of_getElem? (i := 759) (by decide +kernel), List.mem_of_getElem? (i := 1016) (by decide +kernel), List.mem_of_getElem? (i := 1017) (by decide +kernel)⟩
theorem lw_p42 : lw_okq (⟨"PhotoModelsModel", "close", "(I)V"⟩, 28) := ⟨⟨by decide +kernel, by decide +kernel⟩, List.mem_of_getElem? (i := 759) (by decide +kernel), List.mem_of_getElem? (i := 1028) (by decide +kernel), List.mem_of_getElem? (i := 1029) (by decide +kernel)⟩
theorem lw_p43 : lw_okq (⟨"PhotoModelsModel", "isOpen", "(II)Z"⟩, 28) := ⟨⟨by decide +kernel, by decide +kernel⟩, List.mem_of_getElem? (i := 759) (by decide +kernel), List.mem_of_getElem? (i := 1032) (by decide +kernel), List.mem_of_getElem? (i := 1033) (by decide +kernel)⟩
theorem lw_p44 : lw_okq (⟨"PhotoModelsModel", "mark", "(II)V"⟩, 28) := ⟨⟨by decide +kernel, by decide +kernel⟩, List.mem_of_getElem? (i := 759) (by decide +kernel), List.mem_of_getElem? (i := 1036) (by decide +kernel), List.mem_of_getElem? (i := 1037) (by decide +kernel)⟩
def lw_privs_3 : List (MethodName × Nat) := [(⟨"PhotoModelsModel", "where", "(III)I"⟩, 28), (⟨"PhotoModelsModel", "begin", "()V"⟩, 28), (⟨"PhotoModelsModel", "put", "(II)V"⟩, 28), (⟨"PhotoModelsModel", "all", "()J"⟩, 28), (⟨"PhotoModelsModel", "missed", "(I)J"⟩, 28), (⟨"PhotoModelsModel", "round", "()V"⟩, 28), (⟨"PhotoModelsModel", "move", "(II)V"⟩, 28), (⟨"PhotoModelsModel", "costRow", "(IIII)V"⟩, 28), (⟨"PhotoModelsModel", "gap", "(IIIII)I"⟩, 28), (⟨"PhotoModelsModel", "trace", "(IIII)I"⟩, 28), (⟨"PhotoModelsModel", "close", "(I)V"⟩, 28), (⟨"PhotoModelsModel", "isOpen", "(II)Z"⟩, 28), (⟨"PhotoModelsModel", "mark", "(II)V"⟩, 28)]
theorem lw_r3 : ∀ q ∈ lw_privs_3, lw_okq q := List.forall_mem_cons.mpr ⟨lw_p32, List.forall_mem_cons.mpr ⟨lw_p33, List.forall_mem_cons.mpr ⟨lw_p34, List.forall_mem_cons.mpr ⟨lw_p35, List.forall_mem_cons.mpr ⟨lw_p36, List.forall_mem_cons.mpr ⟨lw_p37, List.forall_mem_cons.mpr ⟨lw_p38, List.forall_mem_cons.mpr ⟨lw_p39, List.forall_mem_cons.mpr ⟨lw_p40, List.forall_mem_cons.mpr ⟨lw_p41, List.forall_mem_cons.mpr ⟨lw_p42, List.forall_mem_cons.mpr ⟨lw_p43, List.forall_mem_cons.mpr ⟨lw_p44, fun _ h => absurd h List.not_mem_nil⟩⟩⟩⟩⟩⟩⟩⟩⟩⟩⟩⟩⟩
def lw_privs : List (MethodName × Nat) := lw_privs_1 ++ (lw_privs_2 ++ (lw_privs_3))
def lw_tbl : List Cond := k2_sels lw_privs ++ tables_1
theorem lw_privs_ok : ∀ q ∈ lw_privs, lw_okq q := by
  show ∀ q ∈ lw_privs_1 ++ (lw_privs_2 ++ (lw_privs_3)), lw_okq q
  exact List.forall_mem_append.mpr ⟨lw_r1, List.forall_mem_append.mpr ⟨lw_r2, lw_r3⟩⟩
/-! names: out of the Statement, by program (gen01.py) -/
def okW (w : Cond) : Bool := match w with
  | .methodLinkNest .. => true
  | .stringRef .. => true
  | .declares _ => true
  | .castable .. => true
  | w => goodWord w
theorem okW_at {w : Cond} (ho : okW w = true) {s U : State} (hW : s.WarmedH U.vm) {A A9 : Array Value} (h : w.before A s = true) : w.before A9 U = true := by
  unfold okW at ho
  split at ho
  · exact va_Nw.use rfl (va_Nw.warmM hW (va_Nw.of rfl h))
  · have h1 := Cond.stringRef_warmed hW h
    first
      | exact va_tabs rfl rfl h1
      | (simp only [Cond.before, Cond.holds, Cond.value, State.names, State.poolOf?, State.resolvedAt?] at h1 ⊢; exact h1)
  · have h1 := Cond.before_shiftedFace (State.Shifted.of_warmed hW) _ rfl h
    first
      | exact h1
      | exact va_tabs rfl rfl h1
  · have h1 := Cond.before_shiftedFace (State.Shifted.of_warmed hW) _ rfl h
    first
      | exact h1
      | exact va_tabs rfl rfl h1
  · exact word_at hW (good_of_word ho) h
def tw : List Cond := lw_tbl.filter okW
theorem tw_good (w : Cond) (h : w ∈ tw) : okW w = true := (List.mem_filter.mp h).2
theorem tw_sub (w : Cond) (h : w ∈ tw) : w ∈ lw_tbl := (List.mem_filter.mp h).1
theorem twi {w : Cond} (h : (decide (w ∈ lw_tbl) && okW w) = true) : w ∈ tw := by
  simp only [Bool.and_eq_true, decide_eq_true_eq] at h
  exact List.mem_filter.mpr h
theorem tx1 {w : Cond} (i : Nat) (h : tables_1_1[i]? = some w) (hg : okW w = true) : w ∈ tw := List.mem_filter.mpr ⟨List.mem_append_right _ (List.mem_append_left _ (List.mem_of_getElem? h)), hg⟩
theorem tx2 {w : Cond} (i : Nat) (h : tables_1_2[i]? = some w) (hg : okW w = true) : w ∈ tw := List.mem_filter.mpr ⟨List.mem_append_right _ (List.mem_append_right _ (List.mem_append_left _ (List.mem_of_getElem? h))), hg⟩
theorem tx3 {w : Cond} (i : Nat) (h : tables_1_3[i]? = some w) (hg : okW w = true) : w ∈ tw := List.mem_filter.mpr ⟨List.mem_append_right _ (List.mem_append_right _ (List.mem_append_right _ (List.mem_append_left _ (List.mem_of_getElem? h)))), hg⟩
theorem tx4 {w : Cond} (i : Nat) (h : tables_1_4[i]? = some w) (hg : okW w = true) : w ∈ tw := List.mem_filter.mpr ⟨List.mem_append_right _ (List.mem_append_right _ (List.mem_append_right _ (List.mem_append_right _ (List.mem_append_left _ (List.mem_of_getElem? h))))), hg⟩
theorem tx5 {w : Cond} (i : Nat) (h : tables_1_5[i]? = some w) (hg : okW w = true) : w ∈ tw := List.mem_filter.mpr ⟨List.mem_append_right _ (List.mem_append_right _ (List.mem_append_right _ (List.mem_append_right _ (List.mem_append_right _ (List.mem_of_getElem? h))))), hg⟩
theorem twp {w : Cond} (i : Nat) (h : (k2_sels lw_privs)[i]? = some w) (hg : okW w = true) : w ∈ tw := List.mem_filter.mpr ⟨List.mem_append_left _ (List.mem_of_getElem? h), hg⟩
theorem twis {ws : List Cond} (h : ws.all (fun w => decide (w ∈ lw_tbl) && okW w) = true) : ∀ w ∈ ws, w ∈ tw := fun w hw => twi (List.all_eq_true.mp h w hw)
def R_Ad : String := "PhotoModels$Adjustment"
def F_Ad : u_T := fun k => match k with
  | 0 => ("PhotoModels$Adjustment", "positions", "[I", true)
  | 1 => ("PhotoModels$Adjustment", "offsets", "[I", true)
  | 2 => ("PhotoModels$Adjustment", "positionsBefore", "[I", true)
  | _ => ("PhotoModels$Adjustment", "offsetsBefore", "[I", true)
def t_Ad : Nat → FieldType := fun k => match k with
  | 0 => .array .int
  | 1 => .array .int
  | 2 => .array .int
  | _ => .array .int
theorem n_Ad : ∀ a, a < 4 → ∀ b, b < 4 → a ≠ b → (F_Ad a).2.1 ≠ (F_Ad b).2.1 := by decide +kernel
theorem t_Ad_ok : ∀ k, k < 4 → parseFieldDescriptor (F_Ad k).2.2.1 = some (t_Ad k) := by decide +kernel
theorem i_Ad : ∀ w ∈ u_ws R_Ad F_Ad 4, w ∈ tw := twis (by decide +kernel)
def R_Ag : String := "PhotoModels$Agreement"
def F_Ag : u_T := fun k => match k with
  | 0 => ("PhotoModels$Agreement", "seed", "I", true)
  | 1 => ("PhotoModels$Agreement", "shiftX", "[I", true)
  | 2 => ("PhotoModels$Agreement", "shiftY", "[I", true)
  | 3 => ("PhotoModels$Agreement", "number", "I", false)
  | 4 => ("PhotoModels$Agreement", "reached", "Z", false)
  | 5 => ("PhotoModels$Agreement", "bestX", "I", false)
  | _ => ("PhotoModels$Agreement", "bestY", "I", false)
def t_Ag : Nat → FieldType := fun k => match k with
  | 0 => .int
  | 1 => .array .int
  | 2 => .array .int
  | 3 => .int
  | 4 => .boolean
  | 5 => .int
  | _ => .int
theorem n_Ag : ∀ a, a < 7 → ∀ b, b < 7 → a ≠ b → (F_Ag a).2.1 ≠ (F_Ag b).2.1 := by decide +kernel
theorem t_Ag_ok : ∀ k, k < 7 → parseFieldDescriptor (F_Ag k).2.2.1 = some (t_Ag k) := by decide +kernel
theorem i_Ag : ∀ w ∈ u_ws R_Ag F_Ag 7, w ∈ tw := twis (by decide +kernel)
def R_Le : String := "PhotoModels$Lengths"
def F_Le : u_T := fun k => match k with
  | 0 => ("PhotoModels$Lengths", "from", "[I", true)
  | 1 => ("PhotoModels$Lengths", "to", "[I", true)
  | 2 => ("PhotoModels$Lengths", "length", "[I", true)
  | _ => ("PhotoModels$Lengths", "number", "I", false)
def t_Le : Nat → FieldType := fun k => match k with
  | 0 => .array .int
  | 1 => .array .int
  | 2 => .array .int
  | _ => .int
theorem n_Le : ∀ a, a < 4 → ∀ b, b < 4 → a ≠ b → (F_Le a).2.1 ≠ (F_Le b).2.1 := by decide +kernel
theorem t_Le_ok : ∀ k, k < 4 → parseFieldDescriptor (F_Le k).2.2.1 = some (t_Le k) := by decide +kernel
theorem i_Le : ∀ w ∈ u_ws R_Le F_Le 4, w ∈ tw := twis (by decide +kernel)
def R_Ph : String := "PhotoModels$Photos"
def F_Ph : u_T := fun k => match k with
  | 0 => ("PhotoModels$Photos", "width", "I", true)
  | 1 => ("PhotoModels$Photos", "height", "I", true)
  | _ => ("PhotoModels$Photos", "values", "[I", true)
def t_Ph : Nat → FieldType := fun k => match k with
  | 0 => .int
  | 1 => .int
  | _ => .array .int
theorem n_Ph : ∀ a, a < 3 → ∀ b, b < 3 → a ≠ b → (F_Ph a).2.1 ≠ (F_Ph b).2.1 := by decide +kernel
theorem t_Ph_ok : ∀ k, k < 3 → parseFieldDescriptor (F_Ph k).2.2.1 = some (t_Ph k) := by decide +kernel
theorem i_Ph : ∀ w ∈ u_ws R_Ph F_Ph 3, w ∈ tw := twis (by decide +kernel)
def R_Pl : String := "PhotoModels$Places"
def F_Pl : u_T := fun k => match k with
  | 0 => ("PhotoModels$Places", "aside", "[Z", true)
  | 1 => ("PhotoModels$Places", "noted", "[Z", true)
  | 2 => ("PhotoModels$Places", "where", "[I", true)
  | 3 => ("PhotoModels$Places", "number", "I", false)
  | _ => ("PhotoModels$Places", "spares", "I", false)
def t_Pl : Nat → FieldType := fun k => match k with
  | 0 => .array .boolean
  | 1 => .array .boolean
  | 2 => .array .int
  | 3 => .int
  | _ => .int
theorem n_Pl : ∀ a, a < 5 → ∀ b, b < 5 → a ≠ b → (F_Pl a).2.1 ≠ (F_Pl b).2.1 := by decide +kernel
theorem t_Pl_ok : ∀ k, k < 5 → parseFieldDescriptor (F_Pl k).2.2.1 = some (t_Pl k) := by decide +kernel
theorem i_Pl : ∀ w ∈ u_ws R_Pl F_Pl 5, w ∈ tw := twis (by decide +kernel)
def R_Re : String := "PhotoModels$Relief"
def F_Re : u_T := fun k => match k with
  | 0 => ("PhotoModels$Relief", "width", "I", true)
  | 1 => ("PhotoModels$Relief", "height", "I", true)
  | 2 => ("PhotoModels$Relief", "depths", "[I", true)
  | 3 => ("PhotoModels$Relief", "differences", "[I", true)
  | 4 => ("PhotoModels$Relief", "costs", "[I", true)
  | 5 => ("PhotoModels$Relief", "margined", "I", true)
  | 6 => ("PhotoModels$Relief", "open", "[Z", true)
  | 7 => ("PhotoModels$Relief", "queue", "[I", true)
  | 8 => ("PhotoModels$Relief", "queued", "I", false)
  | _ => ("PhotoModels$Relief", "raised", "Z", false)
def t_Re : Nat → FieldType := fun k => match k with
  | 0 => .int
  | 1 => .int
  | 2 => .array .int
  | 3 => .array .int
  | 4 => .array .int
  | 5 => .int
  | 6 => .array .boolean
  | 7 => .array .int
  | 8 => .int
  | _ => .boolean
theorem n_Re : ∀ a, a < 10 → ∀ b, b < 10 → a ≠ b → (F_Re a).2.1 ≠ (F_Re b).2.1 := by decide +kernel
theorem t_Re_ok : ∀ k, k < 10 → parseFieldDescriptor (F_Re k).2.2.1 = some (t_Re k) := by decide +kernel
theorem i_Re : ∀ w ∈ u_ws R_Re F_Re 10, w ∈ tw := twis (by decide +kernel)
def R_Se : String := "PhotoModels$Search"
def F_Se : u_T := fun k => match k with
  | 0 => ("PhotoModels$Search", "width", "I", true)
  | 1 => ("PhotoModels$Search", "height", "I", true)
  | 2 => ("PhotoModels$Search", "misses", "[I", true)
  | 3 => ("PhotoModels$Search", "done", "Z", false)
  | 4 => ("PhotoModels$Search", "foundX", "I", false)
  | 5 => ("PhotoModels$Search", "foundY", "I", false)
  | _ => ("PhotoModels$Search", "leastElsewhere", "I", false)
def t_Se : Nat → FieldType := fun k => match k with
  | 0 => .int
  | 1 => .int
  | 2 => .array .int
  | 3 => .boolean
  | 4 => .int
  | 5 => .int
  | _ => .int
theorem n_Se : ∀ a, a < 7 → ∀ b, b < 7 → a ≠ b → (F_Se a).2.1 ≠ (F_Se b).2.1 := by decide +kernel
theorem t_Se_ok : ∀ k, k < 7 → parseFieldDescriptor (F_Se k).2.2.1 = some (t_Se k) := by decide +kernel
theorem i_Se : ∀ w ∈ u_ws R_Se F_Se 7, w ∈ tw := twis (by decide +kernel)
def R_Pm : String := "PhotoModels"
def F_Pm : u_T := fun k => match k with
  | 0 => ("PhotoModels", "photos", "LPhotoModels$Photos;", true)
  | 1 => ("PhotoModels", "search", "LPhotoModels$Search;", true)
  | 2 => ("PhotoModels", "places", "LPhotoModels$Places;", true)
  | 3 => ("PhotoModels", "agreement", "LPhotoModels$Agreement;", true)
  | 4 => ("PhotoModels", "adjustment", "LPhotoModels$Adjustment;", true)
  | 5 => ("PhotoModels", "lengths", "LPhotoModels$Lengths;", true)
  | _ => ("PhotoModels", "relief", "LPhotoModels$Relief;", true)
def t_Pm : Nat → FieldType := fun k => match k with
  | 0 => .object "PhotoModels$Photos"
  | 1 => .object "PhotoModels$Search"
  | 2 => .object "PhotoModels$Places"
  | 3 => .object "PhotoModels$Agreement"
  | 4 => .object "PhotoModels$Adjustment"
  | 5 => .object "PhotoModels$Lengths"
  | _ => .object "PhotoModels$Relief"
theorem n_Pm : ∀ a, a < 7 → ∀ b, b < 7 → a ≠ b → (F_Pm a).2.1 ≠ (F_Pm b).2.1 := by decide +kernel
theorem t_Pm_ok : ∀ k, k < 7 → parseFieldDescriptor (F_Pm k).2.2.1 = some (t_Pm k) := by decide +kernel
theorem i_Pm : ∀ w ∈ u_ws R_Pm F_Pm 7, w ∈ tw := twis (by decide +kernel)
def R_Mo : String := "PhotoModelsModel"
def F_Mo : u_T := fun k => match k with
  | 0 => ("PhotoModelsModel", "thrown", "I", false)
  | 1 => ("PhotoModelsModel", "width", "I", true)
  | 2 => ("PhotoModelsModel", "height", "I", true)
  | 3 => ("PhotoModelsModel", "seed", "I", true)
  | 4 => ("PhotoModelsModel", "values", "[I", true)
  | 5 => ("PhotoModelsModel", "matched", "Z", false)
  | 6 => ("PhotoModelsModel", "match", "[I", true)
  | 7 => ("PhotoModelsModel", "places", "I", false)
  | 8 => ("PhotoModelsModel", "seenX", "[I", true)
  | 9 => ("PhotoModelsModel", "seenY", "[I", true)
  | 10 => ("PhotoModelsModel", "spares", "[Z", true)
  | 11 => ("PhotoModelsModel", "positions", "[I", true)
  | 12 => ("PhotoModelsModel", "offsets", "[I", true)
  | 13 => ("PhotoModelsModel", "keptPositions", "[I", true)
  | 14 => ("PhotoModelsModel", "keptOffsets", "[I", true)
  | 15 => ("PhotoModelsModel", "shifted", "Z", false)
  | 16 => ("PhotoModelsModel", "shiftX", "I", false)
  | 17 => ("PhotoModelsModel", "shiftY", "I", false)
  | 18 => ("PhotoModelsModel", "lengths", "I", false)
  | 19 => ("PhotoModelsModel", "ones", "[I", true)
  | 20 => ("PhotoModelsModel", "others", "[I", true)
  | 21 => ("PhotoModelsModel", "known", "[I", true)
  | 22 => ("PhotoModelsModel", "high", "Z", false)
  | 23 => ("PhotoModelsModel", "depths", "[I", true)
  | 24 => ("PhotoModelsModel", "differs", "[I", true)
  | 25 => ("PhotoModelsModel", "costs", "[I", true)
  | 26 => ("PhotoModelsModel", "open", "[Z", true)
  | _ => ("PhotoModelsModel", "marks", "[Z", true)
def t_Mo : Nat → FieldType := fun k => match k with
  | 0 => .int
  | 1 => .int
  | 2 => .int
  | 3 => .int
  | 4 => .array .int
  | 5 => .boolean
  | 6 => .array .int
  | 7 => .int
  | 8 => .array .int
  | 9 => .array .int
  | 10 => .array .boolean
  | 11 => .array .int
  | 12 => .array .int
  | 13 => .array .int
  | 14 => .array .int
  | 15 => .boolean
  | 16 => .int
  | 17 => .int
  | 18 => .int
  | 19 => .array .int
  | 20 => .array .int
  | 21 => .array .int
  | 22 => .boolean
  | 23 => .array .int
  | 24 => .array .int
  | 25 => .array .int
  | 26 => .array .boolean
  | _ => .array .boolean
theorem n_Mo : ∀ a, a < 28 → ∀ b, b < 28 → a ≠ b → (F_Mo a).2.1 ≠ (F_Mo b).2.1 := by decide +kernel
theorem t_Mo_ok : ∀ k, k < 28 → parseFieldDescriptor (F_Mo k).2.2.1 = some (t_Mo k) := by decide +kernel
theorem i_Mo : ∀ w ∈ u_ws R_Mo F_Mo 28, w ∈ tw := twis (by decide +kernel)
def R_La : String := "PhotoModelsLaw"
def F_exc : u_T := fun _ => ("", "", "", false)
abbrev cls : List vw_C := [(R_Ad, F_Ad, 4), (R_Ag, F_Ag, 7), (R_Le, F_Le, 4), (R_Ph, F_Ph, 3), (R_Pl, F_Pl, 5), (R_Re, F_Re, 10), (R_Se, F_Se, 7), (R_Pm, F_Pm, 7), (R_Mo, F_Mo, 28), ("java/lang/IndexOutOfBoundsException", F_exc, 0), ("java/lang/IllegalArgumentException", F_exc, 0), ("java/lang/IllegalStateException", F_exc, 0)]
def csz : Nat → Nat
  | 0 => 4
  | 1 => 7
  | 2 => 4
  | 3 => 3
  | 4 => 5
  | 5 => 10
  | 6 => 7
  | 7 => 7
  | 8 => 28
  | 9 => 6
  | 10 => 6
  | 11 => 6
  | _ => 0
