section
/-- a private method of a class that the tables say can be made, by its rows of tables_1 -/
def lw_okq (q : MethodName × Nat) : Prop := (q.1.cls ≠ "java/lang/invoke/MethodHandle" ∧ q.1.cls ≠ "java/lang/invoke/VarHandle") ∧ Cond.instantiable q.1.cls q.2 ∈ tables_1 ∧ Cond.privateMethod q.1 ∈ tables_1 ∧ Cond.instanceMethod q.1 ∈ tables_1
theorem lw_p0 : lw_okq (⟨"IceSlab", "lookAtCells", "(IIII)I"⟩, 7) := ⟨⟨by decide +kernel, by decide +kernel⟩, List.mem_of_getElem? (i := 14) (by decide +kernel), List.mem_of_getElem? (i := 281) (by decide +kernel), List.mem_of_getElem? (i := 282) (by decide +kernel)⟩
theorem lw_p1 : lw_okq (⟨"IceSlab", "faultOf", "(I)I"⟩, 7) := ⟨⟨by decide +kernel, by decide +kernel⟩, List.mem_of_getElem? (i := 14) (by decide +kernel), List.mem_of_getElem? (i := 297) (by decide +kernel), List.mem_of_getElem? (i := 298) (by decide +kernel)⟩
theorem lw_p2 : lw_okq (⟨"IceSlab$Day", "liesDearer", "(II)Z"⟩, 13) := ⟨⟨by decide +kernel, by decide +kernel⟩, List.mem_of_getElem? (i := 22) (by decide +kernel), List.mem_of_getElem? (i := 403) (by decide +kernel), List.mem_of_getElem? (i := 404) (by decide +kernel)⟩
theorem lw_p3 : lw_okq (⟨"IceSlab$Day", "sellAllToCook", "()V"⟩, 13) := ⟨⟨by decide +kernel, by decide +kernel⟩, List.mem_of_getElem? (i := 22) (by decide +kernel), List.mem_of_getElem? (i := 416) (by decide +kernel), List.mem_of_getElem? (i := 417) (by decide +kernel)⟩
theorem lw_p4 : lw_okq (⟨"IceSlab$Day", "comes", "(II)Z"⟩, 13) := ⟨⟨by decide +kernel, by decide +kernel⟩, List.mem_of_getElem? (i := 22) (by decide +kernel), List.mem_of_getElem? (i := 420) (by decide +kernel), List.mem_of_getElem? (i := 421) (by decide +kernel)⟩
theorem lw_p5 : lw_okq (⟨"IceSlab$Day", "choiceOf", "(II)I"⟩, 13) := ⟨⟨by decide +kernel, by decide +kernel⟩, List.mem_of_getElem? (i := 22) (by decide +kernel), List.mem_of_getElem? (i := 424) (by decide +kernel), List.mem_of_getElem? (i := 425) (by decide +kernel)⟩
theorem lw_p6 : lw_okq (⟨"IceSlab$Day", "gainOf", "(III)I"⟩, 13) := ⟨⟨by decide +kernel, by decide +kernel⟩, List.mem_of_getElem? (i := 22) (by decide +kernel), List.mem_of_getElem? (i := 432) (by decide +kernel), List.mem_of_getElem? (i := 433) (by decide +kernel)⟩
theorem lw_p7 : lw_okq (⟨"IceSlab$Day", "sellOne", "(III)V"⟩, 13) := ⟨⟨by decide +kernel, by decide +kernel⟩, List.mem_of_getElem? (i := 22) (by decide +kernel), List.mem_of_getElem? (i := 437) (by decide +kernel), List.mem_of_getElem? (i := 438) (by decide +kernel)⟩
theorem lw_p8 : lw_okq (⟨"IceSlab$Search", "weighRow", "()V"⟩, 7) := ⟨⟨by decide +kernel, by decide +kernel⟩, List.mem_of_getElem? (i := 170) (by decide +kernel), List.mem_of_getElem? (i := 514) (by decide +kernel), List.mem_of_getElem? (i := 515) (by decide +kernel)⟩
theorem lw_p9 : lw_okq (⟨"IceSlab$Search", "isRaisedFirst", "()Z"⟩, 7) := ⟨⟨by decide +kernel, by decide +kernel⟩, List.mem_of_getElem? (i := 170) (by decide +kernel), List.mem_of_getElem? (i := 518) (by decide +kernel), List.mem_of_getElem? (i := 519) (by decide +kernel)⟩
theorem lw_p10 : lw_okq (⟨"IceSlab$Search", "goToNextRow", "()Z"⟩, 7) := ⟨⟨by decide +kernel, by decide +kernel⟩, List.mem_of_getElem? (i := 170) (by decide +kernel), List.mem_of_getElem? (i := 523) (by decide +kernel), List.mem_of_getElem? (i := 524) (by decide +kernel)⟩
theorem lw_p11 : lw_okq (⟨"IceSlab", "tellAsWaiting", "(I)I"⟩, 7) := ⟨⟨by decide +kernel, by decide +kernel⟩, List.mem_of_getElem? (i := 14) (by decide +kernel), List.mem_of_getElem? (i := 665) (by decide +kernel), List.mem_of_getElem? (i := 666) (by decide +kernel)⟩
theorem lw_p12 : lw_okq (⟨"IceSlab", "leaveTrace", "(I)V"⟩, 7) := ⟨⟨by decide +kernel, by decide +kernel⟩, List.mem_of_getElem? (i := 14) (by decide +kernel), List.mem_of_getElem? (i := 669) (by decide +kernel), List.mem_of_getElem? (i := 670) (by decide +kernel)⟩
theorem lw_p13 : lw_okq (⟨"IceSlab", "tellAsChoosing", "(I)I"⟩, 7) := ⟨⟨by decide +kernel, by decide +kernel⟩, List.mem_of_getElem? (i := 14) (by decide +kernel), List.mem_of_getElem? (i := 673) (by decide +kernel), List.mem_of_getElem? (i := 674) (by decide +kernel)⟩
theorem lw_p14 : lw_okq (⟨"IceSlab", "tellAsBuyer", "(I)I"⟩, 7) := ⟨⟨by decide +kernel, by decide +kernel⟩, List.mem_of_getElem? (i := 14) (by decide +kernel), List.mem_of_getElem? (i := 677) (by decide +kernel), List.mem_of_getElem? (i := 678) (by decide +kernel)⟩
theorem lw_p15 : lw_okq (⟨"IceSlabModel", "barred", "(IIIJ)I"⟩, 39) := ⟨⟨by decide +kernel, by decide +kernel⟩, List.mem_of_getElem? (i := 701) (by decide +kernel), List.mem_of_getElem? (i := 829) (by decide +kernel), List.mem_of_getElem? (i := 830) (by decide +kernel)⟩
def lw_privs_1 : List (MethodName × Nat) := [(⟨"IceSlab", "lookAtCells", "(IIII)I"⟩, 7), (⟨"IceSlab", "faultOf", "(I)I"⟩, 7), (⟨"IceSlab$Day", "liesDearer", "(II)Z"⟩, 13), (⟨"IceSlab$Day", "sellAllToCook", "()V"⟩, 13), (⟨"IceSlab$Day", "comes", "(II)Z"⟩, 13), (⟨"IceSlab$Day", "choiceOf", "(II)I"⟩, 13), (⟨"IceSlab$Day", "gainOf", "(III)I"⟩, 13), (⟨"IceSlab$Day", "sellOne", "(III)V"⟩, 13), (⟨"IceSlab$Search", "weighRow", "()V"⟩, 7), (⟨"IceSlab$Search", "isRaisedFirst", "()Z"⟩, 7), (⟨"IceSlab$Search", "goToNextRow", "()Z"⟩, 7), (⟨"IceSlab", "tellAsWaiting", "(I)I"⟩, 7), (⟨"IceSlab", "leaveTrace", "(I)V"⟩, 7), (⟨"IceSlab", "tellAsChoosing", "(I)I"⟩, 7), (⟨"IceSlab", "tellAsBuyer", "(I)I"⟩, 7), (⟨"IceSlabModel", "barred", "(IIIJ)I"⟩, 39)]
theorem lw_r1 : ∀ q ∈ lw_privs_1, lw_okq q := List.forall_mem_cons.mpr ⟨lw_p0, List.forall_mem_cons.mpr ⟨lw_p1, List.forall_mem_cons.mpr ⟨lw_p2, List.forall_mem_cons.mpr ⟨lw_p3, List.forall_mem_cons.mpr ⟨lw_p4, List.forall_mem_cons.mpr ⟨lw_p5, List.forall_mem_cons.mpr ⟨lw_p6, List.forall_mem_cons.mpr ⟨lw_p7, List.forall_mem_cons.mpr ⟨lw_p8, List.forall_mem_cons.mpr ⟨lw_p9, List.forall_mem_cons.mpr ⟨lw_p10, List.forall_mem_cons.mpr ⟨lw_p11, List.forall_mem_cons.mpr ⟨lw_p12, List.forall_mem_cons.mpr ⟨lw_p13, List.forall_mem_cons.mpr ⟨lw_p14, List.forall_mem_cons.mpr ⟨lw_p15, fun _ h => absurd h List.not_mem_nil⟩⟩⟩⟩⟩⟩⟩⟩⟩⟩⟩⟩⟩⟩⟩⟩
theorem lw_p16 : lw_okq (⟨"IceSlabModel", "refused", "(I)I"⟩, 39) := ⟨⟨by decide +kernel, by decide +kernel⟩, List.mem_of_getElem? (i := 701) (by decide +kernel), List.mem_of_getElem? (i := 840) (by decide +kernel), List.mem_of_getElem? (i := 841) (by decide +kernel)⟩
theorem lw_p17 : lw_okq (⟨"IceSlabModel", "failed", "(I)I"⟩, 39) := ⟨⟨by decide +kernel, by decide +kernel⟩, List.mem_of_getElem? (i := 701) (by decide +kernel), List.mem_of_getElem? (i := 845) (by decide +kernel), List.mem_of_getElem? (i := 846) (by decide +kernel)⟩
theorem lw_p18 : lw_okq (⟨"IceSlabModel", "readsStall", "(II)Z"⟩, 39) := ⟨⟨by decide +kernel, by decide +kernel⟩, List.mem_of_getElem? (i := 701) (by decide +kernel), List.mem_of_getElem? (i := 852) (by decide +kernel), List.mem_of_getElem? (i := 853) (by decide +kernel)⟩
theorem lw_p19 : lw_okq (⟨"IceSlabModel", "takes", "(III)Z"⟩, 39) := ⟨⟨by decide +kernel, by decide +kernel⟩, List.mem_of_getElem? (i := 701) (by decide +kernel), List.mem_of_getElem? (i := 856) (by decide +kernel), List.mem_of_getElem? (i := 857) (by decide +kernel)⟩
theorem lw_p20 : lw_okq (⟨"IceSlabModel", "readsFigure", "(IIII)Z"⟩, 39) := ⟨⟨by decide +kernel, by decide +kernel⟩, List.mem_of_getElem? (i := 701) (by decide +kernel), List.mem_of_getElem? (i := 860) (by decide +kernel), List.mem_of_getElem? (i := 861) (by decide +kernel)⟩
theorem lw_p21 : lw_okq (⟨"IceSlabModel", "readsSort", "(II)Z"⟩, 39) := ⟨⟨by decide +kernel, by decide +kernel⟩, List.mem_of_getElem? (i := 701) (by decide +kernel), List.mem_of_getElem? (i := 864) (by decide +kernel), List.mem_of_getElem? (i := 865) (by decide +kernel)⟩
theorem lw_p22 : lw_okq (⟨"IceSlabModel", "noSort", "(I)Z"⟩, 39) := ⟨⟨by decide +kernel, by decide +kernel⟩, List.mem_of_getElem? (i := 701) (by decide +kernel), List.mem_of_getElem? (i := 872) (by decide +kernel), List.mem_of_getElem? (i := 873) (by decide +kernel)⟩
theorem lw_p23 : lw_okq (⟨"IceSlabModel", "noHour", "(I)Z"⟩, 39) := ⟨⟨by decide +kernel, by decide +kernel⟩, List.mem_of_getElem? (i := 701) (by decide +kernel), List.mem_of_getElem? (i := 880) (by decide +kernel), List.mem_of_getElem? (i := 881) (by decide +kernel)⟩
theorem lw_p24 : lw_okq (⟨"IceSlabModel", "freshAt", "(II)I"⟩, 39) := ⟨⟨by decide +kernel, by decide +kernel⟩, List.mem_of_getElem? (i := 701) (by decide +kernel), List.mem_of_getElem? (i := 884) (by decide +kernel), List.mem_of_getElem? (i := 885) (by decide +kernel)⟩
theorem lw_p25 : lw_okq (⟨"IceSlabModel", "priceOf", "(II)I"⟩, 39) := ⟨⟨by decide +kernel, by decide +kernel⟩, List.mem_of_getElem? (i := 701) (by decide +kernel), List.mem_of_getElem? (i := 900) (by decide +kernel), List.mem_of_getElem? (i := 901) (by decide +kernel)⟩
theorem lw_p26 : lw_okq (⟨"IceSlabModel", "noBuyer", "(I)Z"⟩, 39) := ⟨⟨by decide +kernel, by decide +kernel⟩, List.mem_of_getElem? (i := 701) (by decide +kernel), List.mem_of_getElem? (i := 933) (by decide +kernel), List.mem_of_getElem? (i := 934) (by decide +kernel)⟩
theorem lw_p27 : lw_okq (⟨"IceSlabModel", "layAll", "()V"⟩, 39) := ⟨⟨by decide +kernel, by decide +kernel⟩, List.mem_of_getElem? (i := 701) (by decide +kernel), List.mem_of_getElem? (i := 941) (by decide +kernel), List.mem_of_getElem? (i := 942) (by decide +kernel)⟩
theorem lw_p28 : lw_okq (⟨"IceSlabModel", "worthOf", "(III)I"⟩, 39) := ⟨⟨by decide +kernel, by decide +kernel⟩, List.mem_of_getElem? (i := 701) (by decide +kernel), List.mem_of_getElem? (i := 945) (by decide +kernel), List.mem_of_getElem? (i := 946) (by decide +kernel)⟩
theorem lw_p29 : lw_okq (⟨"IceSlabModel", "hasDearer", "(II)Z"⟩, 39) := ⟨⟨by decide +kernel, by decide +kernel⟩, List.mem_of_getElem? (i := 701) (by decide +kernel), List.mem_of_getElem? (i := 949) (by decide +kernel), List.mem_of_getElem? (i := 950) (by decide +kernel)⟩
theorem lw_p30 : lw_okq (⟨"IceSlabModel", "goThrough", "(III)V"⟩, 39) := ⟨⟨by decide +kernel, by decide +kernel⟩, List.mem_of_getElem? (i := 701) (by decide +kernel), List.mem_of_getElem? (i := 957) (by decide +kernel), List.mem_of_getElem? (i := 958) (by decide +kernel)⟩
theorem lw_p31 : lw_okq (⟨"IceSlabModel", "sell", "(III)V"⟩, 39) := ⟨⟨by decide +kernel, by decide +kernel⟩, List.mem_of_getElem? (i := 701) (by decide +kernel), List.mem_of_getElem? (i := 961) (by decide +kernel), List.mem_of_getElem? (i := 962) (by decide +kernel)⟩
def lw_privs_2 : List (MethodName × Nat) := [(⟨"IceSlabModel", "refused", "(I)I"⟩, 39), (⟨"IceSlabModel", "failed", "(I)I"⟩, 39), (⟨"IceSlabModel", "readsStall", "(II)Z"⟩, 39), (⟨"IceSlabModel", "takes", "(III)Z"⟩, 39), (⟨"IceSlabModel", "readsFigure", "(IIII)Z"⟩, 39), (⟨"IceSlabModel", "readsSort", "(II)Z"⟩, 39), (⟨"IceSlabModel", "noSort", "(I)Z"⟩, 39), (⟨"IceSlabModel", "noHour", "(I)Z"⟩, 39), (⟨"IceSlabModel", "freshAt", "(II)I"⟩, 39), (⟨"IceSlabModel", "priceOf", "(II)I"⟩, 39), (⟨"IceSlabModel", "noBuyer", "(I)Z"⟩, 39), (⟨"IceSlabModel", "layAll", "()V"⟩, 39), (⟨"IceSlabModel", "worthOf", "(III)I"⟩, 39), (⟨"IceSlabModel", "hasDearer", "(II)Z"⟩, 39), (⟨"IceSlabModel", "goThrough", "(III)V"⟩, 39), (⟨"IceSlabModel", "sell", "(III)V"⟩, 39)]
theorem lw_r2 : ∀ q ∈ lw_privs_2, lw_okq q := List.forall_mem_cons.mpr ⟨lw_p16, List.forall_mem_cons.mpr ⟨lw_p17, List.forall_mem_cons.mpr ⟨lw_p18, List.forall_mem_cons.mpr ⟨lw_p19, List.forall_mem_cons.mpr ⟨lw_p20, List.forall_mem_cons.mpr ⟨lw_p21, List.forall_mem_cons.mpr ⟨lw_p22, List.forall_mem_cons.mpr ⟨lw_p23, List.forall_mem_cons.mpr ⟨lw_p24, List.forall_mem_cons.mpr ⟨lw_p25, List.forall_mem_cons.mpr ⟨lw_p26, List.forall_mem_cons.mpr ⟨lw_p27, List.forall_mem_cons.mpr ⟨lw_p28, List.forall_mem_cons.mpr ⟨lw_p29, List.forall_mem_cons.mpr ⟨lw_p30, List.forall_mem_cons.mpr ⟨lw_p31, fun _ h => absurd h List.not_mem_nil⟩⟩⟩⟩⟩⟩⟩⟩⟩⟩⟩⟩⟩⟩⟩⟩
theorem lw_p32 : lw_okq (⟨"IceSlabModel", "comes", "(II)V"⟩, 39) := ⟨⟨by decide +kernel, by decide +kernel⟩, List.mem_of_getElem? (i := 701) (by decide +kernel), List.mem_of_getElem? (i := 965) (by decide +kernel), List.mem_of_getElem? (i := 966) (by decide +kernel)⟩
theorem lw_p33 : lw_okq (⟨"IceSlabModel", "wanted", "(II)I"⟩, 39) := ⟨⟨by decide +kernel, by decide +kernel⟩, List.mem_of_getElem? (i := 701) (by decide +kernel), List.mem_of_getElem? (i := 969) (by decide +kernel), List.mem_of_getElem? (i := 970) (by decide +kernel)⟩
theorem lw_p34 : lw_okq (⟨"IceSlabModel", "isCheaperNext", "(II)Z"⟩, 39) := ⟨⟨by decide +kernel, by decide +kernel⟩, List.mem_of_getElem? (i := 701) (by decide +kernel), List.mem_of_getElem? (i := 973) (by decide +kernel), List.mem_of_getElem? (i := 974) (by decide +kernel)⟩
theorem lw_p35 : lw_okq (⟨"IceSlabModel", "gainOf", "(III)I"⟩, 39) := ⟨⟨by decide +kernel, by decide +kernel⟩, List.mem_of_getElem? (i := 701) (by decide +kernel), List.mem_of_getElem? (i := 977) (by decide +kernel), List.mem_of_getElem? (i := 978) (by decide +kernel)⟩
theorem lw_p36 : lw_okq (⟨"IceSlabModel", "allFish", "()I"⟩, 39) := ⟨⟨by decide +kernel, by decide +kernel⟩, List.mem_of_getElem? (i := 701) (by decide +kernel), List.mem_of_getElem? (i := 981) (by decide +kernel), List.mem_of_getElem? (i := 982) (by decide +kernel)⟩
theorem lw_p37 : lw_okq (⟨"IceSlabModel", "left", "()I"⟩, 39) := ⟨⟨by decide +kernel, by decide +kernel⟩, List.mem_of_getElem? (i := 701) (by decide +kernel), List.mem_of_getElem? (i := 985) (by decide +kernel), List.mem_of_getElem? (i := 986) (by decide +kernel)⟩
theorem lw_p38 : lw_okq (⟨"IceSlabModel", "profitOf", "()I"⟩, 39) := ⟨⟨by decide +kernel, by decide +kernel⟩, List.mem_of_getElem? (i := 701) (by decide +kernel), List.mem_of_getElem? (i := 989) (by decide +kernel), List.mem_of_getElem? (i := 990) (by decide +kernel)⟩
theorem lw_p39 : lw_okq (⟨"IceSlabModel", "profit", "()I"⟩, 39) := ⟨⟨by decide +kernel, by decide +kernel⟩, List.mem_of_getElem? (i := 701) (by decide +kernel), List.mem_of_getElem? (i := 1005) (by decide +kernel), List.mem_of_getElem? (i := 1006) (by decide +kernel)⟩
theorem lw_p40 : lw_okq (⟨"IceSlabModel", "layFish", "(I)V"⟩, 39) := ⟨⟨by decide +kernel, by decide +kernel⟩, List.mem_of_getElem? (i := 701) (by decide +kernel), List.mem_of_getElem? (i := 1018) (by decide +kernel), List.mem_of_getElem? (i := 1019) (by decide +kernel)⟩
theorem lw_p41 : lw_okq (⟨"IceSlabModel", "weightsOf", "(II)I"⟩, 39) := ⟨⟨by decide +kernel, by decide +kernel⟩, List.mem_of_getElem? (i := 701) (by decide +kernel), List.mem_of_getElem? (i := 1039) (by decide +kernel), List.mem_of_getElem? (i := 1040) (by decide +kernel)⟩
theorem lw_p42 : lw_okq (⟨"IceSlabModel", "hadBy", "(IIIIII)J"⟩, 39) := ⟨⟨by decide +kernel, by decide +kernel⟩, List.mem_of_getElem? (i := 701) (by decide +kernel), List.mem_of_getElem? (i := 1050) (by decide +kernel), List.mem_of_getElem? (i := 1051) (by decide +kernel)⟩
theorem lw_p43 : lw_okq (⟨"IceSlabModel", "takesGame", "(I)Z"⟩, 39) := ⟨⟨by decide +kernel, by decide +kernel⟩, List.mem_of_getElem? (i := 701) (by decide +kernel), List.mem_of_getElem? (i := 1070) (by decide +kernel), List.mem_of_getElem? (i := 1071) (by decide +kernel)⟩
theorem lw_p44 : lw_okq (⟨"IceSlabModel", "mixes", "(II)Z"⟩, 39) := ⟨⟨by decide +kernel, by decide +kernel⟩, List.mem_of_getElem? (i := 701) (by decide +kernel), List.mem_of_getElem? (i := 1079) (by decide +kernel), List.mem_of_getElem? (i := 1080) (by decide +kernel)⟩
theorem lw_p45 : lw_okq (⟨"IceSlabModel", "noCell", "(II)I"⟩, 39) := ⟨⟨by decide +kernel, by decide +kernel⟩, List.mem_of_getElem? (i := 701) (by decide +kernel), List.mem_of_getElem? (i := 1095) (by decide +kernel), List.mem_of_getElem? (i := 1096) (by decide +kernel)⟩
theorem lw_p46 : lw_okq (⟨"IceSlabModel", "failedLong", "(I)J"⟩, 39) := ⟨⟨by decide +kernel, by decide +kernel⟩, List.mem_of_getElem? (i := 701) (by decide +kernel), List.mem_of_getElem? (i := 1103) (by decide +kernel), List.mem_of_getElem? (i := 1104) (by decide +kernel)⟩
theorem lw_p47 : lw_okq (⟨"IceSlabModel", "traced", "(I)V"⟩, 39) := ⟨⟨by decide +kernel, by decide +kernel⟩, List.mem_of_getElem? (i := 701) (by decide +kernel), List.mem_of_getElem? (i := 1115) (by decide +kernel), List.mem_of_getElem? (i := 1116) (by decide +kernel)⟩
def lw_privs_3 : List (MethodName × Nat) := [(⟨"IceSlabModel", "comes", "(II)V"⟩, 39), (⟨"IceSlabModel", "wanted", "(II)I"⟩, 39), (⟨"IceSlabModel", "isCheaperNext", "(II)Z"⟩, 39), (⟨"IceSlabModel", "gainOf", "(III)I"⟩, 39), (⟨"IceSlabModel", "allFish", "()I"⟩, 39), (⟨"IceSlabModel", "left", "()I"⟩, 39), (⟨"IceSlabModel", "profitOf", "()I"⟩, 39), (⟨"IceSlabModel", "profit", "()I"⟩, 39), (⟨"IceSlabModel", "layFish", "(I)V"⟩, 39), (⟨"IceSlabModel", "weightsOf", "(II)I"⟩, 39), (⟨"IceSlabModel", "hadBy", "(IIIIII)J"⟩, 39), (⟨"IceSlabModel", "takesGame", "(I)Z"⟩, 39), (⟨"IceSlabModel", "mixes", "(II)Z"⟩, 39), (⟨"IceSlabModel", "noCell", "(II)I"⟩, 39), (⟨"IceSlabModel", "failedLong", "(I)J"⟩, 39), (⟨"IceSlabModel", "traced", "(I)V"⟩, 39)]
theorem lw_r3 : ∀ q ∈ lw_privs_3, lw_okq q := List.forall_mem_cons.mpr ⟨lw_p32, List.forall_mem_cons.mpr ⟨lw_p33, List.forall_mem_cons.mpr ⟨lw_p34, List.forall_mem_cons.mpr ⟨lw_p35, List.forall_mem_cons.mpr ⟨lw_p36, List.forall_mem_cons.mpr ⟨lw_p37, List.forall_mem_cons.mpr ⟨lw_p38, List.forall_mem_cons.mpr ⟨lw_p39, List.forall_mem_cons.mpr ⟨lw_p40, List.forall_mem_cons.mpr ⟨lw_p41, List.forall_mem_cons.mpr ⟨lw_p42, List.forall_mem_cons.mpr ⟨lw_p43, List.forall_mem_cons.mpr ⟨lw_p44, List.forall_mem_cons.mpr ⟨lw_p45, List.forall_mem_cons.mpr ⟨lw_p46, List.forall_mem_cons.mpr ⟨lw_p47, fun _ h => absurd h List.not_mem_nil⟩⟩⟩⟩⟩⟩⟩⟩⟩⟩⟩⟩⟩⟩⟩⟩
def lw_privs : List (MethodName × Nat) := lw_privs_1 ++ (lw_privs_2 ++ (lw_privs_3))
def lw_tbl : List Cond := k2_sels lw_privs ++ tables_1
theorem lw_privs_ok : ∀ q ∈ lw_privs, lw_okq q := by
  show ∀ q ∈ lw_privs_1 ++ (lw_privs_2 ++ (lw_privs_3)), lw_okq q
  exact List.forall_mem_append.mpr ⟨lw_r1, List.forall_mem_append.mpr ⟨lw_r2, lw_r3⟩⟩
theorem goodIn_r {big : List Cond} (ws : List Cond) (ps : List Nat) (hp : ws = ps.filterMap (fun i => big[i]?)) (h : ws.all goodWord = true) : GoodIn big ws := by
  intro w hw
  have h1 := List.all_eq_true.mp h w hw
  rw [hp] at hw
  obtain ⟨i, -, hi⟩ := List.mem_filterMap.mp hw
  have hm : w ∈ big := by first | exact List.mem_of_getElem? hi | exact List.getElem?_mem hi
  exact ⟨hm, good_of_word h1⟩
theorem goodIn_app {big a b : List Cond} (ha : GoodIn big a) (hb : GoodIn big b) : GoodIn big (a ++ b) := fun w h => (List.mem_append.mp h).elim (ha w) (hb w)
theorem goodIn_ca {big a b : List Cond} {c : Cond} (ha : GoodIn big (c :: a)) (hb : GoodIn big b) : GoodIn big (c :: (a ++ b)) := fun w h => (List.mem_cons.mp h).elim (fun e => ha w (List.mem_cons.mpr (Or.inl e))) (fun h => (List.mem_append.mp h).elim (fun h => ha w (List.mem_cons.mpr (Or.inr h))) (hb w))
theorem goodIn_sub {big ws : List Cond} (hm : ∀ w ∈ ws, w ∈ big) (h : ws.all goodWord = true) : GoodIn big ws := fun w hw => ⟨hm w hw, good_of_word (List.all_eq_true.mp h w hw)⟩
def vr_up {α : Type} (f : Nat → α) (l : List Nat) (v : α) : Nat → α := fun a => if a ∈ l then v else f a
theorem vr_up_in {α : Type} {f : Nat → α} {l : List Nat} {v : α} {a : Nat} (h : a ∈ l) : vr_up f l v a = v := if_pos h
theorem vr_up_ne {α : Type} {f : Nat → α} {l : List Nat} {v : α} {a : Nat} (h : a ∉ l) : vr_up f l v a = f a := if_neg h
theorem vr_rows {L l : List Nat} {f : Nat → va_E} {e : va_E} (h : ∀ a, a ∈ l → a ∉ L) : va_pl L f ++ l.map (fun a => (a, e)) = va_pl (L ++ l) (vr_up f l e) := by
  unfold va_pl
  rw [List.map_append]
  congr 1
  · apply List.map_congr_left
    intro a ha
    rw [vr_up_ne (fun q => h a q ha)]
  · apply List.map_congr_left
    intro a ha
    rw [vr_up_in ha]
theorem vr_lay {X rows : va_W} {x : Nat × va_E} {pl : va_W} {D : va_G} {cl : List vw_C} {H : Heap} (hP : va_P D cl (((X ++ pl) ++ [x]) ++ rows) H) : va_P D cl ((X ++ [x]) ++ (pl ++ rows)) H := by
  rw [List.append_assoc (X ++ pl)] at hP
  have h := va_P.swap hP
  rw [← List.append_assoc X] at h
  have h2 := va_P.swap h
  rw [List.append_assoc (X ++ [x])] at h2
  exact h2
theorem vr_layD {X rows : va_W} {x : Nat × va_E} {pl : va_W} {A : Nat → Prop} (hD : va_D A (((X ++ pl) ++ [x]) ++ rows)) : va_D A ((X ++ [x]) ++ (pl ++ rows)) := by
  rw [List.append_assoc (X ++ pl)] at hD
  have h := va_D.swap hD
  rw [← List.append_assoc X] at h
  have h2 := va_D.swap h
  rw [List.append_assoc (X ++ [x])] at h2
  exact h2
theorem vr_outer (c : ClassId) (N h0 : Nat) : ∀ i : Nat, Jvm.Free.Multi.outerC c N h0 i = arrV c N (fun j => va_rf (if j < i then some (h0 + 1 + j) else none))
  | 0 => by
    show ({ cls := c, slots := Array.replicate N .null, vm := .none } : Cell) = _
    rw [arrV_new]
    refine congrArg (arrV c N) (funext fun j => ?_)
    simp [va_rf]
  | i + 1 => by
    show (Jvm.Free.Multi.outerC c N h0 i).setSlot i (.ref (h0 + 1 + i)) = _
    rw [vr_outer c N h0 i, arrV_store]
    refine congrArg (arrV c N) (funext fun j => ?_)
    by_cases e : j = i
    · subst e
      simp [updV, va_rf]
    · by_cases h : j < i
      · simp [updV, e, h, Nat.lt_succ_of_lt h]
      · simp [updV, e, h, show ¬ j < i + 1 by omega]
def RX0 : String := "IceSlab$Buyers"
def TX0 : u_T := fun k => match k with
  | 0 => ("IceSlab$Buyers", "kind", "[I", true)
  | 1 => ("IceSlab$Buyers", "sort", "[I", true)
  | 2 => ("IceSlab$Buyers", "pays", "[I", true)
  | 3 => ("IceSlab$Buyers", "hour", "[I", true)
  | _ => ("IceSlab$Buyers", "count", "I", false)
def tyX0 : Nat → FieldType := fun k => match k with
  | 0 => .array .int
  | 1 => .array .int
  | 2 => .array .int
  | 3 => .array .int
  | _ => .int
theorem nmX0 : ∀ a, a < 5 → ∀ b, b < 5 → a ≠ b → (TX0 a).2.1 ≠ (TX0 b).2.1 := by decide +kernel
theorem tyX0_ok : ∀ k, k < 5 → parseFieldDescriptor (TX0 k).2.2.1 = some (tyX0 k) := by decide +kernel
abbrev cX0_init : ByteArray := prog_2_method_1_code
def yX0_init : MethodName := ⟨RX0, "<init>", "()V"⟩
abbrev cX0_has : ByteArray := prog_2_method_2_code
def yX0_has : MethodName := ⟨RX0, "has", "(I)Z"⟩
abbrev cX0_add : ByteArray := prog_2_method_3_code
def yX0_add : MethodName := ⟨RX0, "add", "(IIII)I"⟩
abbrev cX0_become : ByteArray := prog_2_method_4_code
def yX0_become : MethodName := ⟨RX0, "become", "(LIceSlab$Buyers;)V"⟩
def RX1 : String := "IceSlab$Day"
def TX1 : u_T := fun k => match k with
  | 0 => ("IceSlab$Day", "stall", "LIceSlab$Stall;", true)
  | 1 => ("IceSlab$Day", "buyers", "LIceSlab$Buyers;", true)
  | 2 => ("IceSlab$Day", "left", "[I", true)
  | 3 => ("IceSlab$Day", "gone", "[I", true)
  | 4 => ("IceSlab$Day", "paid", "[I", true)
  | 5 => ("IceSlab$Day", "tookSort", "[I", true)
  | 6 => ("IceSlab$Day", "tookHour", "[I", true)
  | 7 => ("IceSlab$Day", "tookFor", "[I", true)
  | 8 => ("IceSlab$Day", "came", "[I", true)
  | 9 => ("IceSlab$Day", "income", "I", false)
  | 10 => ("IceSlab$Day", "cookSort", "I", false)
  | 11 => ("IceSlab$Day", "cookHour", "I", false)
  | _ => ("IceSlab$Day", "cookPrice", "I", false)
def tyX1 : Nat → FieldType := fun k => match k with
  | 0 => .object "IceSlab$Stall"
  | 1 => .object "IceSlab$Buyers"
  | 2 => .array .int
  | 3 => .array .int
  | 4 => .array .int
  | 5 => .array .int
  | 6 => .array .int
  | 7 => .array .int
  | 8 => .array .int
  | 9 => .int
  | 10 => .int
  | 11 => .int
  | _ => .int
theorem nmX1 : ∀ a, a < 13 → ∀ b, b < 13 → a ≠ b → (TX1 a).2.1 ≠ (TX1 b).2.1 := by decide +kernel
theorem tyX1_ok : ∀ k, k < 13 → parseFieldDescriptor (TX1 k).2.2.1 = some (tyX1 k) := by decide +kernel
abbrev cX1_init : ByteArray := prog_3_method_1_code
def yX1_init : MethodName := ⟨RX1, "<init>", "()V"⟩
abbrev cX1_become : ByteArray := prog_3_method_2_code
def yX1_become : MethodName := ⟨RX1, "become", "(LIceSlab$Day;)V"⟩
abbrev cX1_awaitCook : ByteArray := prog_3_method_3_code
def yX1_awaitCook : MethodName := ⟨RX1, "awaitCook", "(III)V"⟩
abbrev cX1_open : ByteArray := prog_3_method_4_code
def yX1_open : MethodName := ⟨RX1, "open", "()V"⟩
abbrev cX1_goThrough : ByteArray := prog_3_method_5_code
def yX1_goThrough : MethodName := ⟨RX1, "goThrough", "()V"⟩
abbrev cX1_allLeft : ByteArray := prog_3_method_6_code
def yX1_allLeft : MethodName := ⟨RX1, "allLeft", "()I"⟩
abbrev cX1_profit : ByteArray := prog_3_method_7_code
def yX1_profit : MethodName := ⟨RX1, "profit", "()I"⟩
abbrev cX1_worthTo : ByteArray := prog_3_method_8_code
def yX1_worthTo : MethodName := ⟨RX1, "worthTo", "(III)I"⟩
abbrev cX1_liesDearer : ByteArray := prog_3_method_9_code
def yX1_liesDearer : MethodName := ⟨RX1, "liesDearer", "(II)Z"⟩
abbrev cX1_sellAllToCook : ByteArray := prog_3_method_10_code
def yX1_sellAllToCook : MethodName := ⟨RX1, "sellAllToCook", "()V"⟩
abbrev cX1_comes : ByteArray := prog_3_method_11_code
def yX1_comes : MethodName := ⟨RX1, "comes", "(II)Z"⟩
abbrev cX1_sellOne : ByteArray := prog_3_method_12_code
def yX1_sellOne : MethodName := ⟨RX1, "sellOne", "(III)V"⟩
abbrev cX1_choiceOf : ByteArray := prog_3_method_13_code
def yX1_choiceOf : MethodName := ⟨RX1, "choiceOf", "(II)I"⟩
abbrev cX1_gainOf : ByteArray := prog_3_method_14_code
def yX1_gainOf : MethodName := ⟨RX1, "gainOf", "(III)I"⟩
def RX2 : String := "IceSlab$Game"
def TX2 : u_T := fun k => match k with
  | 0 => ("IceSlab$Game", "seller", "[I", true)
  | _ => ("IceSlab$Game", "buyer", "[I", true)
def tyX2 : Nat → FieldType := fun k => match k with
  | 0 => .array .int
  | _ => .array .int
theorem nmX2 : ∀ a, a < 2 → ∀ b, b < 2 → a ≠ b → (TX2 a).2.1 ≠ (TX2 b).2.1 := by decide +kernel
theorem tyX2_ok : ∀ k, k < 2 → parseFieldDescriptor (TX2 k).2.2.1 = some (tyX2 k) := by decide +kernel
abbrev cX2_init : ByteArray := prog_4_method_1_code
def yX2_init : MethodName := ⟨RX2, "<init>", "()V"⟩
abbrev cX2_take : ByteArray := prog_4_method_2_code
def yX2_take : MethodName := ⟨RX2, "take", "([II)Z"⟩
abbrev cX2_restingBits : ByteArray := prog_4_method_3_code
def yX2_restingBits : MethodName := ⟨RX2, "restingBits", "()I"⟩
abbrev cX2_hasMixed : ByteArray := prog_4_method_4_code
def yX2_hasMixed : MethodName := ⟨RX2, "hasMixed", "()Z"⟩
abbrev cX2_takingOffUpper : ByteArray := prog_4_method_5_code
def yX2_takingOffUpper : MethodName := ⟨RX2, "takingOffUpper", "()I"⟩
abbrev cX2_takingOffLower : ByteArray := prog_4_method_6_code
def yX2_takingOffLower : MethodName := ⟨RX2, "takingOffLower", "()I"⟩
abbrev cX2_buyingUpper : ByteArray := prog_4_method_7_code
def yX2_buyingUpper : MethodName := ⟨RX2, "buyingUpper", "()I"⟩
abbrev cX2_buyingLower : ByteArray := prog_4_method_8_code
def yX2_buyingLower : MethodName := ⟨RX2, "buyingLower", "()I"⟩
abbrev cX2_isBetween : ByteArray := prog_4_method_9_code
def yX2_isBetween : MethodName := ⟨RX2, "isBetween", "(II)Z"⟩
def RX3 : String := "IceSlab$Odds"
def TX3 : u_T := fun k => match k with
  | 0 => ("IceSlab$Odds", "weights", "[I", true)
  | 1 => ("IceSlab$Odds", "count", "I", false)
  | _ => ("IceSlab$Odds", "sum", "I", false)
def tyX3 : Nat → FieldType := fun k => match k with
  | 0 => .array .int
  | 1 => .int
  | _ => .int
theorem nmX3 : ∀ a, a < 3 → ∀ b, b < 3 → a ≠ b → (TX3 a).2.1 ≠ (TX3 b).2.1 := by decide +kernel
theorem tyX3_ok : ∀ k, k < 3 → parseFieldDescriptor (TX3 k).2.2.1 = some (tyX3 k) := by decide +kernel
abbrev cX3_init : ByteArray := prog_5_method_1_code
def yX3_init : MethodName := ⟨RX3, "<init>", "()V"⟩
abbrev cX3_take : ByteArray := prog_5_method_2_code
def yX3_take : MethodName := ⟨RX3, "take", "([III)Z"⟩
abbrev cX3_weighed : ByteArray := prog_5_method_3_code
def yX3_weighed : MethodName := ⟨RX3, "weighed", "(IIII)I"⟩
abbrev cX3_mostWorthwhile : ByteArray := prog_5_method_4_code
def yX3_mostWorthwhile : MethodName := ⟨RX3, "mostWorthwhile", "(III)I"⟩
def RX4 : String := "IceSlab$Search"
def TX4 : u_T := fun k => match k with
  | 0 => ("IceSlab$Search", "trial", "LIceSlab$Day;", true)
  | 1 => ("IceSlab$Search", "row", "[I", true)
  | 2 => ("IceSlab$Search", "ranOut", "[Z", true)
  | 3 => ("IceSlab$Search", "raised", "[I", true)
  | 4 => ("IceSlab$Search", "profit", "I", false)
  | 5 => ("IceSlab$Search", "hour", "I", false)
  | _ => ("IceSlab$Search", "amount", "I", false)
def tyX4 : Nat → FieldType := fun k => match k with
  | 0 => .object "IceSlab$Day"
  | 1 => .array .int
  | 2 => .array .boolean
  | 3 => .array .int
  | 4 => .int
  | 5 => .int
  | _ => .int
theorem nmX4 : ∀ a, a < 7 → ∀ b, b < 7 → a ≠ b → (TX4 a).2.1 ≠ (TX4 b).2.1 := by decide +kernel
theorem tyX4_ok : ∀ k, k < 7 → parseFieldDescriptor (TX4 k).2.2.1 = some (tyX4 k) := by decide +kernel
abbrev cX4_init : ByteArray := prog_6_method_1_code
def yX4_init : MethodName := ⟨RX4, "<init>", "()V"⟩
abbrev cX4_profitWithout : ByteArray := prog_6_method_2_code
def yX4_profitWithout : MethodName := ⟨RX4, "profitWithout", "(LIceSlab$Day;I)I"⟩
abbrev cX4_profitWithCook : ByteArray := prog_6_method_3_code
def yX4_profitWithCook : MethodName := ⟨RX4, "profitWithCook", "(LIceSlab$Day;III)I"⟩
abbrev cX4_findPrice : ByteArray := prog_6_method_4_code
def yX4_findPrice : MethodName := ⟨RX4, "findPrice", "(LIceSlab$Day;II)V"⟩
abbrev cX4_findTakingOff : ByteArray := prog_6_method_5_code
def yX4_findTakingOff : MethodName := ⟨RX4, "findTakingOff", "(LIceSlab$Day;)V"⟩
abbrev cX4_findFetched : ByteArray := prog_6_method_6_code
def yX4_findFetched : MethodName := ⟨RX4, "findFetched", "(LIceSlab$Day;)V"⟩
abbrev cX4_weighRow : ByteArray := prog_6_method_7_code
def yX4_weighRow : MethodName := ⟨RX4, "weighRow", "()V"⟩
abbrev cX4_isRaisedFirst : ByteArray := prog_6_method_8_code
def yX4_isRaisedFirst : MethodName := ⟨RX4, "isRaisedFirst", "()Z"⟩
abbrev cX4_goToNextRow : ByteArray := prog_6_method_9_code
def yX4_goToNextRow : MethodName := ⟨RX4, "goToNextRow", "()Z"⟩
def RX5 : String := "IceSlab$Sheets"
def TX5 : u_T := fun k => match k with
  | 0 => ("IceSlab$Sheets", "cells", "[[I", true)
  | 1 => ("IceSlab$Sheets", "lane", "[I", true)
  | _ => ("IceSlab$Sheets", "length", "[I", true)
def tyX5 : Nat → FieldType := fun k => match k with
  | 0 => .array (.array .int)
  | 1 => .array .int
  | _ => .array .int
theorem nmX5 : ∀ a, a < 3 → ∀ b, b < 3 → a ≠ b → (TX5 a).2.1 ≠ (TX5 b).2.1 := by decide +kernel
theorem tyX5_ok : ∀ k, k < 3 → parseFieldDescriptor (TX5 k).2.2.1 = some (tyX5 k) := by decide +kernel
abbrev cX5_init : ByteArray := prog_7_method_1_code
def yX5_init : MethodName := ⟨RX5, "<init>", "()V"⟩
abbrev cX5_cut : ByteArray := prog_7_method_2_code
def yX5_cut : MethodName := ⟨RX5, "cut", "(II)I"⟩
abbrev cX5_isThere : ByteArray := prog_7_method_3_code
def yX5_isThere : MethodName := ⟨RX5, "isThere", "(I)Z"⟩
abbrev cX5_isLane : ByteArray := prog_7_method_4_code
def yX5_isLane : MethodName := ⟨RX5, "isLane", "(I)Z"⟩
abbrev cX5_hasRow : ByteArray := prog_7_method_5_code
def yX5_hasRow : MethodName := ⟨RX5, "hasRow", "(I)Z"⟩
abbrev cX5_reaches : ByteArray := prog_7_method_6_code
def yX5_reaches : MethodName := ⟨RX5, "reaches", "(III)Z"⟩
abbrev cX5_give : ByteArray := prog_7_method_7_code
def yX5_give : MethodName := ⟨RX5, "give", "(III)V"⟩
def RX6 : String := "IceSlab$Stall"
def TX6 : u_T := fun k => match k with
  | 0 => ("IceSlab$Stall", "fish", "[I", true)
  | 1 => ("IceSlab$Stall", "cost", "[I", true)
  | 2 => ("IceSlab$Stall", "freshness", "[I", true)
  | 3 => ("IceSlab$Stall", "fades", "[I", true)
  | 4 => ("IceSlab$Stall", "prices", "[[I", true)
  | 5 => ("IceSlab$Stall", "hours", "I", false)
  | 6 => ("IceSlab$Stall", "sorts", "I", false)
  | 7 => ("IceSlab$Stall", "soup", "I", false)
  | _ => ("IceSlab$Stall", "beside", "Z", false)
def tyX6 : Nat → FieldType := fun k => match k with
  | 0 => .array .int
  | 1 => .array .int
  | 2 => .array .int
  | 3 => .array .int
  | 4 => .array (.array .int)
  | 5 => .int
  | 6 => .int
  | 7 => .int
  | _ => .boolean
theorem nmX6 : ∀ a, a < 9 → ∀ b, b < 9 → a ≠ b → (TX6 a).2.1 ≠ (TX6 b).2.1 := by decide +kernel
theorem tyX6_ok : ∀ k, k < 9 → parseFieldDescriptor (TX6 k).2.2.1 = some (tyX6 k) := by decide +kernel
abbrev cX6_init : ByteArray := prog_8_method_1_code
def yX6_init : MethodName := ⟨RX6, "<init>", "()V"⟩
abbrev cX6_readText : ByteArray := prog_8_method_2_code
def yX6_readText : MethodName := ⟨RX6, "readText", "([III)V"⟩
abbrev cX6_become : ByteArray := prog_8_method_3_code
def yX6_become : MethodName := ⟨RX6, "become", "(LIceSlab$Stall;)V"⟩
abbrev cX6_isTold : ByteArray := prog_8_method_4_code
def yX6_isTold : MethodName := ⟨RX6, "isTold", "()Z"⟩
abbrev cX6_hasSort : ByteArray := prog_8_method_5_code
def yX6_hasSort : MethodName := ⟨RX6, "hasSort", "(I)Z"⟩
abbrev cX6_hasPlace : ByteArray := prog_8_method_6_code
def yX6_hasPlace : MethodName := ⟨RX6, "hasPlace", "(II)Z"⟩
abbrev cX6_freshAt : ByteArray := prog_8_method_7_code
def yX6_freshAt : MethodName := ⟨RX6, "freshAt", "(II)I"⟩
abbrev cX6_allFish : ByteArray := prog_8_method_8_code
def yX6_allFish : MethodName := ⟨RX6, "allFish", "()I"⟩
abbrev cX6_costOfAll : ByteArray := prog_8_method_9_code
def yX6_costOfAll : MethodName := ⟨RX6, "costOfAll", "()I"⟩
abbrev cX6_isCheaperNext : ByteArray := prog_8_method_10_code
def yX6_isCheaperNext : MethodName := ⟨RX6, "isCheaperNext", "(II)Z"⟩
abbrev cX6_takeOffFrom : ByteArray := prog_8_method_11_code
def yX6_takeOffFrom : MethodName := ⟨RX6, "takeOffFrom", "(LIceSlab$Stall;II)V"⟩
def RX7 : String := "IceSlab$Text"
def TX7 : u_T := fun k => match k with
  | _ => ("", "", "", false)
def tyX7 : Nat → FieldType := fun k => match k with
  | _ => .int
theorem nmX7 : ∀ a, a < 0 → ∀ b, b < 0 → a ≠ b → (TX7 a).2.1 ≠ (TX7 b).2.1 := by decide +kernel
theorem tyX7_ok : ∀ k, k < 0 → parseFieldDescriptor (TX7 k).2.2.1 = some (tyX7 k) := by decide +kernel
abbrev cX7_firstFault : ByteArray := prog_9_method_2_code
def yX7_firstFault : MethodName := ⟨RX7, "firstFault", "([III)I"⟩
abbrev cX7_goesOn : ByteArray := prog_9_method_3_code
def yX7_goesOn : MethodName := ⟨RX7, "goesOn", "(II)Z"⟩
def RX8 : String := "IceSlab"
def TX8 : u_T := fun k => match k with
  | 0 => ("IceSlab", "today", "LIceSlab$Day;", true)
  | 1 => ("IceSlab", "search", "LIceSlab$Search;", true)
  | 2 => ("IceSlab", "sheets", "LIceSlab$Sheets;", true)
  | 3 => ("IceSlab", "odds", "LIceSlab$Odds;", true)
  | 4 => ("IceSlab", "game", "LIceSlab$Game;", true)
  | 5 => ("IceSlab", "trace", "I", false)
  | _ => ("IceSlab", "fault", "I", false)
def tyX8 : Nat → FieldType := fun k => match k with
  | 0 => .object "IceSlab$Day"
  | 1 => .object "IceSlab$Search"
  | 2 => .object "IceSlab$Sheets"
  | 3 => .object "IceSlab$Odds"
  | 4 => .object "IceSlab$Game"
  | 5 => .int
  | _ => .int
theorem nmX8 : ∀ a, a < 7 → ∀ b, b < 7 → a ≠ b → (TX8 a).2.1 ≠ (TX8 b).2.1 := by decide +kernel
theorem tyX8_ok : ∀ k, k < 7 → parseFieldDescriptor (TX8 k).2.2.1 = some (tyX8 k) := by decide +kernel
abbrev cX8_init : ByteArray := prog_1_method_1_code
def yX8_init : MethodName := ⟨RX8, "<init>", "()V"⟩
abbrev cX8_stall : ByteArray := prog_1_method_2_code
def yX8_stall : MethodName := ⟨RX8, "stall", "(IIII)I"⟩
abbrev cX8_ofSort : ByteArray := prog_1_method_3_code
def yX8_ofSort : MethodName := ⟨RX8, "ofSort", "(II)I"⟩
abbrev cX8_fresh : ByteArray := prog_1_method_4_code
def yX8_fresh : MethodName := ⟨RX8, "fresh", "(II)I"⟩
abbrev cX8_fish : ByteArray := prog_1_method_5_code
def yX8_fish : MethodName := ⟨RX8, "fish", "(II)I"⟩
abbrev cX8_slate : ByteArray := prog_1_method_6_code
def yX8_slate : MethodName := ⟨RX8, "slate", "(II)I"⟩
abbrev cX8_write : ByteArray := prog_1_method_7_code
def yX8_write : MethodName := ⟨RX8, "write", "(III)I"⟩
abbrev cX8_copyOut : ByteArray := prog_1_method_8_code
def yX8_copyOut : MethodName := ⟨RX8, "copyOut", "(IIIII)I"⟩
abbrev cX8_soup : ByteArray := prog_1_method_9_code
def yX8_soup : MethodName := ⟨RX8, "soup", "(I)I"⟩
abbrev cX8_beside : ByteArray := prog_1_method_10_code
def yX8_beside : MethodName := ⟨RX8, "beside", "(Z)I"⟩
abbrev cX8_buyer : ByteArray := prog_1_method_11_code
def yX8_buyer : MethodName := ⟨RX8, "buyer", "(IIII)I"⟩
abbrev cX8_ofBuyer : ByteArray := prog_1_method_12_code
def yX8_ofBuyer : MethodName := ⟨RX8, "ofBuyer", "(II)I"⟩
abbrev cX8_worth : ByteArray := prog_1_method_13_code
def yX8_worth : MethodName := ⟨RX8, "worth", "(III)I"⟩
abbrev cX8_day : ByteArray := prog_1_method_14_code
def yX8_day : MethodName := ⟨RX8, "day", "(I)I"⟩
abbrev cX8_bought : ByteArray := prog_1_method_15_code
def yX8_bought : MethodName := ⟨RX8, "bought", "(II)I"⟩
abbrev cX8_sold : ByteArray := prog_1_method_16_code
def yX8_sold : MethodName := ⟨RX8, "sold", "(II)I"⟩
abbrev cX8_best : ByteArray := prog_1_method_17_code
def yX8_best : MethodName := ⟨RX8, "best", "(III)I"⟩
abbrev cX8_takeOff : ByteArray := prog_1_method_18_code
def yX8_takeOff : MethodName := ⟨RX8, "takeOff", "(I)I"⟩
abbrev cX8_fetch : ByteArray := prog_1_method_19_code
def yX8_fetch : MethodName := ⟨RX8, "fetch", "(I)I"⟩
abbrev cX8_carried : ByteArray := prog_1_method_20_code
def yX8_carried : MethodName := ⟨RX8, "carried", "(I)I"⟩
abbrev cX8_cook : ByteArray := prog_1_method_21_code
def yX8_cook : MethodName := ⟨RX8, "cook", "(III)I"⟩
abbrev cX8_mean : ByteArray := prog_1_method_22_code
def yX8_mean : MethodName := ⟨RX8, "mean", "(IIIIIIIII)J"⟩
abbrev cX8_howMany : ByteArray := prog_1_method_23_code
def yX8_howMany : MethodName := ⟨RX8, "howMany", "(IIIIIII)I"⟩
abbrev cX8_right : ByteArray := prog_1_method_24_code
def yX8_right : MethodName := ⟨RX8, "right", "(III)J"⟩
abbrev cX8_rests : ByteArray := prog_1_method_25_code
def yX8_rests : MethodName := ⟨RX8, "rests", "(III)I"⟩
abbrev cX8_mixed : ByteArray := prog_1_method_26_code
def yX8_mixed : MethodName := ⟨RX8, "mixed", "(IIIII)J"⟩
abbrev cX8_sheet : ByteArray := prog_1_method_27_code
def yX8_sheet : MethodName := ⟨RX8, "sheet", "(III)I"⟩
abbrev cX8_lose : ByteArray := prog_1_method_28_code
def yX8_lose : MethodName := ⟨RX8, "lose", "(I)I"⟩
abbrev cX8_put : ByteArray := prog_1_method_29_code
def yX8_put : MethodName := ⟨RX8, "put", "(III)I"⟩
abbrev cX8_cell : ByteArray := prog_1_method_30_code
def yX8_cell : MethodName := ⟨RX8, "cell", "(III)J"⟩
abbrev cX8_copy : ByteArray := prog_1_method_31_code
def yX8_copy : MethodName := ⟨RX8, "copy", "(IIIII)I"⟩
abbrev cX8_tell : ByteArray := prog_1_method_32_code
def yX8_tell : MethodName := ⟨RX8, "tell", "(I)I"⟩
abbrev cX8_greet : ByteArray := prog_1_method_33_code
def yX8_greet : MethodName := ⟨RX8, "greet", "(I)I"⟩
abbrev cX8_as : ByteArray := prog_1_method_34_code
def yX8_as : MethodName := ⟨RX8, "as", "(II)I"⟩
abbrev cX8_trace : ByteArray := prog_1_method_35_code
def yX8_trace : MethodName := ⟨RX8, "trace", "()I"⟩
abbrev cX8_fault : ByteArray := prog_1_method_36_code
def yX8_fault : MethodName := ⟨RX8, "fault", "()I"⟩
abbrev cX8_many : ByteArray := prog_1_method_37_code
def yX8_many : MethodName := ⟨RX8, "many", "(I)I"⟩
abbrev cX8_tellAsBuyer : ByteArray := prog_1_method_38_code
def yX8_tellAsBuyer : MethodName := ⟨RX8, "tellAsBuyer", "(I)I"⟩
abbrev cX8_tellAsChoosing : ByteArray := prog_1_method_39_code
def yX8_tellAsChoosing : MethodName := ⟨RX8, "tellAsChoosing", "(I)I"⟩
abbrev cX8_tellAsWaiting : ByteArray := prog_1_method_40_code
def yX8_tellAsWaiting : MethodName := ⟨RX8, "tellAsWaiting", "(I)I"⟩
abbrev cX8_leaveTrace : ByteArray := prog_1_method_41_code
def yX8_leaveTrace : MethodName := ⟨RX8, "leaveTrace", "(I)V"⟩
abbrev cX8_faultOf : ByteArray := prog_1_method_42_code
def yX8_faultOf : MethodName := ⟨RX8, "faultOf", "(I)I"⟩
abbrev cX8_lookAtCells : ByteArray := prog_1_method_43_code
def yX8_lookAtCells : MethodName := ⟨RX8, "lookAtCells", "(IIII)I"⟩
abbrev cX8_isWithin : ByteArray := prog_1_method_44_code
def yX8_isWithin : MethodName := ⟨RX8, "isWithin", "(III)Z"⟩
abbrev cX8_areMoney : ByteArray := prog_1_method_45_code
def yX8_areMoney : MethodName := ⟨RX8, "areMoney", "(III)Z"⟩
abbrev cX8_areAllWithin : ByteArray := prog_1_method_46_code
def yX8_areAllWithin : MethodName := ⟨RX8, "areAllWithin", "([IIIII)Z"⟩
abbrev cX8_partOfShare : ByteArray := prog_1_method_47_code
def yX8_partOfShare : MethodName := ⟨RX8, "partOfShare", "(JJI)J"⟩
abbrev cX8_commonDivisor : ByteArray := prog_1_method_48_code
def yX8_commonDivisor : MethodName := ⟨RX8, "commonDivisor", "(JJ)J"⟩
def RX9 : String := "IceSlabModel"
def TX9 : u_T := fun k => match k with
  | 0 => ("IceSlabModel", "fault", "I", false)
  | 1 => ("IceSlabModel", "hours", "I", false)
  | 2 => ("IceSlabModel", "sorts", "I", false)
  | 3 => ("IceSlabModel", "fishOf", "[I", true)
  | 4 => ("IceSlabModel", "costOf", "[I", true)
  | 5 => ("IceSlabModel", "freshOf", "[I", true)
  | 6 => ("IceSlabModel", "fades", "[I", true)
  | 7 => ("IceSlabModel", "slateOf", "[I", true)
  | 8 => ("IceSlabModel", "soupNow", "I", false)
  | 9 => ("IceSlabModel", "besideNow", "Z", false)
  | 10 => ("IceSlabModel", "readAt", "I", false)
  | 11 => ("IceSlabModel", "readValue", "I", false)
  | 12 => ("IceSlabModel", "readHours", "I", false)
  | 13 => ("IceSlabModel", "readSorts", "I", false)
  | 14 => ("IceSlabModel", "readNumber", "[I", true)
  | 15 => ("IceSlabModel", "buyers", "I", false)
  | 16 => ("IceSlabModel", "kindOf", "[I", true)
  | 17 => ("IceSlabModel", "sortOf", "[I", true)
  | 18 => ("IceSlabModel", "paysOf", "[I", true)
  | 19 => ("IceSlabModel", "hourOf", "[I", true)
  | 20 => ("IceSlabModel", "lies", "[I", true)
  | 21 => ("IceSlabModel", "income", "I", false)
  | 22 => ("IceSlabModel", "boughtSort", "[I", true)
  | 23 => ("IceSlabModel", "boughtHour", "[I", true)
  | 24 => ("IceSlabModel", "boughtFor", "[I", true)
  | 25 => ("IceSlabModel", "came", "[I", true)
  | 26 => ("IceSlabModel", "goneAt", "[I", true)
  | 27 => ("IceSlabModel", "paidFor", "[I", true)
  | 28 => ("IceSlabModel", "slateWas", "[I", true)
  | 29 => ("IceSlabModel", "fishWas", "[I", true)
  | 30 => ("IceSlabModel", "sellers", "[I", true)
  | 31 => ("IceSlabModel", "buys", "[I", true)
  | 32 => ("IceSlabModel", "mixUp", "J", false)
  | 33 => ("IceSlabModel", "mixDown", "J", false)
  | 34 => ("IceSlabModel", "sheetSize", "[I", true)
  | 35 => ("IceSlabModel", "sheetLane", "[I", true)
  | 36 => ("IceSlabModel", "sheet", "[I", true)
  | 37 => ("IceSlabModel", "hands", "[I", true)
  | _ => ("IceSlabModel", "traceNow", "I", false)
def tyX9 : Nat → FieldType := fun k => match k with
  | 0 => .int
  | 1 => .int
  | 2 => .int
  | 3 => .array .int
  | 4 => .array .int
  | 5 => .array .int
  | 6 => .array .int
  | 7 => .array .int
  | 8 => .int
  | 9 => .boolean
  | 10 => .int
  | 11 => .int
  | 12 => .int
  | 13 => .int
  | 14 => .array .int
  | 15 => .int
  | 16 => .array .int
  | 17 => .array .int
  | 18 => .array .int
  | 19 => .array .int
  | 20 => .array .int
  | 21 => .int
  | 22 => .array .int
  | 23 => .array .int
  | 24 => .array .int
  | 25 => .array .int
  | 26 => .array .int
  | 27 => .array .int
  | 28 => .array .int
  | 29 => .array .int
  | 30 => .array .int
  | 31 => .array .int
  | 32 => .long
  | 33 => .long
  | 34 => .array .int
  | 35 => .array .int
  | 36 => .array .int
  | 37 => .array .int
  | _ => .int
theorem nmX9 : ∀ a, a < 39 → ∀ b, b < 39 → a ≠ b → (TX9 a).2.1 ≠ (TX9 b).2.1 := by decide +kernel
theorem tyX9_ok : ∀ k, k < 39 → parseFieldDescriptor (TX9 k).2.2.1 = some (tyX9 k) := by decide +kernel
abbrev cX9_init : ByteArray := prog_11_method_1_code
def yX9_init : MethodName := ⟨RX9, "<init>", "()V"⟩
abbrev cX9_in : ByteArray := prog_11_method_2_code
def yX9_in : MethodName := ⟨RX9, "in", "(JJJ)Z"⟩
abbrev cX9_lost : ByteArray := prog_11_method_3_code
def yX9_lost : MethodName := ⟨RX9, "lost", "()J"⟩
abbrev cX9_greater : ByteArray := prog_11_method_4_code
def yX9_greater : MethodName := ⟨RX9, "greater", "(II)I"⟩
abbrev cX9_told : ByteArray := prog_11_method_5_code
def yX9_told : MethodName := ⟨RX9, "told", "(JJI)J"⟩
abbrev cX9_isWhich : ByteArray := prog_11_method_6_code
def yX9_isWhich : MethodName := ⟨RX9, "isWhich", "(I)Z"⟩
abbrev cX9_refused : ByteArray := prog_11_method_7_code
def yX9_refused : MethodName := ⟨RX9, "refused", "(I)I"⟩
abbrev cX9_failed : ByteArray := prog_11_method_8_code
def yX9_failed : MethodName := ⟨RX9, "failed", "(I)I"⟩
abbrev cX9_failedLong : ByteArray := prog_11_method_9_code
def yX9_failedLong : MethodName := ⟨RX9, "failedLong", "(I)J"⟩
abbrev cX9_barred : ByteArray := prog_11_method_10_code
def yX9_barred : MethodName := ⟨RX9, "barred", "(IIIJ)I"⟩
abbrev cX9_noSort : ByteArray := prog_11_method_11_code
def yX9_noSort : MethodName := ⟨RX9, "noSort", "(I)Z"⟩
abbrev cX9_noHour : ByteArray := prog_11_method_12_code
def yX9_noHour : MethodName := ⟨RX9, "noHour", "(I)Z"⟩
abbrev cX9_takes : ByteArray := prog_11_method_13_code
def yX9_takes : MethodName := ⟨RX9, "takes", "(III)Z"⟩
abbrev cX9_readsFigure : ByteArray := prog_11_method_14_code
def yX9_readsFigure : MethodName := ⟨RX9, "readsFigure", "(IIII)Z"⟩
abbrev cX9_readsSort : ByteArray := prog_11_method_15_code
def yX9_readsSort : MethodName := ⟨RX9, "readsSort", "(II)Z"⟩
abbrev cX9_readsStall : ByteArray := prog_11_method_16_code
def yX9_readsStall : MethodName := ⟨RX9, "readsStall", "(II)Z"⟩
abbrev cX9_stall : ByteArray := prog_11_method_17_code
def yX9_stall : MethodName := ⟨RX9, "stall", "(IIII)I"⟩
abbrev cX9_ofSort : ByteArray := prog_11_method_18_code
def yX9_ofSort : MethodName := ⟨RX9, "ofSort", "(II)I"⟩
abbrev cX9_freshAt : ByteArray := prog_11_method_19_code
def yX9_freshAt : MethodName := ⟨RX9, "freshAt", "(II)I"⟩
abbrev cX9_fresh : ByteArray := prog_11_method_20_code
def yX9_fresh : MethodName := ⟨RX9, "fresh", "(II)I"⟩
abbrev cX9_fish : ByteArray := prog_11_method_21_code
def yX9_fish : MethodName := ⟨RX9, "fish", "(II)I"⟩
abbrev cX9_priceOf : ByteArray := prog_11_method_22_code
def yX9_priceOf : MethodName := ⟨RX9, "priceOf", "(II)I"⟩
abbrev cX9_isPrice : ByteArray := prog_11_method_23_code
def yX9_isPrice : MethodName := ⟨RX9, "isPrice", "(I)Z"⟩
abbrev cX9_slate : ByteArray := prog_11_method_24_code
def yX9_slate : MethodName := ⟨RX9, "slate", "(II)I"⟩
abbrev cX9_write : ByteArray := prog_11_method_25_code
def yX9_write : MethodName := ⟨RX9, "write", "(III)I"⟩
abbrev cX9_copyOut : ByteArray := prog_11_method_26_code
def yX9_copyOut : MethodName := ⟨RX9, "copyOut", "(IIIII)I"⟩
abbrev cX9_soup : ByteArray := prog_11_method_27_code
def yX9_soup : MethodName := ⟨RX9, "soup", "(I)I"⟩
abbrev cX9_beside : ByteArray := prog_11_method_28_code
def yX9_beside : MethodName := ⟨RX9, "beside", "(Z)I"⟩
abbrev cX9_noBuyer : ByteArray := prog_11_method_29_code
def yX9_noBuyer : MethodName := ⟨RX9, "noBuyer", "(I)Z"⟩
abbrev cX9_buyer : ByteArray := prog_11_method_30_code
def yX9_buyer : MethodName := ⟨RX9, "buyer", "(IIII)I"⟩
abbrev cX9_ofBuyer : ByteArray := prog_11_method_31_code
def yX9_ofBuyer : MethodName := ⟨RX9, "ofBuyer", "(II)I"⟩
abbrev cX9_layAll : ByteArray := prog_11_method_32_code
def yX9_layAll : MethodName := ⟨RX9, "layAll", "()V"⟩
abbrev cX9_hasDearer : ByteArray := prog_11_method_33_code
def yX9_hasDearer : MethodName := ⟨RX9, "hasDearer", "(II)Z"⟩
abbrev cX9_worthOf : ByteArray := prog_11_method_34_code
def yX9_worthOf : MethodName := ⟨RX9, "worthOf", "(III)I"⟩
abbrev cX9_worth : ByteArray := prog_11_method_35_code
def yX9_worth : MethodName := ⟨RX9, "worth", "(III)I"⟩
abbrev cX9_gainOf : ByteArray := prog_11_method_36_code
def yX9_gainOf : MethodName := ⟨RX9, "gainOf", "(III)I"⟩
abbrev cX9_isCheaperNext : ByteArray := prog_11_method_37_code
def yX9_isCheaperNext : MethodName := ⟨RX9, "isCheaperNext", "(II)Z"⟩
abbrev cX9_wanted : ByteArray := prog_11_method_38_code
def yX9_wanted : MethodName := ⟨RX9, "wanted", "(II)I"⟩
abbrev cX9_sell : ByteArray := prog_11_method_39_code
def yX9_sell : MethodName := ⟨RX9, "sell", "(III)V"⟩
abbrev cX9_comes : ByteArray := prog_11_method_40_code
def yX9_comes : MethodName := ⟨RX9, "comes", "(II)V"⟩
abbrev cX9_goThrough : ByteArray := prog_11_method_41_code
def yX9_goThrough : MethodName := ⟨RX9, "goThrough", "(III)V"⟩
abbrev cX9_left : ByteArray := prog_11_method_42_code
def yX9_left : MethodName := ⟨RX9, "left", "()I"⟩
abbrev cX9_allFish : ByteArray := prog_11_method_43_code
def yX9_allFish : MethodName := ⟨RX9, "allFish", "()I"⟩
abbrev cX9_profitOf : ByteArray := prog_11_method_44_code
def yX9_profitOf : MethodName := ⟨RX9, "profitOf", "()I"⟩
abbrev cX9_profit : ByteArray := prog_11_method_45_code
def yX9_profit : MethodName := ⟨RX9, "profit", "()I"⟩
abbrev cX9_day : ByteArray := prog_11_method_46_code
def yX9_day : MethodName := ⟨RX9, "day", "(I)I"⟩
abbrev cX9_bought : ByteArray := prog_11_method_47_code
def yX9_bought : MethodName := ⟨RX9, "bought", "(II)I"⟩
abbrev cX9_sold : ByteArray := prog_11_method_48_code
def yX9_sold : MethodName := ⟨RX9, "sold", "(II)I"⟩
abbrev cX9_best : ByteArray := prog_11_method_49_code
def yX9_best : MethodName := ⟨RX9, "best", "(III)I"⟩
abbrev cX9_takeOff : ByteArray := prog_11_method_50_code
def yX9_takeOff : MethodName := ⟨RX9, "takeOff", "(I)I"⟩
abbrev cX9_layFish : ByteArray := prog_11_method_51_code
def yX9_layFish : MethodName := ⟨RX9, "layFish", "(I)V"⟩
abbrev cX9_fetch : ByteArray := prog_11_method_52_code
def yX9_fetch : MethodName := ⟨RX9, "fetch", "(I)I"⟩
abbrev cX9_carried : ByteArray := prog_11_method_53_code
def yX9_carried : MethodName := ⟨RX9, "carried", "(I)I"⟩
abbrev cX9_cook : ByteArray := prog_11_method_54_code
def yX9_cook : MethodName := ⟨RX9, "cook", "(III)I"⟩
abbrev cX9_isMoney : ByteArray := prog_11_method_55_code
def yX9_isMoney : MethodName := ⟨RX9, "isMoney", "(III)Z"⟩
abbrev cX9_weightsOf : ByteArray := prog_11_method_56_code
def yX9_weightsOf : MethodName := ⟨RX9, "weightsOf", "(II)I"⟩
abbrev cX9_hadBy : ByteArray := prog_11_method_57_code
def yX9_hadBy : MethodName := ⟨RX9, "hadBy", "(IIIIII)J"⟩
abbrev cX9_mean : ByteArray := prog_11_method_58_code
def yX9_mean : MethodName := ⟨RX9, "mean", "(IIIIIIIII)J"⟩
abbrev cX9_howMany : ByteArray := prog_11_method_59_code
def yX9_howMany : MethodName := ⟨RX9, "howMany", "(IIIIIII)I"⟩
abbrev cX9_right : ByteArray := prog_11_method_60_code
def yX9_right : MethodName := ⟨RX9, "right", "(III)J"⟩
abbrev cX9_takesGame : ByteArray := prog_11_method_61_code
def yX9_takesGame : MethodName := ⟨RX9, "takesGame", "(I)Z"⟩
abbrev cX9_rests : ByteArray := prog_11_method_62_code
def yX9_rests : MethodName := ⟨RX9, "rests", "(III)I"⟩
abbrev cX9_mixes : ByteArray := prog_11_method_63_code
def yX9_mixes : MethodName := ⟨RX9, "mixes", "(II)Z"⟩
abbrev cX9_mixed : ByteArray := prog_11_method_64_code
def yX9_mixed : MethodName := ⟨RX9, "mixed", "(IIIII)J"⟩
abbrev cX9_noSheet : ByteArray := prog_11_method_65_code
def yX9_noSheet : MethodName := ⟨RX9, "noSheet", "(I)Z"⟩
abbrev cX9_sheet : ByteArray := prog_11_method_66_code
def yX9_sheet : MethodName := ⟨RX9, "sheet", "(III)I"⟩
abbrev cX9_lose : ByteArray := prog_11_method_67_code
def yX9_lose : MethodName := ⟨RX9, "lose", "(I)I"⟩
abbrev cX9_noCell : ByteArray := prog_11_method_68_code
def yX9_noCell : MethodName := ⟨RX9, "noCell", "(II)I"⟩
abbrev cX9_put : ByteArray := prog_11_method_69_code
def yX9_put : MethodName := ⟨RX9, "put", "(III)I"⟩
abbrev cX9_cell : ByteArray := prog_11_method_70_code
def yX9_cell : MethodName := ⟨RX9, "cell", "(III)J"⟩
abbrev cX9_isBeyond : ByteArray := prog_11_method_71_code
def yX9_isBeyond : MethodName := ⟨RX9, "isBeyond", "(IJI)Z"⟩
abbrev cX9_copy : ByteArray := prog_11_method_72_code
def yX9_copy : MethodName := ⟨RX9, "copy", "(IIIII)I"⟩
abbrev cX9_traced : ByteArray := prog_11_method_73_code
def yX9_traced : MethodName := ⟨RX9, "traced", "(I)V"⟩
abbrev cX9_tell : ByteArray := prog_11_method_74_code
def yX9_tell : MethodName := ⟨RX9, "tell", "(I)I"⟩
abbrev cX9_greet : ByteArray := prog_11_method_75_code
def yX9_greet : MethodName := ⟨RX9, "greet", "(I)I"⟩
abbrev cX9_as : ByteArray := prog_11_method_76_code
def yX9_as : MethodName := ⟨RX9, "as", "(II)I"⟩
abbrev cX9_trace : ByteArray := prog_11_method_77_code
def yX9_trace : MethodName := ⟨RX9, "trace", "()I"⟩
abbrev cX9_fault : ByteArray := prog_11_method_78_code
def yX9_fault : MethodName := ⟨RX9, "fault", "()I"⟩
abbrev cX9_many : ByteArray := prog_11_method_79_code
def yX9_many : MethodName := ⟨RX9, "many", "(I)I"⟩
def RL : String := "IceSlabLaw"
abbrev cL_law : ByteArray := code
def yL_law : MethodName := ⟨RL, "law", "([I)Z"⟩
abbrev vwCl : List vw_C := [(RX0, TX0, 5), (RX1, TX1, 13), (RX2, TX2, 2), (RX3, TX3, 3), (RX4, TX4, 7), (RX5, TX5, 3), (RX6, TX6, 9), (RX8, TX8, 7), (RX9, TX9, 39)]
end
section
theorem dX0_init_0 : decode cX0_init 0 = .ok (.aload_n 0, 1) := by decide +kernel
theorem dX0_init_1 : decode cX0_init 1 = .ok (.invokespecial 3, 3) := by decide +kernel
theorem dX0_init_4 : decode cX0_init 4 = .ok (.aload_n 0, 1) := by decide +kernel
theorem dX0_init_5 : decode cX0_init 5 = .ok (.bipush 10, 2) := by decide +kernel
theorem dX0_init_7 : decode cX0_init 7 = .ok (.newarray .int, 2) := by decide +kernel
theorem dX0_init_9 : decode cX0_init 9 = .ok (.putfield 9, 3) := by decide +kernel
theorem dX0_init_12 : decode cX0_init 12 = .ok (.aload_n 0, 1) := by decide +kernel
theorem dX0_init_13 : decode cX0_init 13 = .ok (.bipush 10, 2) := by decide +kernel
theorem dX0_init_15 : decode cX0_init 15 = .ok (.newarray .int, 2) := by decide +kernel
theorem dX0_init_17 : decode cX0_init 17 = .ok (.putfield 15, 3) := by decide +kernel
theorem dX0_init_20 : decode cX0_init 20 = .ok (.aload_n 0, 1) := by decide +kernel
theorem dX0_init_21 : decode cX0_init 21 = .ok (.bipush 10, 2) := by decide +kernel
theorem dX0_init_23 : decode cX0_init 23 = .ok (.newarray .int, 2) := by decide +kernel
theorem dX0_init_25 : decode cX0_init 25 = .ok (.putfield 18, 3) := by decide +kernel
theorem dX0_init_28 : decode cX0_init 28 = .ok (.aload_n 0, 1) := by decide +kernel
theorem dX0_init_29 : decode cX0_init 29 = .ok (.bipush 10, 2) := by decide +kernel
theorem dX0_init_31 : decode cX0_init 31 = .ok (.newarray .int, 2) := by decide +kernel
theorem dX0_init_33 : decode cX0_init 33 = .ok (.putfield 21, 3) := by decide +kernel
theorem dX0_init_36 : decode cX0_init 36 = .ok (.return_, 1) := by decide +kernel
theorem dX0_has_0 : decode cX0_has 0 = .ok (.iload_n 1, 1) := by decide +kernel
theorem dX0_has_1 : decode cX0_has 1 = .ok (.ifCond .lt 15, 3) := by decide +kernel
theorem dX0_has_4 : decode cX0_has 4 = .ok (.iload_n 1, 1) := by decide +kernel
theorem dX0_has_5 : decode cX0_has 5 = .ok (.aload_n 0, 1) := by decide +kernel
theorem dX0_has_6 : decode cX0_has 6 = .ok (.getfield 24, 3) := by decide +kernel
theorem dX0_has_9 : decode cX0_has 9 = .ok (.if_icmp .ge 7, 3) := by decide +kernel
theorem dX0_has_12 : decode cX0_has 12 = .ok (.iconst 1, 1) := by decide +kernel
theorem dX0_has_13 : decode cX0_has 13 = .ok (.goto 4, 3) := by decide +kernel
theorem dX0_has_16 : decode cX0_has 16 = .ok (.iconst 0, 1) := by decide +kernel
theorem dX0_has_17 : decode cX0_has 17 = .ok (.ireturn, 1) := by decide +kernel
theorem dX0_add_0 : decode cX0_add 0 = .ok (.aload_n 0, 1) := by decide +kernel
theorem dX0_add_1 : decode cX0_add 1 = .ok (.getfield 24, 3) := by decide +kernel
theorem dX0_add_4 : decode cX0_add 4 = .ok (.istore 5, 2) := by decide +kernel
theorem dX0_add_6 : decode cX0_add 6 = .ok (.aload_n 0, 1) := by decide +kernel
theorem dX0_add_7 : decode cX0_add 7 = .ok (.getfield 9, 3) := by decide +kernel
theorem dX0_add_10 : decode cX0_add 10 = .ok (.iload 5, 2) := by decide +kernel
theorem dX0_add_12 : decode cX0_add 12 = .ok (.iload_n 1, 1) := by decide +kernel
theorem dX0_add_13 : decode cX0_add 13 = .ok (.iastore, 1) := by decide +kernel
theorem dX0_add_14 : decode cX0_add 14 = .ok (.aload_n 0, 1) := by decide +kernel
theorem dX0_add_15 : decode cX0_add 15 = .ok (.getfield 15, 3) := by decide +kernel
theorem dX0_add_18 : decode cX0_add 18 = .ok (.iload 5, 2) := by decide +kernel
theorem dX0_add_20 : decode cX0_add 20 = .ok (.iload_n 2, 1) := by decide +kernel
theorem dX0_add_21 : decode cX0_add 21 = .ok (.iastore, 1) := by decide +kernel
theorem dX0_add_22 : decode cX0_add 22 = .ok (.aload_n 0, 1) := by decide +kernel
theorem dX0_add_23 : decode cX0_add 23 = .ok (.getfield 18, 3) := by decide +kernel
theorem dX0_add_26 : decode cX0_add 26 = .ok (.iload 5, 2) := by decide +kernel
theorem dX0_add_28 : decode cX0_add 28 = .ok (.iload_n 3, 1) := by decide +kernel
theorem dX0_add_29 : decode cX0_add 29 = .ok (.iastore, 1) := by decide +kernel
theorem dX0_add_30 : decode cX0_add 30 = .ok (.aload_n 0, 1) := by decide +kernel
theorem dX0_add_31 : decode cX0_add 31 = .ok (.getfield 21, 3) := by decide +kernel
theorem dX0_add_34 : decode cX0_add 34 = .ok (.iload 5, 2) := by decide +kernel
theorem dX0_add_36 : decode cX0_add 36 = .ok (.iload 4, 2) := by decide +kernel
theorem dX0_add_38 : decode cX0_add 38 = .ok (.iastore, 1) := by decide +kernel
theorem dX0_add_39 : decode cX0_add 39 = .ok (.aload_n 0, 1) := by decide +kernel
theorem dX0_add_40 : decode cX0_add 40 = .ok (.iload 5, 2) := by decide +kernel
theorem dX0_add_42 : decode cX0_add 42 = .ok (.iconst 1, 1) := by decide +kernel
theorem dX0_add_43 : decode cX0_add 43 = .ok (.iadd, 1) := by decide +kernel
theorem dX0_add_44 : decode cX0_add 44 = .ok (.putfield 24, 3) := by decide +kernel
theorem dX0_add_47 : decode cX0_add 47 = .ok (.iload 5, 2) := by decide +kernel
theorem dX0_add_49 : decode cX0_add 49 = .ok (.ireturn, 1) := by decide +kernel
theorem dX0_become_0 : decode cX0_become 0 = .ok (.aload_n 0, 1) := by decide +kernel
theorem dX0_become_1 : decode cX0_become 1 = .ok (.aload_n 1, 1) := by decide +kernel
theorem dX0_become_2 : decode cX0_become 2 = .ok (.getfield 24, 3) := by decide +kernel
theorem dX0_become_5 : decode cX0_become 5 = .ok (.putfield 24, 3) := by decide +kernel
theorem dX0_become_8 : decode cX0_become 8 = .ok (.aload_n 1, 1) := by decide +kernel
theorem dX0_become_9 : decode cX0_become 9 = .ok (.getfield 9, 3) := by decide +kernel
theorem dX0_become_12 : decode cX0_become 12 = .ok (.iconst 0, 1) := by decide +kernel
theorem dX0_become_13 : decode cX0_become 13 = .ok (.aload_n 0, 1) := by decide +kernel
theorem dX0_become_14 : decode cX0_become 14 = .ok (.getfield 9, 3) := by decide +kernel
theorem dX0_become_17 : decode cX0_become 17 = .ok (.iconst 0, 1) := by decide +kernel
theorem dX0_become_18 : decode cX0_become 18 = .ok (.bipush 10, 2) := by decide +kernel
theorem dX0_become_20 : decode cX0_become 20 = .ok (.invokestatic 28, 3) := by decide +kernel
theorem dX0_become_23 : decode cX0_become 23 = .ok (.aload_n 1, 1) := by decide +kernel
theorem dX0_become_24 : decode cX0_become 24 = .ok (.getfield 15, 3) := by decide +kernel
theorem dX0_become_27 : decode cX0_become 27 = .ok (.iconst 0, 1) := by decide +kernel
theorem dX0_become_28 : decode cX0_become 28 = .ok (.aload_n 0, 1) := by decide +kernel
theorem dX0_become_29 : decode cX0_become 29 = .ok (.getfield 15, 3) := by decide +kernel
theorem dX0_become_32 : decode cX0_become 32 = .ok (.iconst 0, 1) := by decide +kernel
theorem dX0_become_33 : decode cX0_become 33 = .ok (.bipush 10, 2) := by decide +kernel
theorem dX0_become_35 : decode cX0_become 35 = .ok (.invokestatic 28, 3) := by decide +kernel
theorem dX0_become_38 : decode cX0_become 38 = .ok (.aload_n 1, 1) := by decide +kernel
theorem dX0_become_39 : decode cX0_become 39 = .ok (.getfield 18, 3) := by decide +kernel
theorem dX0_become_42 : decode cX0_become 42 = .ok (.iconst 0, 1) := by decide +kernel
theorem dX0_become_43 : decode cX0_become 43 = .ok (.aload_n 0, 1) := by decide +kernel
theorem dX0_become_44 : decode cX0_become 44 = .ok (.getfield 18, 3) := by decide +kernel
theorem dX0_become_47 : decode cX0_become 47 = .ok (.iconst 0, 1) := by decide +kernel
theorem dX0_become_48 : decode cX0_become 48 = .ok (.bipush 10, 2) := by decide +kernel
theorem dX0_become_50 : decode cX0_become 50 = .ok (.invokestatic 28, 3) := by decide +kernel
theorem dX0_become_53 : decode cX0_become 53 = .ok (.aload_n 1, 1) := by decide +kernel
theorem dX0_become_54 : decode cX0_become 54 = .ok (.getfield 21, 3) := by decide +kernel
theorem dX0_become_57 : decode cX0_become 57 = .ok (.iconst 0, 1) := by decide +kernel
theorem dX0_become_58 : decode cX0_become 58 = .ok (.aload_n 0, 1) := by decide +kernel
theorem dX0_become_59 : decode cX0_become 59 = .ok (.getfield 21, 3) := by decide +kernel
theorem dX0_become_62 : decode cX0_become 62 = .ok (.iconst 0, 1) := by decide +kernel
theorem dX0_become_63 : decode cX0_become 63 = .ok (.bipush 10, 2) := by decide +kernel
theorem dX0_become_65 : decode cX0_become 65 = .ok (.invokestatic 28, 3) := by decide +kernel
theorem dX0_become_68 : decode cX0_become 68 = .ok (.return_, 1) := by decide +kernel
theorem dX1_init_0 : decode cX1_init 0 = .ok (.aload_n 0, 1) := by decide +kernel
theorem dX1_init_1 : decode cX1_init 1 = .ok (.invokespecial 3, 3) := by decide +kernel
theorem dX1_init_4 : decode cX1_init 4 = .ok (.aload_n 0, 1) := by decide +kernel
theorem dX1_init_5 : decode cX1_init 5 = .ok (.new 9, 3) := by decide +kernel
theorem dX1_init_8 : decode cX1_init 8 = .ok (.dup, 1) := by decide +kernel
theorem dX1_init_9 : decode cX1_init 9 = .ok (.invokespecial 11, 3) := by decide +kernel
theorem dX1_init_12 : decode cX1_init 12 = .ok (.putfield 12, 3) := by decide +kernel
theorem dX1_init_15 : decode cX1_init 15 = .ok (.aload_n 0, 1) := by decide +kernel
theorem dX1_init_16 : decode cX1_init 16 = .ok (.new 18, 3) := by decide +kernel
theorem dX1_init_19 : decode cX1_init 19 = .ok (.dup, 1) := by decide +kernel
theorem dX1_init_20 : decode cX1_init 20 = .ok (.invokespecial 20, 3) := by decide +kernel
theorem dX1_init_23 : decode cX1_init 23 = .ok (.putfield 21, 3) := by decide +kernel
theorem dX1_init_26 : decode cX1_init 26 = .ok (.aload_n 0, 1) := by decide +kernel
theorem dX1_init_27 : decode cX1_init 27 = .ok (.iconst 4, 1) := by decide +kernel
theorem dX1_init_28 : decode cX1_init 28 = .ok (.newarray .int, 2) := by decide +kernel
theorem dX1_init_30 : decode cX1_init 30 = .ok (.putfield 25, 3) := by decide +kernel
theorem dX1_init_33 : decode cX1_init 33 = .ok (.aload_n 0, 1) := by decide +kernel
theorem dX1_init_34 : decode cX1_init 34 = .ok (.iconst 4, 1) := by decide +kernel
theorem dX1_init_35 : decode cX1_init 35 = .ok (.newarray .int, 2) := by decide +kernel
theorem dX1_init_37 : decode cX1_init 37 = .ok (.putfield 29, 3) := by decide +kernel
theorem dX1_init_40 : decode cX1_init 40 = .ok (.aload_n 0, 1) := by decide +kernel
theorem dX1_init_41 : decode cX1_init 41 = .ok (.iconst 4, 1) := by decide +kernel
theorem dX1_init_42 : decode cX1_init 42 = .ok (.newarray .int, 2) := by decide +kernel
theorem dX1_init_44 : decode cX1_init 44 = .ok (.putfield 32, 3) := by decide +kernel
theorem dX1_init_47 : decode cX1_init 47 = .ok (.aload_n 0, 1) := by decide +kernel
theorem dX1_init_48 : decode cX1_init 48 = .ok (.bipush 10, 2) := by decide +kernel
theorem dX1_init_50 : decode cX1_init 50 = .ok (.newarray .int, 2) := by decide +kernel
theorem dX1_init_52 : decode cX1_init 52 = .ok (.putfield 35, 3) := by decide +kernel
theorem dX1_init_55 : decode cX1_init 55 = .ok (.aload_n 0, 1) := by decide +kernel
theorem dX1_init_56 : decode cX1_init 56 = .ok (.bipush 10, 2) := by decide +kernel
theorem dX1_init_58 : decode cX1_init 58 = .ok (.newarray .int, 2) := by decide +kernel
theorem dX1_init_60 : decode cX1_init 60 = .ok (.putfield 38, 3) := by decide +kernel
theorem dX1_init_63 : decode cX1_init 63 = .ok (.aload_n 0, 1) := by decide +kernel
theorem dX1_init_64 : decode cX1_init 64 = .ok (.bipush 10, 2) := by decide +kernel
theorem dX1_init_66 : decode cX1_init 66 = .ok (.newarray .int, 2) := by decide +kernel
theorem dX1_init_68 : decode cX1_init 68 = .ok (.putfield 41, 3) := by decide +kernel
theorem dX1_init_71 : decode cX1_init 71 = .ok (.aload_n 0, 1) := by decide +kernel
theorem dX1_init_72 : decode cX1_init 72 = .ok (.bipush 10, 2) := by decide +kernel
theorem dX1_init_74 : decode cX1_init 74 = .ok (.newarray .int, 2) := by decide +kernel
theorem dX1_init_76 : decode cX1_init 76 = .ok (.putfield 44, 3) := by decide +kernel
theorem dX1_init_79 : decode cX1_init 79 = .ok (.aload_n 0, 1) := by decide +kernel
theorem dX1_init_80 : decode cX1_init 80 = .ok (.bipush (-9), 2) := by decide +kernel
theorem dX1_init_82 : decode cX1_init 82 = .ok (.putfield 47, 3) := by decide +kernel
theorem dX1_init_85 : decode cX1_init 85 = .ok (.return_, 1) := by decide +kernel
theorem dX1_become_0 : decode cX1_become 0 = .ok (.aload_n 0, 1) := by decide +kernel
theorem dX1_become_1 : decode cX1_become 1 = .ok (.getfield 12, 3) := by decide +kernel
theorem dX1_become_4 : decode cX1_become 4 = .ok (.aload_n 1, 1) := by decide +kernel
theorem dX1_become_5 : decode cX1_become 5 = .ok (.getfield 12, 3) := by decide +kernel
theorem dX1_become_8 : decode cX1_become 8 = .ok (.invokevirtual 51, 3) := by decide +kernel
theorem dX1_become_11 : decode cX1_become 11 = .ok (.aload_n 0, 1) := by decide +kernel
theorem dX1_become_12 : decode cX1_become 12 = .ok (.getfield 21, 3) := by decide +kernel
theorem dX1_become_15 : decode cX1_become 15 = .ok (.aload_n 1, 1) := by decide +kernel
theorem dX1_become_16 : decode cX1_become 16 = .ok (.getfield 21, 3) := by decide +kernel
theorem dX1_become_19 : decode cX1_become 19 = .ok (.invokevirtual 55, 3) := by decide +kernel
theorem dX1_become_22 : decode cX1_become 22 = .ok (.aload_n 0, 1) := by decide +kernel
theorem dX1_become_23 : decode cX1_become 23 = .ok (.bipush (-9), 2) := by decide +kernel
theorem dX1_become_25 : decode cX1_become 25 = .ok (.putfield 47, 3) := by decide +kernel
theorem dX1_become_28 : decode cX1_become 28 = .ok (.return_, 1) := by decide +kernel
theorem dX1_awaitCook_0 : decode cX1_awaitCook 0 = .ok (.aload_n 0, 1) := by decide +kernel
theorem dX1_awaitCook_1 : decode cX1_awaitCook 1 = .ok (.iload_n 1, 1) := by decide +kernel
theorem dX1_awaitCook_2 : decode cX1_awaitCook 2 = .ok (.putfield 58, 3) := by decide +kernel
theorem dX1_awaitCook_5 : decode cX1_awaitCook 5 = .ok (.aload_n 0, 1) := by decide +kernel
theorem dX1_awaitCook_6 : decode cX1_awaitCook 6 = .ok (.iload_n 2, 1) := by decide +kernel
theorem dX1_awaitCook_7 : decode cX1_awaitCook 7 = .ok (.putfield 47, 3) := by decide +kernel
theorem dX1_awaitCook_10 : decode cX1_awaitCook 10 = .ok (.aload_n 0, 1) := by decide +kernel
theorem dX1_awaitCook_11 : decode cX1_awaitCook 11 = .ok (.iload_n 3, 1) := by decide +kernel
theorem dX1_awaitCook_12 : decode cX1_awaitCook 12 = .ok (.putfield 61, 3) := by decide +kernel
theorem dX1_awaitCook_15 : decode cX1_awaitCook 15 = .ok (.return_, 1) := by decide +kernel
theorem dX1_open_0 : decode cX1_open 0 = .ok (.aload_n 0, 1) := by decide +kernel
theorem dX1_open_1 : decode cX1_open 1 = .ok (.iconst 0, 1) := by decide +kernel
theorem dX1_open_2 : decode cX1_open 2 = .ok (.putfield 64, 3) := by decide +kernel
theorem dX1_open_5 : decode cX1_open 5 = .ok (.iconst 0, 1) := by decide +kernel
theorem dX1_open_6 : decode cX1_open 6 = .ok (.istore_n 1, 1) := by decide +kernel
theorem dX1_open_7 : decode cX1_open 7 = .ok (.iload_n 1, 1) := by decide +kernel
theorem dX1_open_8 : decode cX1_open 8 = .ok (.aload_n 0, 1) := by decide +kernel
theorem dX1_open_9 : decode cX1_open 9 = .ok (.getfield 12, 3) := by decide +kernel
theorem dX1_open_12 : decode cX1_open 12 = .ok (.getfield 67, 3) := by decide +kernel
theorem dX1_open_15 : decode cX1_open 15 = .ok (.if_icmp .ge 39, 3) := by decide +kernel
theorem dX1_open_18 : decode cX1_open 18 = .ok (.aload_n 0, 1) := by decide +kernel
theorem dX1_open_19 : decode cX1_open 19 = .ok (.getfield 25, 3) := by decide +kernel
theorem dX1_open_22 : decode cX1_open 22 = .ok (.iload_n 1, 1) := by decide +kernel
theorem dX1_open_23 : decode cX1_open 23 = .ok (.aload_n 0, 1) := by decide +kernel
theorem dX1_open_24 : decode cX1_open 24 = .ok (.getfield 12, 3) := by decide +kernel
theorem dX1_open_27 : decode cX1_open 27 = .ok (.getfield 70, 3) := by decide +kernel
theorem dX1_open_30 : decode cX1_open 30 = .ok (.iload_n 1, 1) := by decide +kernel
theorem dX1_open_31 : decode cX1_open 31 = .ok (.iaload, 1) := by decide +kernel
theorem dX1_open_32 : decode cX1_open 32 = .ok (.iastore, 1) := by decide +kernel
theorem dX1_open_33 : decode cX1_open 33 = .ok (.aload_n 0, 1) := by decide +kernel
theorem dX1_open_34 : decode cX1_open 34 = .ok (.getfield 29, 3) := by decide +kernel
theorem dX1_open_37 : decode cX1_open 37 = .ok (.iload_n 1, 1) := by decide +kernel
theorem dX1_open_38 : decode cX1_open 38 = .ok (.bipush (-9), 2) := by decide +kernel
theorem dX1_open_40 : decode cX1_open 40 = .ok (.iastore, 1) := by decide +kernel
theorem dX1_open_41 : decode cX1_open 41 = .ok (.aload_n 0, 1) := by decide +kernel
theorem dX1_open_42 : decode cX1_open 42 = .ok (.getfield 32, 3) := by decide +kernel
theorem dX1_open_45 : decode cX1_open 45 = .ok (.iload_n 1, 1) := by decide +kernel
theorem dX1_open_46 : decode cX1_open 46 = .ok (.iconst 0, 1) := by decide +kernel
theorem dX1_open_47 : decode cX1_open 47 = .ok (.iastore, 1) := by decide +kernel
theorem dX1_open_48 : decode cX1_open 48 = .ok (.iinc 1 1, 3) := by decide +kernel
theorem dX1_open_51 : decode cX1_open 51 = .ok (.goto (-44), 3) := by decide +kernel
theorem dX1_open_54 : decode cX1_open 54 = .ok (.iconst 0, 1) := by decide +kernel
theorem dX1_open_55 : decode cX1_open 55 = .ok (.istore_n 1, 1) := by decide +kernel
theorem dX1_open_56 : decode cX1_open 56 = .ok (.iload_n 1, 1) := by decide +kernel
theorem dX1_open_57 : decode cX1_open 57 = .ok (.aload_n 0, 1) := by decide +kernel
theorem dX1_open_58 : decode cX1_open 58 = .ok (.getfield 21, 3) := by decide +kernel
theorem dX1_open_61 : decode cX1_open 61 = .ok (.getfield 73, 3) := by decide +kernel
theorem dX1_open_64 : decode cX1_open 64 = .ok (.if_icmp .ge 40, 3) := by decide +kernel
theorem dX1_open_67 : decode cX1_open 67 = .ok (.aload_n 0, 1) := by decide +kernel
theorem dX1_open_68 : decode cX1_open 68 = .ok (.getfield 35, 3) := by decide +kernel
theorem dX1_open_71 : decode cX1_open 71 = .ok (.iload_n 1, 1) := by decide +kernel
theorem dX1_open_72 : decode cX1_open 72 = .ok (.bipush (-9), 2) := by decide +kernel
theorem dX1_open_74 : decode cX1_open 74 = .ok (.iastore, 1) := by decide +kernel
theorem dX1_open_75 : decode cX1_open 75 = .ok (.aload_n 0, 1) := by decide +kernel
theorem dX1_open_76 : decode cX1_open 76 = .ok (.getfield 38, 3) := by decide +kernel
theorem dX1_open_79 : decode cX1_open 79 = .ok (.iload_n 1, 1) := by decide +kernel
theorem dX1_open_80 : decode cX1_open 80 = .ok (.bipush (-9), 2) := by decide +kernel
theorem dX1_open_82 : decode cX1_open 82 = .ok (.iastore, 1) := by decide +kernel
theorem dX1_open_83 : decode cX1_open 83 = .ok (.aload_n 0, 1) := by decide +kernel
theorem dX1_open_84 : decode cX1_open 84 = .ok (.getfield 41, 3) := by decide +kernel
theorem dX1_open_87 : decode cX1_open 87 = .ok (.iload_n 1, 1) := by decide +kernel
theorem dX1_open_88 : decode cX1_open 88 = .ok (.bipush (-9), 2) := by decide +kernel
theorem dX1_open_90 : decode cX1_open 90 = .ok (.iastore, 1) := by decide +kernel
theorem dX1_open_91 : decode cX1_open 91 = .ok (.aload_n 0, 1) := by decide +kernel
theorem dX1_open_92 : decode cX1_open 92 = .ok (.getfield 44, 3) := by decide +kernel
theorem dX1_open_95 : decode cX1_open 95 = .ok (.iload_n 1, 1) := by decide +kernel
theorem dX1_open_96 : decode cX1_open 96 = .ok (.iconst 0, 1) := by decide +kernel
theorem dX1_open_97 : decode cX1_open 97 = .ok (.iastore, 1) := by decide +kernel
theorem dX1_open_98 : decode cX1_open 98 = .ok (.iinc 1 1, 3) := by decide +kernel
theorem dX1_open_101 : decode cX1_open 101 = .ok (.goto (-45), 3) := by decide +kernel
theorem dX1_open_104 : decode cX1_open 104 = .ok (.return_, 1) := by decide +kernel
theorem dX1_goThrough_0 : decode cX1_goThrough 0 = .ok (.aload_n 0, 1) := by decide +kernel
theorem dX1_goThrough_1 : decode cX1_goThrough 1 = .ok (.invokevirtual 76, 3) := by decide +kernel
theorem dX1_goThrough_4 : decode cX1_goThrough 4 = .ok (.iconst 0, 1) := by decide +kernel
theorem dX1_goThrough_5 : decode cX1_goThrough 5 = .ok (.istore_n 1, 1) := by decide +kernel
theorem dX1_goThrough_6 : decode cX1_goThrough 6 = .ok (.iload_n 1, 1) := by decide +kernel
theorem dX1_goThrough_7 : decode cX1_goThrough 7 = .ok (.aload_n 0, 1) := by decide +kernel
theorem dX1_goThrough_8 : decode cX1_goThrough 8 = .ok (.getfield 12, 3) := by decide +kernel
theorem dX1_goThrough_11 : decode cX1_goThrough 11 = .ok (.getfield 79, 3) := by decide +kernel
theorem dX1_goThrough_14 : decode cX1_goThrough 14 = .ok (.if_icmp .ge 82, 3) := by decide +kernel
theorem dX1_goThrough_17 : decode cX1_goThrough 17 = .ok (.iload_n 1, 1) := by decide +kernel
theorem dX1_goThrough_18 : decode cX1_goThrough 18 = .ok (.aload_n 0, 1) := by decide +kernel
theorem dX1_goThrough_19 : decode cX1_goThrough 19 = .ok (.getfield 47, 3) := by decide +kernel
theorem dX1_goThrough_22 : decode cX1_goThrough 22 = .ok (.if_icmp .ne 7, 3) := by decide +kernel
theorem dX1_goThrough_25 : decode cX1_goThrough 25 = .ok (.aload_n 0, 1) := by decide +kernel
theorem dX1_goThrough_26 : decode cX1_goThrough 26 = .ok (.invokevirtual 82, 3) := by decide +kernel
theorem dX1_goThrough_29 : decode cX1_goThrough 29 = .ok (.iconst 0, 1) := by decide +kernel
theorem dX1_goThrough_30 : decode cX1_goThrough 30 = .ok (.istore_n 2, 1) := by decide +kernel
theorem dX1_goThrough_31 : decode cX1_goThrough 31 = .ok (.iload_n 2, 1) := by decide +kernel
theorem dX1_goThrough_32 : decode cX1_goThrough 32 = .ok (.aload_n 0, 1) := by decide +kernel
theorem dX1_goThrough_33 : decode cX1_goThrough 33 = .ok (.getfield 21, 3) := by decide +kernel
theorem dX1_goThrough_36 : decode cX1_goThrough 36 = .ok (.getfield 73, 3) := by decide +kernel
theorem dX1_goThrough_39 : decode cX1_goThrough 39 = .ok (.if_icmp .ge 51, 3) := by decide +kernel
theorem dX1_goThrough_42 : decode cX1_goThrough 42 = .ok (.aload_n 0, 1) := by decide +kernel
theorem dX1_goThrough_43 : decode cX1_goThrough 43 = .ok (.iload_n 2, 1) := by decide +kernel
theorem dX1_goThrough_44 : decode cX1_goThrough 44 = .ok (.iload_n 1, 1) := by decide +kernel
theorem dX1_goThrough_45 : decode cX1_goThrough 45 = .ok (.invokevirtual 85, 3) := by decide +kernel
theorem dX1_goThrough_48 : decode cX1_goThrough 48 = .ok (.ifCond .ne 6, 3) := by decide +kernel
theorem dX1_goThrough_51 : decode cX1_goThrough 51 = .ok (.goto 33, 3) := by decide +kernel
theorem dX1_goThrough_54 : decode cX1_goThrough 54 = .ok (.aload_n 0, 1) := by decide +kernel
theorem dX1_goThrough_55 : decode cX1_goThrough 55 = .ok (.getfield 44, 3) := by decide +kernel
theorem dX1_goThrough_58 : decode cX1_goThrough 58 = .ok (.iload_n 2, 1) := by decide +kernel
theorem dX1_goThrough_59 : decode cX1_goThrough 59 = .ok (.dup2, 1) := by decide +kernel
theorem dX1_goThrough_60 : decode cX1_goThrough 60 = .ok (.iaload, 1) := by decide +kernel
theorem dX1_goThrough_61 : decode cX1_goThrough 61 = .ok (.iconst 1, 1) := by decide +kernel
theorem dX1_goThrough_62 : decode cX1_goThrough 62 = .ok (.iadd, 1) := by decide +kernel
theorem dX1_goThrough_63 : decode cX1_goThrough 63 = .ok (.iastore, 1) := by decide +kernel
theorem dX1_goThrough_64 : decode cX1_goThrough 64 = .ok (.aload_n 0, 1) := by decide +kernel
theorem dX1_goThrough_65 : decode cX1_goThrough 65 = .ok (.iload_n 2, 1) := by decide +kernel
theorem dX1_goThrough_66 : decode cX1_goThrough 66 = .ok (.iload_n 1, 1) := by decide +kernel
theorem dX1_goThrough_67 : decode cX1_goThrough 67 = .ok (.invokevirtual 89, 3) := by decide +kernel
theorem dX1_goThrough_70 : decode cX1_goThrough 70 = .ok (.istore_n 3, 1) := by decide +kernel
theorem dX1_goThrough_71 : decode cX1_goThrough 71 = .ok (.iload_n 3, 1) := by decide +kernel
theorem dX1_goThrough_72 : decode cX1_goThrough 72 = .ok (.bipush (-9), 2) := by decide +kernel
theorem dX1_goThrough_74 : decode cX1_goThrough 74 = .ok (.if_icmp .eq 10, 3) := by decide +kernel
theorem dX1_goThrough_77 : decode cX1_goThrough 77 = .ok (.aload_n 0, 1) := by decide +kernel
theorem dX1_goThrough_78 : decode cX1_goThrough 78 = .ok (.iload_n 2, 1) := by decide +kernel
theorem dX1_goThrough_79 : decode cX1_goThrough 79 = .ok (.iload_n 3, 1) := by decide +kernel
theorem dX1_goThrough_80 : decode cX1_goThrough 80 = .ok (.iload_n 1, 1) := by decide +kernel
theorem dX1_goThrough_81 : decode cX1_goThrough 81 = .ok (.invokevirtual 93, 3) := by decide +kernel
theorem dX1_goThrough_84 : decode cX1_goThrough 84 = .ok (.iinc 2 1, 3) := by decide +kernel
theorem dX1_goThrough_87 : decode cX1_goThrough 87 = .ok (.goto (-56), 3) := by decide +kernel
theorem dX1_goThrough_90 : decode cX1_goThrough 90 = .ok (.iinc 1 1, 3) := by decide +kernel
theorem dX1_goThrough_93 : decode cX1_goThrough 93 = .ok (.goto (-87), 3) := by decide +kernel
theorem dX1_goThrough_96 : decode cX1_goThrough 96 = .ok (.return_, 1) := by decide +kernel
theorem dX1_allLeft_0 : decode cX1_allLeft 0 = .ok (.iconst 0, 1) := by decide +kernel
theorem dX1_allLeft_1 : decode cX1_allLeft 1 = .ok (.istore_n 1, 1) := by decide +kernel
theorem dX1_allLeft_2 : decode cX1_allLeft 2 = .ok (.iconst 0, 1) := by decide +kernel
theorem dX1_allLeft_3 : decode cX1_allLeft 3 = .ok (.istore_n 2, 1) := by decide +kernel
theorem dX1_allLeft_4 : decode cX1_allLeft 4 = .ok (.iload_n 2, 1) := by decide +kernel
theorem dX1_allLeft_5 : decode cX1_allLeft 5 = .ok (.aload_n 0, 1) := by decide +kernel
theorem dX1_allLeft_6 : decode cX1_allLeft 6 = .ok (.getfield 12, 3) := by decide +kernel
theorem dX1_allLeft_9 : decode cX1_allLeft 9 = .ok (.getfield 67, 3) := by decide +kernel
theorem dX1_allLeft_12 : decode cX1_allLeft 12 = .ok (.if_icmp .ge 18, 3) := by decide +kernel
theorem dX1_allLeft_15 : decode cX1_allLeft 15 = .ok (.iload_n 1, 1) := by decide +kernel
theorem dX1_allLeft_16 : decode cX1_allLeft 16 = .ok (.aload_n 0, 1) := by decide +kernel
theorem dX1_allLeft_17 : decode cX1_allLeft 17 = .ok (.getfield 25, 3) := by decide +kernel
theorem dX1_allLeft_20 : decode cX1_allLeft 20 = .ok (.iload_n 2, 1) := by decide +kernel
theorem dX1_allLeft_21 : decode cX1_allLeft 21 = .ok (.iaload, 1) := by decide +kernel
theorem dX1_allLeft_22 : decode cX1_allLeft 22 = .ok (.iadd, 1) := by decide +kernel
theorem dX1_allLeft_23 : decode cX1_allLeft 23 = .ok (.istore_n 1, 1) := by decide +kernel
theorem dX1_allLeft_24 : decode cX1_allLeft 24 = .ok (.iinc 2 1, 3) := by decide +kernel
theorem dX1_allLeft_27 : decode cX1_allLeft 27 = .ok (.goto (-23), 3) := by decide +kernel
theorem dX1_allLeft_30 : decode cX1_allLeft 30 = .ok (.iload_n 1, 1) := by decide +kernel
theorem dX1_allLeft_31 : decode cX1_allLeft 31 = .ok (.ireturn, 1) := by decide +kernel
theorem dX1_profit_0 : decode cX1_profit 0 = .ok (.aload_n 0, 1) := by decide +kernel
theorem dX1_profit_1 : decode cX1_profit 1 = .ok (.getfield 64, 3) := by decide +kernel
theorem dX1_profit_4 : decode cX1_profit 4 = .ok (.aload_n 0, 1) := by decide +kernel
theorem dX1_profit_5 : decode cX1_profit 5 = .ok (.getfield 12, 3) := by decide +kernel
theorem dX1_profit_8 : decode cX1_profit 8 = .ok (.getfield 97, 3) := by decide +kernel
theorem dX1_profit_11 : decode cX1_profit 11 = .ok (.aload_n 0, 1) := by decide +kernel
theorem dX1_profit_12 : decode cX1_profit 12 = .ok (.invokevirtual 100, 3) := by decide +kernel
theorem dX1_profit_15 : decode cX1_profit 15 = .ok (.imul, 1) := by decide +kernel
theorem dX1_profit_16 : decode cX1_profit 16 = .ok (.iadd, 1) := by decide +kernel
theorem dX1_profit_17 : decode cX1_profit 17 = .ok (.aload_n 0, 1) := by decide +kernel
theorem dX1_profit_18 : decode cX1_profit 18 = .ok (.getfield 12, 3) := by decide +kernel
theorem dX1_profit_21 : decode cX1_profit 21 = .ok (.invokevirtual 104, 3) := by decide +kernel
theorem dX1_profit_24 : decode cX1_profit 24 = .ok (.isub, 1) := by decide +kernel
theorem dX1_profit_25 : decode cX1_profit 25 = .ok (.ireturn, 1) := by decide +kernel
theorem dX1_worthTo_0 : decode cX1_worthTo 0 = .ok (.aload_n 0, 1) := by decide +kernel
theorem dX1_worthTo_1 : decode cX1_worthTo 1 = .ok (.getfield 21, 3) := by decide +kernel
theorem dX1_worthTo_4 : decode cX1_worthTo 4 = .ok (.getfield 107, 3) := by decide +kernel
theorem dX1_worthTo_7 : decode cX1_worthTo 7 = .ok (.iload_n 1, 1) := by decide +kernel
theorem dX1_worthTo_8 : decode cX1_worthTo 8 = .ok (.iaload, 1) := by decide +kernel
theorem dX1_worthTo_9 : decode cX1_worthTo 9 = .ok (.bipush 9, 2) := by decide +kernel
theorem dX1_worthTo_11 : decode cX1_worthTo 11 = .ok (.aload_n 0, 1) := by decide +kernel
theorem dX1_worthTo_12 : decode cX1_worthTo 12 = .ok (.getfield 12, 3) := by decide +kernel
theorem dX1_worthTo_15 : decode cX1_worthTo 15 = .ok (.iload_n 2, 1) := by decide +kernel
theorem dX1_worthTo_16 : decode cX1_worthTo 16 = .ok (.iload_n 3, 1) := by decide +kernel
theorem dX1_worthTo_17 : decode cX1_worthTo 17 = .ok (.invokevirtual 110, 3) := by decide +kernel
theorem dX1_worthTo_20 : decode cX1_worthTo 20 = .ok (.isub, 1) := by decide +kernel
theorem dX1_worthTo_21 : decode cX1_worthTo 21 = .ok (.isub, 1) := by decide +kernel
theorem dX1_worthTo_22 : decode cX1_worthTo 22 = .ok (.istore 4, 2) := by decide +kernel
theorem dX1_worthTo_24 : decode cX1_worthTo 24 = .ok (.iload_n 2, 1) := by decide +kernel
theorem dX1_worthTo_25 : decode cX1_worthTo 25 = .ok (.aload_n 0, 1) := by decide +kernel
theorem dX1_worthTo_26 : decode cX1_worthTo 26 = .ok (.getfield 21, 3) := by decide +kernel
theorem dX1_worthTo_29 : decode cX1_worthTo 29 = .ok (.getfield 113, 3) := by decide +kernel
theorem dX1_worthTo_32 : decode cX1_worthTo 32 = .ok (.iload_n 1, 1) := by decide +kernel
theorem dX1_worthTo_33 : decode cX1_worthTo 33 = .ok (.iaload, 1) := by decide +kernel
theorem dX1_worthTo_34 : decode cX1_worthTo 34 = .ok (.if_icmp .eq 6, 3) := by decide +kernel
theorem dX1_worthTo_37 : decode cX1_worthTo 37 = .ok (.iinc 4 (-2), 3) := by decide +kernel
theorem dX1_worthTo_40 : decode cX1_worthTo 40 = .ok (.aload_n 0, 1) := by decide +kernel
theorem dX1_worthTo_41 : decode cX1_worthTo 41 = .ok (.getfield 12, 3) := by decide +kernel
theorem dX1_worthTo_44 : decode cX1_worthTo 44 = .ok (.getfield 116, 3) := by decide +kernel
theorem dX1_worthTo_47 : decode cX1_worthTo 47 = .ok (.ifCond .eq 15, 3) := by decide +kernel
theorem dX1_worthTo_50 : decode cX1_worthTo 50 = .ok (.aload_n 0, 1) := by decide +kernel
theorem dX1_worthTo_51 : decode cX1_worthTo 51 = .ok (.iload_n 2, 1) := by decide +kernel
theorem dX1_worthTo_52 : decode cX1_worthTo 52 = .ok (.iload_n 3, 1) := by decide +kernel
theorem dX1_worthTo_53 : decode cX1_worthTo 53 = .ok (.invokevirtual 120, 3) := by decide +kernel
theorem dX1_worthTo_56 : decode cX1_worthTo 56 = .ok (.ifCond .eq 6, 3) := by decide +kernel
theorem dX1_worthTo_59 : decode cX1_worthTo 59 = .ok (.iinc 4 1, 3) := by decide +kernel
theorem dX1_worthTo_62 : decode cX1_worthTo 62 = .ok (.iload 4, 2) := by decide +kernel
theorem dX1_worthTo_64 : decode cX1_worthTo 64 = .ok (.ireturn, 1) := by decide +kernel
theorem dX1_liesDearer_0 : decode cX1_liesDearer 0 = .ok (.iconst 0, 1) := by decide +kernel
theorem dX1_liesDearer_1 : decode cX1_liesDearer 1 = .ok (.istore_n 3, 1) := by decide +kernel
theorem dX1_liesDearer_2 : decode cX1_liesDearer 2 = .ok (.iload_n 3, 1) := by decide +kernel
theorem dX1_liesDearer_3 : decode cX1_liesDearer 3 = .ok (.aload_n 0, 1) := by decide +kernel
theorem dX1_liesDearer_4 : decode cX1_liesDearer 4 = .ok (.getfield 12, 3) := by decide +kernel
theorem dX1_liesDearer_7 : decode cX1_liesDearer 7 = .ok (.getfield 67, 3) := by decide +kernel
theorem dX1_liesDearer_10 : decode cX1_liesDearer 10 = .ok (.if_icmp .ge 45, 3) := by decide +kernel
theorem dX1_liesDearer_13 : decode cX1_liesDearer 13 = .ok (.aload_n 0, 1) := by decide +kernel
theorem dX1_liesDearer_14 : decode cX1_liesDearer 14 = .ok (.getfield 25, 3) := by decide +kernel
theorem dX1_liesDearer_17 : decode cX1_liesDearer 17 = .ok (.iload_n 3, 1) := by decide +kernel
theorem dX1_liesDearer_18 : decode cX1_liesDearer 18 = .ok (.iaload, 1) := by decide +kernel
theorem dX1_liesDearer_19 : decode cX1_liesDearer 19 = .ok (.ifCond .le 30, 3) := by decide +kernel
theorem dX1_liesDearer_22 : decode cX1_liesDearer 22 = .ok (.aload_n 0, 1) := by decide +kernel
theorem dX1_liesDearer_23 : decode cX1_liesDearer 23 = .ok (.getfield 12, 3) := by decide +kernel
theorem dX1_liesDearer_26 : decode cX1_liesDearer 26 = .ok (.getfield 123, 3) := by decide +kernel
theorem dX1_liesDearer_29 : decode cX1_liesDearer 29 = .ok (.iload_n 3, 1) := by decide +kernel
theorem dX1_liesDearer_30 : decode cX1_liesDearer 30 = .ok (.aaload, 1) := by decide +kernel
theorem dX1_liesDearer_31 : decode cX1_liesDearer 31 = .ok (.iload_n 2, 1) := by decide +kernel
theorem dX1_liesDearer_32 : decode cX1_liesDearer 32 = .ok (.iaload, 1) := by decide +kernel
theorem dX1_liesDearer_33 : decode cX1_liesDearer 33 = .ok (.aload_n 0, 1) := by decide +kernel
theorem dX1_liesDearer_34 : decode cX1_liesDearer 34 = .ok (.getfield 12, 3) := by decide +kernel
theorem dX1_liesDearer_37 : decode cX1_liesDearer 37 = .ok (.getfield 123, 3) := by decide +kernel
theorem dX1_liesDearer_40 : decode cX1_liesDearer 40 = .ok (.iload_n 1, 1) := by decide +kernel
theorem dX1_liesDearer_41 : decode cX1_liesDearer 41 = .ok (.aaload, 1) := by decide +kernel
theorem dX1_liesDearer_42 : decode cX1_liesDearer 42 = .ok (.iload_n 2, 1) := by decide +kernel
theorem dX1_liesDearer_43 : decode cX1_liesDearer 43 = .ok (.iaload, 1) := by decide +kernel
theorem dX1_liesDearer_44 : decode cX1_liesDearer 44 = .ok (.if_icmp .le 5, 3) := by decide +kernel
theorem dX1_liesDearer_47 : decode cX1_liesDearer 47 = .ok (.iconst 1, 1) := by decide +kernel
theorem dX1_liesDearer_48 : decode cX1_liesDearer 48 = .ok (.ireturn, 1) := by decide +kernel
theorem dX1_liesDearer_49 : decode cX1_liesDearer 49 = .ok (.iinc 3 1, 3) := by decide +kernel
theorem dX1_liesDearer_52 : decode cX1_liesDearer 52 = .ok (.goto (-50), 3) := by decide +kernel
theorem dX1_liesDearer_55 : decode cX1_liesDearer 55 = .ok (.iconst 0, 1) := by decide +kernel
theorem dX1_liesDearer_56 : decode cX1_liesDearer 56 = .ok (.ireturn, 1) := by decide +kernel
theorem dX1_sellAllToCook_0 : decode cX1_sellAllToCook 0 = .ok (.aload_n 0, 1) := by decide +kernel
theorem dX1_sellAllToCook_1 : decode cX1_sellAllToCook 1 = .ok (.dup, 1) := by decide +kernel
theorem dX1_sellAllToCook_2 : decode cX1_sellAllToCook 2 = .ok (.getfield 64, 3) := by decide +kernel
theorem dX1_sellAllToCook_5 : decode cX1_sellAllToCook 5 = .ok (.aload_n 0, 1) := by decide +kernel
theorem dX1_sellAllToCook_6 : decode cX1_sellAllToCook 6 = .ok (.getfield 25, 3) := by decide +kernel
theorem dX1_sellAllToCook_9 : decode cX1_sellAllToCook 9 = .ok (.aload_n 0, 1) := by decide +kernel
theorem dX1_sellAllToCook_10 : decode cX1_sellAllToCook 10 = .ok (.getfield 58, 3) := by decide +kernel
theorem dX1_sellAllToCook_13 : decode cX1_sellAllToCook 13 = .ok (.iaload, 1) := by decide +kernel
theorem dX1_sellAllToCook_14 : decode cX1_sellAllToCook 14 = .ok (.aload_n 0, 1) := by decide +kernel
theorem dX1_sellAllToCook_15 : decode cX1_sellAllToCook 15 = .ok (.getfield 61, 3) := by decide +kernel
theorem dX1_sellAllToCook_18 : decode cX1_sellAllToCook 18 = .ok (.imul, 1) := by decide +kernel
theorem dX1_sellAllToCook_19 : decode cX1_sellAllToCook 19 = .ok (.iadd, 1) := by decide +kernel
theorem dX1_sellAllToCook_20 : decode cX1_sellAllToCook 20 = .ok (.putfield 64, 3) := by decide +kernel
theorem dX1_sellAllToCook_23 : decode cX1_sellAllToCook 23 = .ok (.aload_n 0, 1) := by decide +kernel
theorem dX1_sellAllToCook_24 : decode cX1_sellAllToCook 24 = .ok (.getfield 25, 3) := by decide +kernel
theorem dX1_sellAllToCook_27 : decode cX1_sellAllToCook 27 = .ok (.aload_n 0, 1) := by decide +kernel
theorem dX1_sellAllToCook_28 : decode cX1_sellAllToCook 28 = .ok (.getfield 58, 3) := by decide +kernel
theorem dX1_sellAllToCook_31 : decode cX1_sellAllToCook 31 = .ok (.iconst 0, 1) := by decide +kernel
theorem dX1_sellAllToCook_32 : decode cX1_sellAllToCook 32 = .ok (.iastore, 1) := by decide +kernel
theorem dX1_sellAllToCook_33 : decode cX1_sellAllToCook 33 = .ok (.return_, 1) := by decide +kernel
theorem dX1_comes_0 : decode cX1_comes 0 = .ok (.aload_n 0, 1) := by decide +kernel
theorem dX1_comes_1 : decode cX1_comes 1 = .ok (.getfield 21, 3) := by decide +kernel
theorem dX1_comes_4 : decode cX1_comes 4 = .ok (.getfield 127, 3) := by decide +kernel
theorem dX1_comes_7 : decode cX1_comes 7 = .ok (.iload_n 1, 1) := by decide +kernel
theorem dX1_comes_8 : decode cX1_comes 8 = .ok (.iaload, 1) := by decide +kernel
theorem dX1_comes_9 : decode cX1_comes 9 = .ok (.iconst 2, 1) := by decide +kernel
theorem dX1_comes_10 : decode cX1_comes 10 = .ok (.if_icmp .ne 33, 3) := by decide +kernel
theorem dX1_comes_13 : decode cX1_comes 13 = .ok (.aload_n 0, 1) := by decide +kernel
theorem dX1_comes_14 : decode cX1_comes 14 = .ok (.getfield 21, 3) := by decide +kernel
theorem dX1_comes_17 : decode cX1_comes 17 = .ok (.getfield 130, 3) := by decide +kernel
theorem dX1_comes_20 : decode cX1_comes 20 = .ok (.iload_n 1, 1) := by decide +kernel
theorem dX1_comes_21 : decode cX1_comes 21 = .ok (.iaload, 1) := by decide +kernel
theorem dX1_comes_22 : decode cX1_comes 22 = .ok (.iload_n 2, 1) := by decide +kernel
theorem dX1_comes_23 : decode cX1_comes 23 = .ok (.if_icmp .gt 18, 3) := by decide +kernel
theorem dX1_comes_26 : decode cX1_comes 26 = .ok (.aload_n 0, 1) := by decide +kernel
theorem dX1_comes_27 : decode cX1_comes 27 = .ok (.getfield 35, 3) := by decide +kernel
theorem dX1_comes_30 : decode cX1_comes 30 = .ok (.iload_n 1, 1) := by decide +kernel
theorem dX1_comes_31 : decode cX1_comes 31 = .ok (.iaload, 1) := by decide +kernel
theorem dX1_comes_32 : decode cX1_comes 32 = .ok (.bipush (-9), 2) := by decide +kernel
theorem dX1_comes_34 : decode cX1_comes 34 = .ok (.if_icmp .ne 7, 3) := by decide +kernel
theorem dX1_comes_37 : decode cX1_comes 37 = .ok (.iconst 1, 1) := by decide +kernel
theorem dX1_comes_38 : decode cX1_comes 38 = .ok (.goto 4, 3) := by decide +kernel
theorem dX1_comes_41 : decode cX1_comes 41 = .ok (.iconst 0, 1) := by decide +kernel
theorem dX1_comes_42 : decode cX1_comes 42 = .ok (.ireturn, 1) := by decide +kernel
theorem dX1_comes_43 : decode cX1_comes 43 = .ok (.aload_n 0, 1) := by decide +kernel
theorem dX1_comes_44 : decode cX1_comes 44 = .ok (.getfield 21, 3) := by decide +kernel
theorem dX1_comes_47 : decode cX1_comes 47 = .ok (.getfield 130, 3) := by decide +kernel
theorem dX1_comes_50 : decode cX1_comes 50 = .ok (.iload_n 1, 1) := by decide +kernel
theorem dX1_comes_51 : decode cX1_comes 51 = .ok (.iaload, 1) := by decide +kernel
theorem dX1_comes_52 : decode cX1_comes 52 = .ok (.iload_n 2, 1) := by decide +kernel
theorem dX1_comes_53 : decode cX1_comes 53 = .ok (.if_icmp .ne 7, 3) := by decide +kernel
theorem dX1_comes_56 : decode cX1_comes 56 = .ok (.iconst 1, 1) := by decide +kernel
theorem dX1_comes_57 : decode cX1_comes 57 = .ok (.goto 4, 3) := by decide +kernel
theorem dX1_comes_60 : decode cX1_comes 60 = .ok (.iconst 0, 1) := by decide +kernel
theorem dX1_comes_61 : decode cX1_comes 61 = .ok (.ireturn, 1) := by decide +kernel
theorem dX1_sellOne_0 : decode cX1_sellOne 0 = .ok (.aload_n 0, 1) := by decide +kernel
theorem dX1_sellOne_1 : decode cX1_sellOne 1 = .ok (.getfield 12, 3) := by decide +kernel
theorem dX1_sellOne_4 : decode cX1_sellOne 4 = .ok (.getfield 123, 3) := by decide +kernel
theorem dX1_sellOne_7 : decode cX1_sellOne 7 = .ok (.iload_n 2, 1) := by decide +kernel
theorem dX1_sellOne_8 : decode cX1_sellOne 8 = .ok (.aaload, 1) := by decide +kernel
theorem dX1_sellOne_9 : decode cX1_sellOne 9 = .ok (.iload_n 3, 1) := by decide +kernel
theorem dX1_sellOne_10 : decode cX1_sellOne 10 = .ok (.iaload, 1) := by decide +kernel
theorem dX1_sellOne_11 : decode cX1_sellOne 11 = .ok (.istore 4, 2) := by decide +kernel
theorem dX1_sellOne_13 : decode cX1_sellOne 13 = .ok (.aload_n 0, 1) := by decide +kernel
theorem dX1_sellOne_14 : decode cX1_sellOne 14 = .ok (.getfield 25, 3) := by decide +kernel
theorem dX1_sellOne_17 : decode cX1_sellOne 17 = .ok (.iload_n 2, 1) := by decide +kernel
theorem dX1_sellOne_18 : decode cX1_sellOne 18 = .ok (.dup2, 1) := by decide +kernel
theorem dX1_sellOne_19 : decode cX1_sellOne 19 = .ok (.iaload, 1) := by decide +kernel
theorem dX1_sellOne_20 : decode cX1_sellOne 20 = .ok (.iconst 1, 1) := by decide +kernel
theorem dX1_sellOne_21 : decode cX1_sellOne 21 = .ok (.isub, 1) := by decide +kernel
theorem dX1_sellOne_22 : decode cX1_sellOne 22 = .ok (.iastore, 1) := by decide +kernel
theorem dX1_sellOne_23 : decode cX1_sellOne 23 = .ok (.aload_n 0, 1) := by decide +kernel
theorem dX1_sellOne_24 : decode cX1_sellOne 24 = .ok (.getfield 25, 3) := by decide +kernel
theorem dX1_sellOne_27 : decode cX1_sellOne 27 = .ok (.iload_n 2, 1) := by decide +kernel
theorem dX1_sellOne_28 : decode cX1_sellOne 28 = .ok (.iaload, 1) := by decide +kernel
theorem dX1_sellOne_29 : decode cX1_sellOne 29 = .ok (.ifCond .ne 10, 3) := by decide +kernel
theorem dX1_sellOne_32 : decode cX1_sellOne 32 = .ok (.aload_n 0, 1) := by decide +kernel
theorem dX1_sellOne_33 : decode cX1_sellOne 33 = .ok (.getfield 29, 3) := by decide +kernel
theorem dX1_sellOne_36 : decode cX1_sellOne 36 = .ok (.iload_n 2, 1) := by decide +kernel
theorem dX1_sellOne_37 : decode cX1_sellOne 37 = .ok (.iload_n 3, 1) := by decide +kernel
theorem dX1_sellOne_38 : decode cX1_sellOne 38 = .ok (.iastore, 1) := by decide +kernel
theorem dX1_sellOne_39 : decode cX1_sellOne 39 = .ok (.aload_n 0, 1) := by decide +kernel
theorem dX1_sellOne_40 : decode cX1_sellOne 40 = .ok (.getfield 32, 3) := by decide +kernel
theorem dX1_sellOne_43 : decode cX1_sellOne 43 = .ok (.iload_n 2, 1) := by decide +kernel
theorem dX1_sellOne_44 : decode cX1_sellOne 44 = .ok (.dup2, 1) := by decide +kernel
theorem dX1_sellOne_45 : decode cX1_sellOne 45 = .ok (.iaload, 1) := by decide +kernel
theorem dX1_sellOne_46 : decode cX1_sellOne 46 = .ok (.iload 4, 2) := by decide +kernel
theorem dX1_sellOne_48 : decode cX1_sellOne 48 = .ok (.iadd, 1) := by decide +kernel
theorem dX1_sellOne_49 : decode cX1_sellOne 49 = .ok (.iastore, 1) := by decide +kernel
theorem dX1_sellOne_50 : decode cX1_sellOne 50 = .ok (.aload_n 0, 1) := by decide +kernel
theorem dX1_sellOne_51 : decode cX1_sellOne 51 = .ok (.dup, 1) := by decide +kernel
theorem dX1_sellOne_52 : decode cX1_sellOne 52 = .ok (.getfield 64, 3) := by decide +kernel
theorem dX1_sellOne_55 : decode cX1_sellOne 55 = .ok (.iload 4, 2) := by decide +kernel
theorem dX1_sellOne_57 : decode cX1_sellOne 57 = .ok (.iadd, 1) := by decide +kernel
theorem dX1_sellOne_58 : decode cX1_sellOne 58 = .ok (.putfield 64, 3) := by decide +kernel
theorem dX1_sellOne_61 : decode cX1_sellOne 61 = .ok (.aload_n 0, 1) := by decide +kernel
theorem dX1_sellOne_62 : decode cX1_sellOne 62 = .ok (.getfield 35, 3) := by decide +kernel
theorem dX1_sellOne_65 : decode cX1_sellOne 65 = .ok (.iload_n 1, 1) := by decide +kernel
theorem dX1_sellOne_66 : decode cX1_sellOne 66 = .ok (.iload_n 2, 1) := by decide +kernel
theorem dX1_sellOne_67 : decode cX1_sellOne 67 = .ok (.iastore, 1) := by decide +kernel
theorem dX1_sellOne_68 : decode cX1_sellOne 68 = .ok (.aload_n 0, 1) := by decide +kernel
theorem dX1_sellOne_69 : decode cX1_sellOne 69 = .ok (.getfield 38, 3) := by decide +kernel
theorem dX1_sellOne_72 : decode cX1_sellOne 72 = .ok (.iload_n 1, 1) := by decide +kernel
theorem dX1_sellOne_73 : decode cX1_sellOne 73 = .ok (.iload_n 3, 1) := by decide +kernel
theorem dX1_sellOne_74 : decode cX1_sellOne 74 = .ok (.iastore, 1) := by decide +kernel
theorem dX1_sellOne_75 : decode cX1_sellOne 75 = .ok (.aload_n 0, 1) := by decide +kernel
theorem dX1_sellOne_76 : decode cX1_sellOne 76 = .ok (.getfield 41, 3) := by decide +kernel
theorem dX1_sellOne_79 : decode cX1_sellOne 79 = .ok (.iload_n 1, 1) := by decide +kernel
theorem dX1_sellOne_80 : decode cX1_sellOne 80 = .ok (.iload 4, 2) := by decide +kernel
theorem dX1_sellOne_82 : decode cX1_sellOne 82 = .ok (.iastore, 1) := by decide +kernel
theorem dX1_sellOne_83 : decode cX1_sellOne 83 = .ok (.return_, 1) := by decide +kernel
theorem dX1_choiceOf_0 : decode cX1_choiceOf 0 = .ok (.aload_n 0, 1) := by decide +kernel
theorem dX1_choiceOf_1 : decode cX1_choiceOf 1 = .ok (.getfield 21, 3) := by decide +kernel
theorem dX1_choiceOf_4 : decode cX1_choiceOf 4 = .ok (.getfield 113, 3) := by decide +kernel
theorem dX1_choiceOf_7 : decode cX1_choiceOf 7 = .ok (.iload_n 1, 1) := by decide +kernel
theorem dX1_choiceOf_8 : decode cX1_choiceOf 8 = .ok (.iaload, 1) := by decide +kernel
theorem dX1_choiceOf_9 : decode cX1_choiceOf 9 = .ok (.istore_n 3, 1) := by decide +kernel
theorem dX1_choiceOf_10 : decode cX1_choiceOf 10 = .ok (.aload_n 0, 1) := by decide +kernel
theorem dX1_choiceOf_11 : decode cX1_choiceOf 11 = .ok (.getfield 21, 3) := by decide +kernel
theorem dX1_choiceOf_14 : decode cX1_choiceOf 14 = .ok (.getfield 127, 3) := by decide +kernel
theorem dX1_choiceOf_17 : decode cX1_choiceOf 17 = .ok (.iload_n 1, 1) := by decide +kernel
theorem dX1_choiceOf_18 : decode cX1_choiceOf 18 = .ok (.iaload, 1) := by decide +kernel
theorem dX1_choiceOf_19 : decode cX1_choiceOf 19 = .ok (.iconst 2, 1) := by decide +kernel
theorem dX1_choiceOf_20 : decode cX1_choiceOf 20 = .ok (.if_icmp .ne 18, 3) := by decide +kernel
theorem dX1_choiceOf_23 : decode cX1_choiceOf 23 = .ok (.aload_n 0, 1) := by decide +kernel
theorem dX1_choiceOf_24 : decode cX1_choiceOf 24 = .ok (.getfield 12, 3) := by decide +kernel
theorem dX1_choiceOf_27 : decode cX1_choiceOf 27 = .ok (.iload_n 3, 1) := by decide +kernel
theorem dX1_choiceOf_28 : decode cX1_choiceOf 28 = .ok (.iload_n 2, 1) := by decide +kernel
theorem dX1_choiceOf_29 : decode cX1_choiceOf 29 = .ok (.invokevirtual 133, 3) := by decide +kernel
theorem dX1_choiceOf_32 : decode cX1_choiceOf 32 = .ok (.ifCond .eq 6, 3) := by decide +kernel
theorem dX1_choiceOf_35 : decode cX1_choiceOf 35 = .ok (.bipush (-9), 2) := by decide +kernel
theorem dX1_choiceOf_37 : decode cX1_choiceOf 37 = .ok (.ireturn, 1) := by decide +kernel
theorem dX1_choiceOf_38 : decode cX1_choiceOf 38 = .ok (.aload_n 0, 1) := by decide +kernel
theorem dX1_choiceOf_39 : decode cX1_choiceOf 39 = .ok (.iload_n 1, 1) := by decide +kernel
theorem dX1_choiceOf_40 : decode cX1_choiceOf 40 = .ok (.iload_n 3, 1) := by decide +kernel
theorem dX1_choiceOf_41 : decode cX1_choiceOf 41 = .ok (.iload_n 2, 1) := by decide +kernel
theorem dX1_choiceOf_42 : decode cX1_choiceOf 42 = .ok (.invokevirtual 136, 3) := by decide +kernel
theorem dX1_choiceOf_45 : decode cX1_choiceOf 45 = .ok (.ifCond .lt 5, 3) := by decide +kernel
theorem dX1_choiceOf_48 : decode cX1_choiceOf 48 = .ok (.iload_n 3, 1) := by decide +kernel
theorem dX1_choiceOf_49 : decode cX1_choiceOf 49 = .ok (.ireturn, 1) := by decide +kernel
theorem dX1_choiceOf_50 : decode cX1_choiceOf 50 = .ok (.aload_n 0, 1) := by decide +kernel
theorem dX1_choiceOf_51 : decode cX1_choiceOf 51 = .ok (.getfield 21, 3) := by decide +kernel
theorem dX1_choiceOf_54 : decode cX1_choiceOf 54 = .ok (.getfield 127, 3) := by decide +kernel
theorem dX1_choiceOf_57 : decode cX1_choiceOf 57 = .ok (.iload_n 1, 1) := by decide +kernel
theorem dX1_choiceOf_58 : decode cX1_choiceOf 58 = .ok (.iaload, 1) := by decide +kernel
theorem dX1_choiceOf_59 : decode cX1_choiceOf 59 = .ok (.ifCond .ne 6, 3) := by decide +kernel
theorem dX1_choiceOf_62 : decode cX1_choiceOf 62 = .ok (.bipush (-9), 2) := by decide +kernel
theorem dX1_choiceOf_64 : decode cX1_choiceOf 64 = .ok (.ireturn, 1) := by decide +kernel
theorem dX1_choiceOf_65 : decode cX1_choiceOf 65 = .ok (.bipush (-9), 2) := by decide +kernel
theorem dX1_choiceOf_67 : decode cX1_choiceOf 67 = .ok (.istore 4, 2) := by decide +kernel
theorem dX1_choiceOf_69 : decode cX1_choiceOf 69 = .ok (.iconst (-1), 1) := by decide +kernel
theorem dX1_choiceOf_70 : decode cX1_choiceOf 70 = .ok (.istore 5, 2) := by decide +kernel
theorem dX1_choiceOf_72 : decode cX1_choiceOf 72 = .ok (.iconst 0, 1) := by decide +kernel
theorem dX1_choiceOf_73 : decode cX1_choiceOf 73 = .ok (.istore 6, 2) := by decide +kernel
theorem dX1_choiceOf_75 : decode cX1_choiceOf 75 = .ok (.iload 6, 2) := by decide +kernel
theorem dX1_choiceOf_77 : decode cX1_choiceOf 77 = .ok (.aload_n 0, 1) := by decide +kernel
theorem dX1_choiceOf_78 : decode cX1_choiceOf 78 = .ok (.getfield 12, 3) := by decide +kernel
theorem dX1_choiceOf_81 : decode cX1_choiceOf 81 = .ok (.getfield 67, 3) := by decide +kernel
theorem dX1_choiceOf_84 : decode cX1_choiceOf 84 = .ok (.if_icmp .ge 34, 3) := by decide +kernel
theorem dX1_choiceOf_87 : decode cX1_choiceOf 87 = .ok (.aload_n 0, 1) := by decide +kernel
theorem dX1_choiceOf_88 : decode cX1_choiceOf 88 = .ok (.iload_n 1, 1) := by decide +kernel
theorem dX1_choiceOf_89 : decode cX1_choiceOf 89 = .ok (.iload 6, 2) := by decide +kernel
theorem dX1_choiceOf_91 : decode cX1_choiceOf 91 = .ok (.iload_n 2, 1) := by decide +kernel
theorem dX1_choiceOf_92 : decode cX1_choiceOf 92 = .ok (.invokevirtual 136, 3) := by decide +kernel
theorem dX1_choiceOf_95 : decode cX1_choiceOf 95 = .ok (.istore 7, 2) := by decide +kernel
theorem dX1_choiceOf_97 : decode cX1_choiceOf 97 = .ok (.iload 7, 2) := by decide +kernel
theorem dX1_choiceOf_99 : decode cX1_choiceOf 99 = .ok (.iload 5, 2) := by decide +kernel
theorem dX1_choiceOf_101 : decode cX1_choiceOf 101 = .ok (.if_icmp .le 11, 3) := by decide +kernel
theorem dX1_choiceOf_104 : decode cX1_choiceOf 104 = .ok (.iload 7, 2) := by decide +kernel
theorem dX1_choiceOf_106 : decode cX1_choiceOf 106 = .ok (.istore 5, 2) := by decide +kernel
theorem dX1_choiceOf_108 : decode cX1_choiceOf 108 = .ok (.iload 6, 2) := by decide +kernel
theorem dX1_choiceOf_110 : decode cX1_choiceOf 110 = .ok (.istore 4, 2) := by decide +kernel
theorem dX1_choiceOf_112 : decode cX1_choiceOf 112 = .ok (.iinc 6 1, 3) := by decide +kernel
theorem dX1_choiceOf_115 : decode cX1_choiceOf 115 = .ok (.goto (-40), 3) := by decide +kernel
theorem dX1_choiceOf_118 : decode cX1_choiceOf 118 = .ok (.iload 4, 2) := by decide +kernel
theorem dX1_choiceOf_120 : decode cX1_choiceOf 120 = .ok (.ireturn, 1) := by decide +kernel
theorem dX1_gainOf_0 : decode cX1_gainOf 0 = .ok (.aload_n 0, 1) := by decide +kernel
theorem dX1_gainOf_1 : decode cX1_gainOf 1 = .ok (.getfield 25, 3) := by decide +kernel
theorem dX1_gainOf_4 : decode cX1_gainOf 4 = .ok (.iload_n 2, 1) := by decide +kernel
theorem dX1_gainOf_5 : decode cX1_gainOf 5 = .ok (.iaload, 1) := by decide +kernel
theorem dX1_gainOf_6 : decode cX1_gainOf 6 = .ok (.ifCond .le 25, 3) := by decide +kernel
theorem dX1_gainOf_9 : decode cX1_gainOf 9 = .ok (.aload_n 0, 1) := by decide +kernel
theorem dX1_gainOf_10 : decode cX1_gainOf 10 = .ok (.iload_n 1, 1) := by decide +kernel
theorem dX1_gainOf_11 : decode cX1_gainOf 11 = .ok (.iload_n 2, 1) := by decide +kernel
theorem dX1_gainOf_12 : decode cX1_gainOf 12 = .ok (.iload_n 3, 1) := by decide +kernel
theorem dX1_gainOf_13 : decode cX1_gainOf 13 = .ok (.invokevirtual 140, 3) := by decide +kernel
theorem dX1_gainOf_16 : decode cX1_gainOf 16 = .ok (.aload_n 0, 1) := by decide +kernel
theorem dX1_gainOf_17 : decode cX1_gainOf 17 = .ok (.getfield 12, 3) := by decide +kernel
theorem dX1_gainOf_20 : decode cX1_gainOf 20 = .ok (.getfield 123, 3) := by decide +kernel
theorem dX1_gainOf_23 : decode cX1_gainOf 23 = .ok (.iload_n 2, 1) := by decide +kernel
theorem dX1_gainOf_24 : decode cX1_gainOf 24 = .ok (.aaload, 1) := by decide +kernel
theorem dX1_gainOf_25 : decode cX1_gainOf 25 = .ok (.iload_n 3, 1) := by decide +kernel
theorem dX1_gainOf_26 : decode cX1_gainOf 26 = .ok (.iaload, 1) := by decide +kernel
theorem dX1_gainOf_27 : decode cX1_gainOf 27 = .ok (.isub, 1) := by decide +kernel
theorem dX1_gainOf_28 : decode cX1_gainOf 28 = .ok (.goto 4, 3) := by decide +kernel
theorem dX1_gainOf_31 : decode cX1_gainOf 31 = .ok (.iconst (-1), 1) := by decide +kernel
theorem dX1_gainOf_32 : decode cX1_gainOf 32 = .ok (.ireturn, 1) := by decide +kernel
theorem dX2_init_0 : decode cX2_init 0 = .ok (.aload_n 0, 1) := by decide +kernel
theorem dX2_init_1 : decode cX2_init 1 = .ok (.invokespecial 1, 3) := by decide +kernel
theorem dX2_init_4 : decode cX2_init 4 = .ok (.aload_n 0, 1) := by decide +kernel
theorem dX2_init_5 : decode cX2_init 5 = .ok (.iconst 4, 1) := by decide +kernel
theorem dX2_init_6 : decode cX2_init 6 = .ok (.newarray .int, 2) := by decide +kernel
theorem dX2_init_8 : decode cX2_init 8 = .ok (.putfield 9, 3) := by decide +kernel
theorem dX2_init_11 : decode cX2_init 11 = .ok (.aload_n 0, 1) := by decide +kernel
theorem dX2_init_12 : decode cX2_init 12 = .ok (.iconst 4, 1) := by decide +kernel
theorem dX2_init_13 : decode cX2_init 13 = .ok (.newarray .int, 2) := by decide +kernel
theorem dX2_init_15 : decode cX2_init 15 = .ok (.putfield 13, 3) := by decide +kernel
theorem dX2_init_18 : decode cX2_init 18 = .ok (.return_, 1) := by decide +kernel
theorem dX2_take_0 : decode cX2_take 0 = .ok (.aload_n 1, 1) := by decide +kernel
theorem dX2_take_1 : decode cX2_take 1 = .ok (.iload_n 2, 1) := by decide +kernel
theorem dX2_take_2 : decode cX2_take 2 = .ok (.bipush 8, 2) := by decide +kernel
theorem dX2_take_4 : decode cX2_take 4 = .ok (.bipush (-99), 2) := by decide +kernel
theorem dX2_take_6 : decode cX2_take 6 = .ok (.bipush 99, 2) := by decide +kernel
theorem dX2_take_8 : decode cX2_take 8 = .ok (.invokestatic 16, 3) := by decide +kernel
theorem dX2_take_11 : decode cX2_take 11 = .ok (.ifCond .ne 5, 3) := by decide +kernel
theorem dX2_take_14 : decode cX2_take 14 = .ok (.iconst 0, 1) := by decide +kernel
theorem dX2_take_15 : decode cX2_take 15 = .ok (.ireturn, 1) := by decide +kernel
theorem dX2_take_16 : decode cX2_take 16 = .ok (.iconst 0, 1) := by decide +kernel
theorem dX2_take_17 : decode cX2_take 17 = .ok (.istore_n 3, 1) := by decide +kernel
theorem dX2_take_18 : decode cX2_take 18 = .ok (.iload_n 3, 1) := by decide +kernel
theorem dX2_take_19 : decode cX2_take 19 = .ok (.iconst 4, 1) := by decide +kernel
theorem dX2_take_20 : decode cX2_take 20 = .ok (.if_icmp .ge 37, 3) := by decide +kernel
theorem dX2_take_23 : decode cX2_take 23 = .ok (.aload_n 0, 1) := by decide +kernel
theorem dX2_take_24 : decode cX2_take 24 = .ok (.getfield 9, 3) := by decide +kernel
theorem dX2_take_27 : decode cX2_take 27 = .ok (.iload_n 3, 1) := by decide +kernel
theorem dX2_take_28 : decode cX2_take 28 = .ok (.aload_n 1, 1) := by decide +kernel
theorem dX2_take_29 : decode cX2_take 29 = .ok (.iload_n 2, 1) := by decide +kernel
theorem dX2_take_30 : decode cX2_take 30 = .ok (.iconst 2, 1) := by decide +kernel
theorem dX2_take_31 : decode cX2_take 31 = .ok (.iload_n 3, 1) := by decide +kernel
theorem dX2_take_32 : decode cX2_take 32 = .ok (.imul, 1) := by decide +kernel
theorem dX2_take_33 : decode cX2_take 33 = .ok (.iadd, 1) := by decide +kernel
theorem dX2_take_34 : decode cX2_take 34 = .ok (.iaload, 1) := by decide +kernel
theorem dX2_take_35 : decode cX2_take 35 = .ok (.iastore, 1) := by decide +kernel
theorem dX2_take_36 : decode cX2_take 36 = .ok (.aload_n 0, 1) := by decide +kernel
theorem dX2_take_37 : decode cX2_take 37 = .ok (.getfield 13, 3) := by decide +kernel
theorem dX2_take_40 : decode cX2_take 40 = .ok (.iload_n 3, 1) := by decide +kernel
theorem dX2_take_41 : decode cX2_take 41 = .ok (.aload_n 1, 1) := by decide +kernel
theorem dX2_take_42 : decode cX2_take 42 = .ok (.iload_n 2, 1) := by decide +kernel
theorem dX2_take_43 : decode cX2_take 43 = .ok (.iconst 2, 1) := by decide +kernel
theorem dX2_take_44 : decode cX2_take 44 = .ok (.iload_n 3, 1) := by decide +kernel
theorem dX2_take_45 : decode cX2_take 45 = .ok (.imul, 1) := by decide +kernel
theorem dX2_take_46 : decode cX2_take 46 = .ok (.iadd, 1) := by decide +kernel
theorem dX2_take_47 : decode cX2_take 47 = .ok (.iconst 1, 1) := by decide +kernel
theorem dX2_take_48 : decode cX2_take 48 = .ok (.iadd, 1) := by decide +kernel
theorem dX2_take_49 : decode cX2_take 49 = .ok (.iaload, 1) := by decide +kernel
theorem dX2_take_50 : decode cX2_take 50 = .ok (.iastore, 1) := by decide +kernel
theorem dX2_take_51 : decode cX2_take 51 = .ok (.iinc 3 1, 3) := by decide +kernel
theorem dX2_take_54 : decode cX2_take 54 = .ok (.goto (-36), 3) := by decide +kernel
theorem dX2_take_57 : decode cX2_take 57 = .ok (.iconst 1, 1) := by decide +kernel
theorem dX2_take_58 : decode cX2_take 58 = .ok (.ireturn, 1) := by decide +kernel
theorem dX2_restingBits_0 : decode cX2_restingBits 0 = .ok (.iconst 0, 1) := by decide +kernel
theorem dX2_restingBits_1 : decode cX2_restingBits 1 = .ok (.istore_n 1, 1) := by decide +kernel
theorem dX2_restingBits_2 : decode cX2_restingBits 2 = .ok (.iconst 0, 1) := by decide +kernel
theorem dX2_restingBits_3 : decode cX2_restingBits 3 = .ok (.istore_n 2, 1) := by decide +kernel
theorem dX2_restingBits_4 : decode cX2_restingBits 4 = .ok (.iload_n 2, 1) := by decide +kernel
theorem dX2_restingBits_5 : decode cX2_restingBits 5 = .ok (.iconst 4, 1) := by decide +kernel
theorem dX2_restingBits_6 : decode cX2_restingBits 6 = .ok (.if_icmp .ge 49, 3) := by decide +kernel
theorem dX2_restingBits_9 : decode cX2_restingBits 9 = .ok (.aload_n 0, 1) := by decide +kernel
theorem dX2_restingBits_10 : decode cX2_restingBits 10 = .ok (.getfield 9, 3) := by decide +kernel
theorem dX2_restingBits_13 : decode cX2_restingBits 13 = .ok (.iload_n 2, 1) := by decide +kernel
theorem dX2_restingBits_14 : decode cX2_restingBits 14 = .ok (.iconst 2, 1) := by decide +kernel
theorem dX2_restingBits_15 : decode cX2_restingBits 15 = .ok (.ixor, 1) := by decide +kernel
theorem dX2_restingBits_16 : decode cX2_restingBits 16 = .ok (.iaload, 1) := by decide +kernel
theorem dX2_restingBits_17 : decode cX2_restingBits 17 = .ok (.aload_n 0, 1) := by decide +kernel
theorem dX2_restingBits_18 : decode cX2_restingBits 18 = .ok (.getfield 9, 3) := by decide +kernel
theorem dX2_restingBits_21 : decode cX2_restingBits 21 = .ok (.iload_n 2, 1) := by decide +kernel
theorem dX2_restingBits_22 : decode cX2_restingBits 22 = .ok (.iaload, 1) := by decide +kernel
theorem dX2_restingBits_23 : decode cX2_restingBits 23 = .ok (.if_icmp .gt 26, 3) := by decide +kernel
theorem dX2_restingBits_26 : decode cX2_restingBits 26 = .ok (.aload_n 0, 1) := by decide +kernel
theorem dX2_restingBits_27 : decode cX2_restingBits 27 = .ok (.getfield 13, 3) := by decide +kernel
theorem dX2_restingBits_30 : decode cX2_restingBits 30 = .ok (.iload_n 2, 1) := by decide +kernel
theorem dX2_restingBits_31 : decode cX2_restingBits 31 = .ok (.iconst 1, 1) := by decide +kernel
theorem dX2_restingBits_32 : decode cX2_restingBits 32 = .ok (.ixor, 1) := by decide +kernel
theorem dX2_restingBits_33 : decode cX2_restingBits 33 = .ok (.iaload, 1) := by decide +kernel
theorem dX2_restingBits_34 : decode cX2_restingBits 34 = .ok (.aload_n 0, 1) := by decide +kernel
theorem dX2_restingBits_35 : decode cX2_restingBits 35 = .ok (.getfield 13, 3) := by decide +kernel
theorem dX2_restingBits_38 : decode cX2_restingBits 38 = .ok (.iload_n 2, 1) := by decide +kernel
theorem dX2_restingBits_39 : decode cX2_restingBits 39 = .ok (.iaload, 1) := by decide +kernel
theorem dX2_restingBits_40 : decode cX2_restingBits 40 = .ok (.if_icmp .gt 9, 3) := by decide +kernel
theorem dX2_restingBits_43 : decode cX2_restingBits 43 = .ok (.iload_n 1, 1) := by decide +kernel
theorem dX2_restingBits_44 : decode cX2_restingBits 44 = .ok (.iconst 1, 1) := by decide +kernel
theorem dX2_restingBits_45 : decode cX2_restingBits 45 = .ok (.iload_n 2, 1) := by decide +kernel
theorem dX2_restingBits_46 : decode cX2_restingBits 46 = .ok (.ishl, 1) := by decide +kernel
theorem dX2_restingBits_47 : decode cX2_restingBits 47 = .ok (.ior, 1) := by decide +kernel
theorem dX2_restingBits_48 : decode cX2_restingBits 48 = .ok (.istore_n 1, 1) := by decide +kernel
theorem dX2_restingBits_49 : decode cX2_restingBits 49 = .ok (.iinc 2 1, 3) := by decide +kernel
theorem dX2_restingBits_52 : decode cX2_restingBits 52 = .ok (.goto (-48), 3) := by decide +kernel
theorem dX2_restingBits_55 : decode cX2_restingBits 55 = .ok (.iload_n 1, 1) := by decide +kernel
theorem dX2_restingBits_56 : decode cX2_restingBits 56 = .ok (.ireturn, 1) := by decide +kernel
theorem dX2_hasMixed_0 : decode cX2_hasMixed 0 = .ok (.aload_n 0, 1) := by decide +kernel
theorem dX2_hasMixed_1 : decode cX2_hasMixed 1 = .ok (.invokevirtual 22, 3) := by decide +kernel
theorem dX2_hasMixed_4 : decode cX2_hasMixed 4 = .ok (.aload_n 0, 1) := by decide +kernel
theorem dX2_hasMixed_5 : decode cX2_hasMixed 5 = .ok (.invokevirtual 26, 3) := by decide +kernel
theorem dX2_hasMixed_8 : decode cX2_hasMixed 8 = .ok (.invokestatic 29, 3) := by decide +kernel
theorem dX2_hasMixed_11 : decode cX2_hasMixed 11 = .ok (.ifCond .eq 21, 3) := by decide +kernel
theorem dX2_hasMixed_14 : decode cX2_hasMixed 14 = .ok (.aload_n 0, 1) := by decide +kernel
theorem dX2_hasMixed_15 : decode cX2_hasMixed 15 = .ok (.invokevirtual 33, 3) := by decide +kernel
theorem dX2_hasMixed_18 : decode cX2_hasMixed 18 = .ok (.aload_n 0, 1) := by decide +kernel
theorem dX2_hasMixed_19 : decode cX2_hasMixed 19 = .ok (.invokevirtual 36, 3) := by decide +kernel
theorem dX2_hasMixed_22 : decode cX2_hasMixed 22 = .ok (.invokestatic 29, 3) := by decide +kernel
theorem dX2_hasMixed_25 : decode cX2_hasMixed 25 = .ok (.ifCond .eq 7, 3) := by decide +kernel
theorem dX2_hasMixed_28 : decode cX2_hasMixed 28 = .ok (.iconst 1, 1) := by decide +kernel
theorem dX2_hasMixed_29 : decode cX2_hasMixed 29 = .ok (.goto 4, 3) := by decide +kernel
theorem dX2_hasMixed_32 : decode cX2_hasMixed 32 = .ok (.iconst 0, 1) := by decide +kernel
theorem dX2_hasMixed_33 : decode cX2_hasMixed 33 = .ok (.ireturn, 1) := by decide +kernel
theorem dX2_takingOffUpper_0 : decode cX2_takingOffUpper 0 = .ok (.aload_n 0, 1) := by decide +kernel
theorem dX2_takingOffUpper_1 : decode cX2_takingOffUpper 1 = .ok (.getfield 13, 3) := by decide +kernel
theorem dX2_takingOffUpper_4 : decode cX2_takingOffUpper 4 = .ok (.iconst 3, 1) := by decide +kernel
theorem dX2_takingOffUpper_5 : decode cX2_takingOffUpper 5 = .ok (.iaload, 1) := by decide +kernel
theorem dX2_takingOffUpper_6 : decode cX2_takingOffUpper 6 = .ok (.aload_n 0, 1) := by decide +kernel
theorem dX2_takingOffUpper_7 : decode cX2_takingOffUpper 7 = .ok (.getfield 13, 3) := by decide +kernel
theorem dX2_takingOffUpper_10 : decode cX2_takingOffUpper 10 = .ok (.iconst 2, 1) := by decide +kernel
theorem dX2_takingOffUpper_11 : decode cX2_takingOffUpper 11 = .ok (.iaload, 1) := by decide +kernel
theorem dX2_takingOffUpper_12 : decode cX2_takingOffUpper 12 = .ok (.isub, 1) := by decide +kernel
theorem dX2_takingOffUpper_13 : decode cX2_takingOffUpper 13 = .ok (.ireturn, 1) := by decide +kernel
theorem dX2_takingOffLower_0 : decode cX2_takingOffLower 0 = .ok (.aload_n 0, 1) := by decide +kernel
theorem dX2_takingOffLower_1 : decode cX2_takingOffLower 1 = .ok (.getfield 13, 3) := by decide +kernel
theorem dX2_takingOffLower_4 : decode cX2_takingOffLower 4 = .ok (.iconst 0, 1) := by decide +kernel
theorem dX2_takingOffLower_5 : decode cX2_takingOffLower 5 = .ok (.iaload, 1) := by decide +kernel
theorem dX2_takingOffLower_6 : decode cX2_takingOffLower 6 = .ok (.aload_n 0, 1) := by decide +kernel
theorem dX2_takingOffLower_7 : decode cX2_takingOffLower 7 = .ok (.getfield 13, 3) := by decide +kernel
theorem dX2_takingOffLower_10 : decode cX2_takingOffLower 10 = .ok (.iconst 1, 1) := by decide +kernel
theorem dX2_takingOffLower_11 : decode cX2_takingOffLower 11 = .ok (.iaload, 1) := by decide +kernel
theorem dX2_takingOffLower_12 : decode cX2_takingOffLower 12 = .ok (.isub, 1) := by decide +kernel
theorem dX2_takingOffLower_13 : decode cX2_takingOffLower 13 = .ok (.aload_n 0, 1) := by decide +kernel
theorem dX2_takingOffLower_14 : decode cX2_takingOffLower 14 = .ok (.getfield 13, 3) := by decide +kernel
theorem dX2_takingOffLower_17 : decode cX2_takingOffLower 17 = .ok (.iconst 2, 1) := by decide +kernel
theorem dX2_takingOffLower_18 : decode cX2_takingOffLower 18 = .ok (.iaload, 1) := by decide +kernel
theorem dX2_takingOffLower_19 : decode cX2_takingOffLower 19 = .ok (.isub, 1) := by decide +kernel
theorem dX2_takingOffLower_20 : decode cX2_takingOffLower 20 = .ok (.aload_n 0, 1) := by decide +kernel
theorem dX2_takingOffLower_21 : decode cX2_takingOffLower 21 = .ok (.getfield 13, 3) := by decide +kernel
theorem dX2_takingOffLower_24 : decode cX2_takingOffLower 24 = .ok (.iconst 3, 1) := by decide +kernel
theorem dX2_takingOffLower_25 : decode cX2_takingOffLower 25 = .ok (.iaload, 1) := by decide +kernel
theorem dX2_takingOffLower_26 : decode cX2_takingOffLower 26 = .ok (.iadd, 1) := by decide +kernel
theorem dX2_takingOffLower_27 : decode cX2_takingOffLower 27 = .ok (.ireturn, 1) := by decide +kernel
theorem dX2_buyingUpper_0 : decode cX2_buyingUpper 0 = .ok (.aload_n 0, 1) := by decide +kernel
theorem dX2_buyingUpper_1 : decode cX2_buyingUpper 1 = .ok (.getfield 9, 3) := by decide +kernel
theorem dX2_buyingUpper_4 : decode cX2_buyingUpper 4 = .ok (.iconst 3, 1) := by decide +kernel
theorem dX2_buyingUpper_5 : decode cX2_buyingUpper 5 = .ok (.iaload, 1) := by decide +kernel
theorem dX2_buyingUpper_6 : decode cX2_buyingUpper 6 = .ok (.aload_n 0, 1) := by decide +kernel
theorem dX2_buyingUpper_7 : decode cX2_buyingUpper 7 = .ok (.getfield 9, 3) := by decide +kernel
theorem dX2_buyingUpper_10 : decode cX2_buyingUpper 10 = .ok (.iconst 1, 1) := by decide +kernel
theorem dX2_buyingUpper_11 : decode cX2_buyingUpper 11 = .ok (.iaload, 1) := by decide +kernel
theorem dX2_buyingUpper_12 : decode cX2_buyingUpper 12 = .ok (.isub, 1) := by decide +kernel
theorem dX2_buyingUpper_13 : decode cX2_buyingUpper 13 = .ok (.ireturn, 1) := by decide +kernel
theorem dX2_buyingLower_0 : decode cX2_buyingLower 0 = .ok (.aload_n 0, 1) := by decide +kernel
theorem dX2_buyingLower_1 : decode cX2_buyingLower 1 = .ok (.getfield 9, 3) := by decide +kernel
theorem dX2_buyingLower_4 : decode cX2_buyingLower 4 = .ok (.iconst 0, 1) := by decide +kernel
theorem dX2_buyingLower_5 : decode cX2_buyingLower 5 = .ok (.iaload, 1) := by decide +kernel
theorem dX2_buyingLower_6 : decode cX2_buyingLower 6 = .ok (.aload_n 0, 1) := by decide +kernel
theorem dX2_buyingLower_7 : decode cX2_buyingLower 7 = .ok (.getfield 9, 3) := by decide +kernel
theorem dX2_buyingLower_10 : decode cX2_buyingLower 10 = .ok (.iconst 1, 1) := by decide +kernel
theorem dX2_buyingLower_11 : decode cX2_buyingLower 11 = .ok (.iaload, 1) := by decide +kernel
theorem dX2_buyingLower_12 : decode cX2_buyingLower 12 = .ok (.isub, 1) := by decide +kernel
theorem dX2_buyingLower_13 : decode cX2_buyingLower 13 = .ok (.aload_n 0, 1) := by decide +kernel
theorem dX2_buyingLower_14 : decode cX2_buyingLower 14 = .ok (.getfield 9, 3) := by decide +kernel
theorem dX2_buyingLower_17 : decode cX2_buyingLower 17 = .ok (.iconst 2, 1) := by decide +kernel
theorem dX2_buyingLower_18 : decode cX2_buyingLower 18 = .ok (.iaload, 1) := by decide +kernel
theorem dX2_buyingLower_19 : decode cX2_buyingLower 19 = .ok (.isub, 1) := by decide +kernel
theorem dX2_buyingLower_20 : decode cX2_buyingLower 20 = .ok (.aload_n 0, 1) := by decide +kernel
theorem dX2_buyingLower_21 : decode cX2_buyingLower 21 = .ok (.getfield 9, 3) := by decide +kernel
theorem dX2_buyingLower_24 : decode cX2_buyingLower 24 = .ok (.iconst 3, 1) := by decide +kernel
theorem dX2_buyingLower_25 : decode cX2_buyingLower 25 = .ok (.iaload, 1) := by decide +kernel
theorem dX2_buyingLower_26 : decode cX2_buyingLower 26 = .ok (.iadd, 1) := by decide +kernel
theorem dX2_buyingLower_27 : decode cX2_buyingLower 27 = .ok (.ireturn, 1) := by decide +kernel
theorem dX2_isBetween_0 : decode cX2_isBetween 0 = .ok (.iload_n 1, 1) := by decide +kernel
theorem dX2_isBetween_1 : decode cX2_isBetween 1 = .ok (.ifCond .le 20, 3) := by decide +kernel
theorem dX2_isBetween_4 : decode cX2_isBetween 4 = .ok (.iload_n 0, 1) := by decide +kernel
theorem dX2_isBetween_5 : decode cX2_isBetween 5 = .ok (.ifCond .le 12, 3) := by decide +kernel
theorem dX2_isBetween_8 : decode cX2_isBetween 8 = .ok (.iload_n 0, 1) := by decide +kernel
theorem dX2_isBetween_9 : decode cX2_isBetween 9 = .ok (.iload_n 1, 1) := by decide +kernel
theorem dX2_isBetween_10 : decode cX2_isBetween 10 = .ok (.if_icmp .ge 7, 3) := by decide +kernel
theorem dX2_isBetween_13 : decode cX2_isBetween 13 = .ok (.iconst 1, 1) := by decide +kernel
theorem dX2_isBetween_14 : decode cX2_isBetween 14 = .ok (.goto 21, 3) := by decide +kernel
theorem dX2_isBetween_17 : decode cX2_isBetween 17 = .ok (.iconst 0, 1) := by decide +kernel
theorem dX2_isBetween_18 : decode cX2_isBetween 18 = .ok (.goto 17, 3) := by decide +kernel
theorem dX2_isBetween_21 : decode cX2_isBetween 21 = .ok (.iload_n 0, 1) := by decide +kernel
theorem dX2_isBetween_22 : decode cX2_isBetween 22 = .ok (.ifCond .ge 12, 3) := by decide +kernel
theorem dX2_isBetween_25 : decode cX2_isBetween 25 = .ok (.iload_n 0, 1) := by decide +kernel
theorem dX2_isBetween_26 : decode cX2_isBetween 26 = .ok (.iload_n 1, 1) := by decide +kernel
theorem dX2_isBetween_27 : decode cX2_isBetween 27 = .ok (.if_icmp .le 7, 3) := by decide +kernel
theorem dX2_isBetween_30 : decode cX2_isBetween 30 = .ok (.iconst 1, 1) := by decide +kernel
theorem dX2_isBetween_31 : decode cX2_isBetween 31 = .ok (.goto 4, 3) := by decide +kernel
theorem dX2_isBetween_34 : decode cX2_isBetween 34 = .ok (.iconst 0, 1) := by decide +kernel
theorem dX2_isBetween_35 : decode cX2_isBetween 35 = .ok (.ireturn, 1) := by decide +kernel
theorem dX3_init_0 : decode cX3_init 0 = .ok (.aload_n 0, 1) := by decide +kernel
theorem dX3_init_1 : decode cX3_init 1 = .ok (.invokespecial 3, 3) := by decide +kernel
theorem dX3_init_4 : decode cX3_init 4 = .ok (.aload_n 0, 1) := by decide +kernel
theorem dX3_init_5 : decode cX3_init 5 = .ok (.bipush 20, 2) := by decide +kernel
theorem dX3_init_7 : decode cX3_init 7 = .ok (.newarray .int, 2) := by decide +kernel
theorem dX3_init_9 : decode cX3_init 9 = .ok (.putfield 9, 3) := by decide +kernel
theorem dX3_init_12 : decode cX3_init 12 = .ok (.return_, 1) := by decide +kernel
theorem dX3_take_0 : decode cX3_take 0 = .ok (.iload_n 3, 1) := by decide +kernel
theorem dX3_take_1 : decode cX3_take 1 = .ok (.iconst 1, 1) := by decide +kernel
theorem dX3_take_2 : decode cX3_take 2 = .ok (.bipush 20, 2) := by decide +kernel
theorem dX3_take_4 : decode cX3_take 4 = .ok (.invokestatic 15, 3) := by decide +kernel
theorem dX3_take_7 : decode cX3_take 7 = .ok (.ifCond .eq 15, 3) := by decide +kernel
theorem dX3_take_10 : decode cX3_take 10 = .ok (.aload_n 1, 1) := by decide +kernel
theorem dX3_take_11 : decode cX3_take 11 = .ok (.iload_n 2, 1) := by decide +kernel
theorem dX3_take_12 : decode cX3_take 12 = .ok (.iload_n 3, 1) := by decide +kernel
theorem dX3_take_13 : decode cX3_take 13 = .ok (.iconst 0, 1) := by decide +kernel
theorem dX3_take_14 : decode cX3_take 14 = .ok (.bipush 99, 2) := by decide +kernel
theorem dX3_take_16 : decode cX3_take 16 = .ok (.invokestatic 19, 3) := by decide +kernel
theorem dX3_take_19 : decode cX3_take 19 = .ok (.ifCond .ne 5, 3) := by decide +kernel
theorem dX3_take_22 : decode cX3_take 22 = .ok (.iconst 0, 1) := by decide +kernel
theorem dX3_take_23 : decode cX3_take 23 = .ok (.ireturn, 1) := by decide +kernel
theorem dX3_take_24 : decode cX3_take 24 = .ok (.aload_n 0, 1) := by decide +kernel
theorem dX3_take_25 : decode cX3_take 25 = .ok (.iload_n 3, 1) := by decide +kernel
theorem dX3_take_26 : decode cX3_take 26 = .ok (.putfield 23, 3) := by decide +kernel
theorem dX3_take_29 : decode cX3_take 29 = .ok (.aload_n 0, 1) := by decide +kernel
theorem dX3_take_30 : decode cX3_take 30 = .ok (.iconst 0, 1) := by decide +kernel
theorem dX3_take_31 : decode cX3_take 31 = .ok (.putfield 27, 3) := by decide +kernel
theorem dX3_take_34 : decode cX3_take 34 = .ok (.iconst 0, 1) := by decide +kernel
theorem dX3_take_35 : decode cX3_take 35 = .ok (.istore 4, 2) := by decide +kernel
theorem dX3_take_37 : decode cX3_take 37 = .ok (.iload 4, 2) := by decide +kernel
theorem dX3_take_39 : decode cX3_take 39 = .ok (.iload_n 3, 1) := by decide +kernel
theorem dX3_take_40 : decode cX3_take 40 = .ok (.if_icmp .ge 38, 3) := by decide +kernel
theorem dX3_take_43 : decode cX3_take 43 = .ok (.aload_n 0, 1) := by decide +kernel
theorem dX3_take_44 : decode cX3_take 44 = .ok (.getfield 9, 3) := by decide +kernel
theorem dX3_take_47 : decode cX3_take 47 = .ok (.iload 4, 2) := by decide +kernel
theorem dX3_take_49 : decode cX3_take 49 = .ok (.aload_n 1, 1) := by decide +kernel
theorem dX3_take_50 : decode cX3_take 50 = .ok (.iload_n 2, 1) := by decide +kernel
theorem dX3_take_51 : decode cX3_take 51 = .ok (.iload 4, 2) := by decide +kernel
theorem dX3_take_53 : decode cX3_take 53 = .ok (.iadd, 1) := by decide +kernel
theorem dX3_take_54 : decode cX3_take 54 = .ok (.iaload, 1) := by decide +kernel
theorem dX3_take_55 : decode cX3_take 55 = .ok (.iastore, 1) := by decide +kernel
theorem dX3_take_56 : decode cX3_take 56 = .ok (.aload_n 0, 1) := by decide +kernel
theorem dX3_take_57 : decode cX3_take 57 = .ok (.dup, 1) := by decide +kernel
theorem dX3_take_58 : decode cX3_take 58 = .ok (.getfield 27, 3) := by decide +kernel
theorem dX3_take_61 : decode cX3_take 61 = .ok (.aload_n 0, 1) := by decide +kernel
theorem dX3_take_62 : decode cX3_take 62 = .ok (.getfield 9, 3) := by decide +kernel
theorem dX3_take_65 : decode cX3_take 65 = .ok (.iload 4, 2) := by decide +kernel
theorem dX3_take_67 : decode cX3_take 67 = .ok (.iaload, 1) := by decide +kernel
theorem dX3_take_68 : decode cX3_take 68 = .ok (.iadd, 1) := by decide +kernel
theorem dX3_take_69 : decode cX3_take 69 = .ok (.putfield 27, 3) := by decide +kernel
theorem dX3_take_72 : decode cX3_take 72 = .ok (.iinc 4 1, 3) := by decide +kernel
theorem dX3_take_75 : decode cX3_take 75 = .ok (.goto (-38), 3) := by decide +kernel
theorem dX3_take_78 : decode cX3_take 78 = .ok (.aload_n 0, 1) := by decide +kernel
theorem dX3_take_79 : decode cX3_take 79 = .ok (.getfield 27, 3) := by decide +kernel
theorem dX3_take_82 : decode cX3_take 82 = .ok (.ifCond .le 7, 3) := by decide +kernel
theorem dX3_take_85 : decode cX3_take 85 = .ok (.iconst 1, 1) := by decide +kernel
theorem dX3_take_86 : decode cX3_take 86 = .ok (.goto 4, 3) := by decide +kernel
theorem dX3_take_89 : decode cX3_take 89 = .ok (.iconst 0, 1) := by decide +kernel
theorem dX3_take_90 : decode cX3_take 90 = .ok (.ireturn, 1) := by decide +kernel
theorem dX3_weighed_0 : decode cX3_weighed 0 = .ok (.iconst 0, 1) := by decide +kernel
theorem dX3_weighed_1 : decode cX3_weighed 1 = .ok (.istore 5, 2) := by decide +kernel
theorem dX3_weighed_3 : decode cX3_weighed 3 = .ok (.iconst 0, 1) := by decide +kernel
theorem dX3_weighed_4 : decode cX3_weighed 4 = .ok (.istore 6, 2) := by decide +kernel
theorem dX3_weighed_6 : decode cX3_weighed 6 = .ok (.iload 6, 2) := by decide +kernel
theorem dX3_weighed_8 : decode cX3_weighed 8 = .ok (.aload_n 0, 1) := by decide +kernel
theorem dX3_weighed_9 : decode cX3_weighed 9 = .ok (.getfield 23, 3) := by decide +kernel
theorem dX3_weighed_12 : decode cX3_weighed 12 = .ok (.if_icmp .ge 42, 3) := by decide +kernel
theorem dX3_weighed_15 : decode cX3_weighed 15 = .ok (.iload 6, 2) := by decide +kernel
theorem dX3_weighed_17 : decode cX3_weighed 17 = .ok (.iload_n 1, 1) := by decide +kernel
theorem dX3_weighed_18 : decode cX3_weighed 18 = .ok (.invokestatic 30, 3) := by decide +kernel
theorem dX3_weighed_21 : decode cX3_weighed 21 = .ok (.istore 7, 2) := by decide +kernel
theorem dX3_weighed_23 : decode cX3_weighed 23 = .ok (.iload 5, 2) := by decide +kernel
theorem dX3_weighed_25 : decode cX3_weighed 25 = .ok (.aload_n 0, 1) := by decide +kernel
theorem dX3_weighed_26 : decode cX3_weighed 26 = .ok (.getfield 9, 3) := by decide +kernel
theorem dX3_weighed_29 : decode cX3_weighed 29 = .ok (.iload 6, 2) := by decide +kernel
theorem dX3_weighed_31 : decode cX3_weighed 31 = .ok (.iaload, 1) := by decide +kernel
theorem dX3_weighed_32 : decode cX3_weighed 32 = .ok (.iload 7, 2) := by decide +kernel
theorem dX3_weighed_34 : decode cX3_weighed 34 = .ok (.iload_n 3, 1) := by decide +kernel
theorem dX3_weighed_35 : decode cX3_weighed 35 = .ok (.imul, 1) := by decide +kernel
theorem dX3_weighed_36 : decode cX3_weighed 36 = .ok (.iload_n 1, 1) := by decide +kernel
theorem dX3_weighed_37 : decode cX3_weighed 37 = .ok (.iload 7, 2) := by decide +kernel
theorem dX3_weighed_39 : decode cX3_weighed 39 = .ok (.isub, 1) := by decide +kernel
theorem dX3_weighed_40 : decode cX3_weighed 40 = .ok (.iload 4, 2) := by decide +kernel
theorem dX3_weighed_42 : decode cX3_weighed 42 = .ok (.imul, 1) := by decide +kernel
theorem dX3_weighed_43 : decode cX3_weighed 43 = .ok (.iadd, 1) := by decide +kernel
theorem dX3_weighed_44 : decode cX3_weighed 44 = .ok (.imul, 1) := by decide +kernel
theorem dX3_weighed_45 : decode cX3_weighed 45 = .ok (.iadd, 1) := by decide +kernel
theorem dX3_weighed_46 : decode cX3_weighed 46 = .ok (.istore 5, 2) := by decide +kernel
theorem dX3_weighed_48 : decode cX3_weighed 48 = .ok (.iinc 6 1, 3) := by decide +kernel
theorem dX3_weighed_51 : decode cX3_weighed 51 = .ok (.goto (-45), 3) := by decide +kernel
theorem dX3_weighed_54 : decode cX3_weighed 54 = .ok (.iload 5, 2) := by decide +kernel
theorem dX3_weighed_56 : decode cX3_weighed 56 = .ok (.aload_n 0, 1) := by decide +kernel
theorem dX3_weighed_57 : decode cX3_weighed 57 = .ok (.getfield 27, 3) := by decide +kernel
theorem dX3_weighed_60 : decode cX3_weighed 60 = .ok (.iload_n 1, 1) := by decide +kernel
theorem dX3_weighed_61 : decode cX3_weighed 61 = .ok (.imul, 1) := by decide +kernel
theorem dX3_weighed_62 : decode cX3_weighed 62 = .ok (.iload_n 2, 1) := by decide +kernel
theorem dX3_weighed_63 : decode cX3_weighed 63 = .ok (.imul, 1) := by decide +kernel
theorem dX3_weighed_64 : decode cX3_weighed 64 = .ok (.isub, 1) := by decide +kernel
theorem dX3_weighed_65 : decode cX3_weighed 65 = .ok (.ireturn, 1) := by decide +kernel
theorem dX3_mostWorthwhile_0 : decode cX3_mostWorthwhile 0 = .ok (.iconst 0, 1) := by decide +kernel
theorem dX3_mostWorthwhile_1 : decode cX3_mostWorthwhile 1 = .ok (.istore 4, 2) := by decide +kernel
theorem dX3_mostWorthwhile_3 : decode cX3_mostWorthwhile 3 = .ok (.aload_n 0, 1) := by decide +kernel
theorem dX3_mostWorthwhile_4 : decode cX3_mostWorthwhile 4 = .ok (.iconst 0, 1) := by decide +kernel
theorem dX3_mostWorthwhile_5 : decode cX3_mostWorthwhile 5 = .ok (.iload_n 1, 1) := by decide +kernel
theorem dX3_mostWorthwhile_6 : decode cX3_mostWorthwhile 6 = .ok (.iload_n 2, 1) := by decide +kernel
theorem dX3_mostWorthwhile_7 : decode cX3_mostWorthwhile 7 = .ok (.iload_n 3, 1) := by decide +kernel
theorem dX3_mostWorthwhile_8 : decode cX3_mostWorthwhile 8 = .ok (.invokevirtual 36, 3) := by decide +kernel
theorem dX3_mostWorthwhile_11 : decode cX3_mostWorthwhile 11 = .ok (.istore 5, 2) := by decide +kernel
theorem dX3_mostWorthwhile_13 : decode cX3_mostWorthwhile 13 = .ok (.iconst 1, 1) := by decide +kernel
theorem dX3_mostWorthwhile_14 : decode cX3_mostWorthwhile 14 = .ok (.istore 6, 2) := by decide +kernel
theorem dX3_mostWorthwhile_16 : decode cX3_mostWorthwhile 16 = .ok (.iload 6, 2) := by decide +kernel
theorem dX3_mostWorthwhile_18 : decode cX3_mostWorthwhile 18 = .ok (.bipush 20, 2) := by decide +kernel
theorem dX3_mostWorthwhile_20 : decode cX3_mostWorthwhile 20 = .ok (.if_icmp .gt 35, 3) := by decide +kernel
theorem dX3_mostWorthwhile_23 : decode cX3_mostWorthwhile 23 = .ok (.aload_n 0, 1) := by decide +kernel
theorem dX3_mostWorthwhile_24 : decode cX3_mostWorthwhile 24 = .ok (.iload 6, 2) := by decide +kernel
theorem dX3_mostWorthwhile_26 : decode cX3_mostWorthwhile 26 = .ok (.iload_n 1, 1) := by decide +kernel
theorem dX3_mostWorthwhile_27 : decode cX3_mostWorthwhile 27 = .ok (.iload_n 2, 1) := by decide +kernel
theorem dX3_mostWorthwhile_28 : decode cX3_mostWorthwhile 28 = .ok (.iload_n 3, 1) := by decide +kernel
theorem dX3_mostWorthwhile_29 : decode cX3_mostWorthwhile 29 = .ok (.invokevirtual 36, 3) := by decide +kernel
theorem dX3_mostWorthwhile_32 : decode cX3_mostWorthwhile 32 = .ok (.istore 7, 2) := by decide +kernel
theorem dX3_mostWorthwhile_34 : decode cX3_mostWorthwhile 34 = .ok (.iload 7, 2) := by decide +kernel
theorem dX3_mostWorthwhile_36 : decode cX3_mostWorthwhile 36 = .ok (.iload 5, 2) := by decide +kernel
theorem dX3_mostWorthwhile_38 : decode cX3_mostWorthwhile 38 = .ok (.if_icmp .le 11, 3) := by decide +kernel
theorem dX3_mostWorthwhile_41 : decode cX3_mostWorthwhile 41 = .ok (.iload 7, 2) := by decide +kernel
theorem dX3_mostWorthwhile_43 : decode cX3_mostWorthwhile 43 = .ok (.istore 5, 2) := by decide +kernel
theorem dX3_mostWorthwhile_45 : decode cX3_mostWorthwhile 45 = .ok (.iload 6, 2) := by decide +kernel
theorem dX3_mostWorthwhile_47 : decode cX3_mostWorthwhile 47 = .ok (.istore 4, 2) := by decide +kernel
theorem dX3_mostWorthwhile_49 : decode cX3_mostWorthwhile 49 = .ok (.iinc 6 1, 3) := by decide +kernel
theorem dX3_mostWorthwhile_52 : decode cX3_mostWorthwhile 52 = .ok (.goto (-36), 3) := by decide +kernel
theorem dX3_mostWorthwhile_55 : decode cX3_mostWorthwhile 55 = .ok (.iload 4, 2) := by decide +kernel
theorem dX3_mostWorthwhile_57 : decode cX3_mostWorthwhile 57 = .ok (.ireturn, 1) := by decide +kernel
theorem dX4_init_0 : decode cX4_init 0 = .ok (.aload_n 0, 1) := by decide +kernel
theorem dX4_init_1 : decode cX4_init 1 = .ok (.invokespecial 3, 3) := by decide +kernel
theorem dX4_init_4 : decode cX4_init 4 = .ok (.aload_n 0, 1) := by decide +kernel
theorem dX4_init_5 : decode cX4_init 5 = .ok (.new 9, 3) := by decide +kernel
theorem dX4_init_8 : decode cX4_init 8 = .ok (.dup, 1) := by decide +kernel
theorem dX4_init_9 : decode cX4_init 9 = .ok (.invokespecial 11, 3) := by decide +kernel
theorem dX4_init_12 : decode cX4_init 12 = .ok (.putfield 12, 3) := by decide +kernel
theorem dX4_init_15 : decode cX4_init 15 = .ok (.aload_n 0, 1) := by decide +kernel
theorem dX4_init_16 : decode cX4_init 16 = .ok (.iconst 4, 1) := by decide +kernel
theorem dX4_init_17 : decode cX4_init 17 = .ok (.newarray .int, 2) := by decide +kernel
theorem dX4_init_19 : decode cX4_init 19 = .ok (.putfield 18, 3) := by decide +kernel
theorem dX4_init_22 : decode cX4_init 22 = .ok (.aload_n 0, 1) := by decide +kernel
theorem dX4_init_23 : decode cX4_init 23 = .ok (.iconst 4, 1) := by decide +kernel
theorem dX4_init_24 : decode cX4_init 24 = .ok (.newarray .boolean, 2) := by decide +kernel
theorem dX4_init_26 : decode cX4_init 26 = .ok (.putfield 22, 3) := by decide +kernel
theorem dX4_init_29 : decode cX4_init 29 = .ok (.aload_n 0, 1) := by decide +kernel
theorem dX4_init_30 : decode cX4_init 30 = .ok (.iconst 4, 1) := by decide +kernel
theorem dX4_init_31 : decode cX4_init 31 = .ok (.newarray .int, 2) := by decide +kernel
theorem dX4_init_33 : decode cX4_init 33 = .ok (.putfield 26, 3) := by decide +kernel
theorem dX4_init_36 : decode cX4_init 36 = .ok (.return_, 1) := by decide +kernel
theorem dX4_profitWithout_0 : decode cX4_profitWithout 0 = .ok (.aload_n 0, 1) := by decide +kernel
theorem dX4_profitWithout_1 : decode cX4_profitWithout 1 = .ok (.getfield 12, 3) := by decide +kernel
theorem dX4_profitWithout_4 : decode cX4_profitWithout 4 = .ok (.aload_n 1, 1) := by decide +kernel
theorem dX4_profitWithout_5 : decode cX4_profitWithout 5 = .ok (.invokevirtual 29, 3) := by decide +kernel
theorem dX4_profitWithout_8 : decode cX4_profitWithout 8 = .ok (.aload_n 0, 1) := by decide +kernel
theorem dX4_profitWithout_9 : decode cX4_profitWithout 9 = .ok (.getfield 12, 3) := by decide +kernel
theorem dX4_profitWithout_12 : decode cX4_profitWithout 12 = .ok (.getfield 33, 3) := by decide +kernel
theorem dX4_profitWithout_15 : decode cX4_profitWithout 15 = .ok (.getfield 37, 3) := by decide +kernel
theorem dX4_profitWithout_18 : decode cX4_profitWithout 18 = .ok (.iload_n 2, 1) := by decide +kernel
theorem dX4_profitWithout_19 : decode cX4_profitWithout 19 = .ok (.iconst 0, 1) := by decide +kernel
theorem dX4_profitWithout_20 : decode cX4_profitWithout 20 = .ok (.iastore, 1) := by decide +kernel
theorem dX4_profitWithout_21 : decode cX4_profitWithout 21 = .ok (.aload_n 0, 1) := by decide +kernel
theorem dX4_profitWithout_22 : decode cX4_profitWithout 22 = .ok (.getfield 12, 3) := by decide +kernel
theorem dX4_profitWithout_25 : decode cX4_profitWithout 25 = .ok (.invokevirtual 42, 3) := by decide +kernel
theorem dX4_profitWithout_28 : decode cX4_profitWithout 28 = .ok (.aload_n 0, 1) := by decide +kernel
theorem dX4_profitWithout_29 : decode cX4_profitWithout 29 = .ok (.getfield 12, 3) := by decide +kernel
theorem dX4_profitWithout_32 : decode cX4_profitWithout 32 = .ok (.invokevirtual 45, 3) := by decide +kernel
theorem dX4_profitWithout_35 : decode cX4_profitWithout 35 = .ok (.ireturn, 1) := by decide +kernel
theorem dX4_profitWithCook_0 : decode cX4_profitWithCook 0 = .ok (.aload_n 0, 1) := by decide +kernel
theorem dX4_profitWithCook_1 : decode cX4_profitWithCook 1 = .ok (.getfield 12, 3) := by decide +kernel
theorem dX4_profitWithCook_4 : decode cX4_profitWithCook 4 = .ok (.aload_n 1, 1) := by decide +kernel
theorem dX4_profitWithCook_5 : decode cX4_profitWithCook 5 = .ok (.invokevirtual 29, 3) := by decide +kernel
theorem dX4_profitWithCook_8 : decode cX4_profitWithCook 8 = .ok (.aload_n 0, 1) := by decide +kernel
theorem dX4_profitWithCook_9 : decode cX4_profitWithCook 9 = .ok (.getfield 12, 3) := by decide +kernel
theorem dX4_profitWithCook_12 : decode cX4_profitWithCook 12 = .ok (.iload_n 2, 1) := by decide +kernel
theorem dX4_profitWithCook_13 : decode cX4_profitWithCook 13 = .ok (.iload_n 3, 1) := by decide +kernel
theorem dX4_profitWithCook_14 : decode cX4_profitWithCook 14 = .ok (.iload 4, 2) := by decide +kernel
theorem dX4_profitWithCook_16 : decode cX4_profitWithCook 16 = .ok (.invokevirtual 49, 3) := by decide +kernel
theorem dX4_profitWithCook_19 : decode cX4_profitWithCook 19 = .ok (.aload_n 0, 1) := by decide +kernel
theorem dX4_profitWithCook_20 : decode cX4_profitWithCook 20 = .ok (.getfield 12, 3) := by decide +kernel
theorem dX4_profitWithCook_23 : decode cX4_profitWithCook 23 = .ok (.invokevirtual 42, 3) := by decide +kernel
theorem dX4_profitWithCook_26 : decode cX4_profitWithCook 26 = .ok (.aload_n 0, 1) := by decide +kernel
theorem dX4_profitWithCook_27 : decode cX4_profitWithCook 27 = .ok (.getfield 12, 3) := by decide +kernel
theorem dX4_profitWithCook_30 : decode cX4_profitWithCook 30 = .ok (.invokevirtual 45, 3) := by decide +kernel
theorem dX4_profitWithCook_33 : decode cX4_profitWithCook 33 = .ok (.ireturn, 1) := by decide +kernel
theorem dX4_findPrice_0 : decode cX4_findPrice 0 = .ok (.aload_n 0, 1) := by decide +kernel
theorem dX4_findPrice_1 : decode cX4_findPrice 1 = .ok (.getfield 12, 3) := by decide +kernel
theorem dX4_findPrice_4 : decode cX4_findPrice 4 = .ok (.aload_n 1, 1) := by decide +kernel
theorem dX4_findPrice_5 : decode cX4_findPrice 5 = .ok (.invokevirtual 29, 3) := by decide +kernel
theorem dX4_findPrice_8 : decode cX4_findPrice 8 = .ok (.aload_n 0, 1) := by decide +kernel
theorem dX4_findPrice_9 : decode cX4_findPrice 9 = .ok (.ldc 55, 2) := by decide +kernel
theorem dX4_findPrice_11 : decode cX4_findPrice 11 = .ok (.putfield 56, 3) := by decide +kernel
theorem dX4_findPrice_14 : decode cX4_findPrice 14 = .ok (.iconst 0, 1) := by decide +kernel
theorem dX4_findPrice_15 : decode cX4_findPrice 15 = .ok (.istore 4, 2) := by decide +kernel
theorem dX4_findPrice_17 : decode cX4_findPrice 17 = .ok (.iload 4, 2) := by decide +kernel
theorem dX4_findPrice_19 : decode cX4_findPrice 19 = .ok (.bipush 30, 2) := by decide +kernel
theorem dX4_findPrice_21 : decode cX4_findPrice 21 = .ok (.if_icmp .gt 63, 3) := by decide +kernel
theorem dX4_findPrice_24 : decode cX4_findPrice 24 = .ok (.aload_n 0, 1) := by decide +kernel
theorem dX4_findPrice_25 : decode cX4_findPrice 25 = .ok (.getfield 12, 3) := by decide +kernel
theorem dX4_findPrice_28 : decode cX4_findPrice 28 = .ok (.getfield 33, 3) := by decide +kernel
theorem dX4_findPrice_31 : decode cX4_findPrice 31 = .ok (.getfield 59, 3) := by decide +kernel
theorem dX4_findPrice_34 : decode cX4_findPrice 34 = .ok (.iload_n 2, 1) := by decide +kernel
theorem dX4_findPrice_35 : decode cX4_findPrice 35 = .ok (.aaload, 1) := by decide +kernel
theorem dX4_findPrice_36 : decode cX4_findPrice 36 = .ok (.iload_n 3, 1) := by decide +kernel
theorem dX4_findPrice_37 : decode cX4_findPrice 37 = .ok (.iload 4, 2) := by decide +kernel
theorem dX4_findPrice_39 : decode cX4_findPrice 39 = .ok (.iastore, 1) := by decide +kernel
theorem dX4_findPrice_40 : decode cX4_findPrice 40 = .ok (.aload_n 0, 1) := by decide +kernel
theorem dX4_findPrice_41 : decode cX4_findPrice 41 = .ok (.getfield 12, 3) := by decide +kernel
theorem dX4_findPrice_44 : decode cX4_findPrice 44 = .ok (.invokevirtual 42, 3) := by decide +kernel
theorem dX4_findPrice_47 : decode cX4_findPrice 47 = .ok (.aload_n 0, 1) := by decide +kernel
theorem dX4_findPrice_48 : decode cX4_findPrice 48 = .ok (.getfield 12, 3) := by decide +kernel
theorem dX4_findPrice_51 : decode cX4_findPrice 51 = .ok (.invokevirtual 45, 3) := by decide +kernel
theorem dX4_findPrice_54 : decode cX4_findPrice 54 = .ok (.aload_n 0, 1) := by decide +kernel
theorem dX4_findPrice_55 : decode cX4_findPrice 55 = .ok (.getfield 56, 3) := by decide +kernel
theorem dX4_findPrice_58 : decode cX4_findPrice 58 = .ok (.if_icmp .le 20, 3) := by decide +kernel
theorem dX4_findPrice_61 : decode cX4_findPrice 61 = .ok (.aload_n 0, 1) := by decide +kernel
theorem dX4_findPrice_62 : decode cX4_findPrice 62 = .ok (.aload_n 0, 1) := by decide +kernel
theorem dX4_findPrice_63 : decode cX4_findPrice 63 = .ok (.getfield 12, 3) := by decide +kernel
theorem dX4_findPrice_66 : decode cX4_findPrice 66 = .ok (.invokevirtual 45, 3) := by decide +kernel
theorem dX4_findPrice_69 : decode cX4_findPrice 69 = .ok (.putfield 56, 3) := by decide +kernel
theorem dX4_findPrice_72 : decode cX4_findPrice 72 = .ok (.aload_n 0, 1) := by decide +kernel
theorem dX4_findPrice_73 : decode cX4_findPrice 73 = .ok (.iload 4, 2) := by decide +kernel
theorem dX4_findPrice_75 : decode cX4_findPrice 75 = .ok (.putfield 63, 3) := by decide +kernel
theorem dX4_findPrice_78 : decode cX4_findPrice 78 = .ok (.iinc 4 1, 3) := by decide +kernel
theorem dX4_findPrice_81 : decode cX4_findPrice 81 = .ok (.goto (-64), 3) := by decide +kernel
theorem dX4_findPrice_84 : decode cX4_findPrice 84 = .ok (.return_, 1) := by decide +kernel
theorem dX4_findTakingOff_0 : decode cX4_findTakingOff 0 = .ok (.aload_n 0, 1) := by decide +kernel
theorem dX4_findTakingOff_1 : decode cX4_findTakingOff 1 = .ok (.getfield 12, 3) := by decide +kernel
theorem dX4_findTakingOff_4 : decode cX4_findTakingOff 4 = .ok (.aload_n 1, 1) := by decide +kernel
theorem dX4_findTakingOff_5 : decode cX4_findTakingOff 5 = .ok (.invokevirtual 29, 3) := by decide +kernel
theorem dX4_findTakingOff_8 : decode cX4_findTakingOff 8 = .ok (.aload_n 0, 1) := by decide +kernel
theorem dX4_findTakingOff_9 : decode cX4_findTakingOff 9 = .ok (.getfield 12, 3) := by decide +kernel
theorem dX4_findTakingOff_12 : decode cX4_findTakingOff 12 = .ok (.invokevirtual 42, 3) := by decide +kernel
theorem dX4_findTakingOff_15 : decode cX4_findTakingOff 15 = .ok (.aload_n 0, 1) := by decide +kernel
theorem dX4_findTakingOff_16 : decode cX4_findTakingOff 16 = .ok (.aload_n 0, 1) := by decide +kernel
theorem dX4_findTakingOff_17 : decode cX4_findTakingOff 17 = .ok (.getfield 12, 3) := by decide +kernel
theorem dX4_findTakingOff_20 : decode cX4_findTakingOff 20 = .ok (.invokevirtual 45, 3) := by decide +kernel
theorem dX4_findTakingOff_23 : decode cX4_findTakingOff 23 = .ok (.putfield 56, 3) := by decide +kernel
theorem dX4_findTakingOff_26 : decode cX4_findTakingOff 26 = .ok (.aload_n 0, 1) := by decide +kernel
theorem dX4_findTakingOff_27 : decode cX4_findTakingOff 27 = .ok (.bipush (-9), 2) := by decide +kernel
theorem dX4_findTakingOff_29 : decode cX4_findTakingOff 29 = .ok (.putfield 66, 3) := by decide +kernel
theorem dX4_findTakingOff_32 : decode cX4_findTakingOff 32 = .ok (.aload_n 0, 1) := by decide +kernel
theorem dX4_findTakingOff_33 : decode cX4_findTakingOff 33 = .ok (.iconst 0, 1) := by decide +kernel
theorem dX4_findTakingOff_34 : decode cX4_findTakingOff 34 = .ok (.putfield 63, 3) := by decide +kernel
theorem dX4_findTakingOff_37 : decode cX4_findTakingOff 37 = .ok (.iconst 0, 1) := by decide +kernel
theorem dX4_findTakingOff_38 : decode cX4_findTakingOff 38 = .ok (.istore_n 2, 1) := by decide +kernel
theorem dX4_findTakingOff_39 : decode cX4_findTakingOff 39 = .ok (.iload_n 2, 1) := by decide +kernel
theorem dX4_findTakingOff_40 : decode cX4_findTakingOff 40 = .ok (.aload_n 1, 1) := by decide +kernel
theorem dX4_findTakingOff_41 : decode cX4_findTakingOff 41 = .ok (.getfield 33, 3) := by decide +kernel
theorem dX4_findTakingOff_44 : decode cX4_findTakingOff 44 = .ok (.getfield 69, 3) := by decide +kernel
theorem dX4_findTakingOff_47 : decode cX4_findTakingOff 47 = .ok (.if_icmp .ge 81, 3) := by decide +kernel
theorem dX4_findTakingOff_50 : decode cX4_findTakingOff 50 = .ok (.iconst 1, 1) := by decide +kernel
theorem dX4_findTakingOff_51 : decode cX4_findTakingOff 51 = .ok (.istore_n 3, 1) := by decide +kernel
theorem dX4_findTakingOff_52 : decode cX4_findTakingOff 52 = .ok (.iload_n 3, 1) := by decide +kernel
theorem dX4_findTakingOff_53 : decode cX4_findTakingOff 53 = .ok (.bipush 30, 2) := by decide +kernel
theorem dX4_findTakingOff_55 : decode cX4_findTakingOff 55 = .ok (.if_icmp .gt 67, 3) := by decide +kernel
theorem dX4_findTakingOff_58 : decode cX4_findTakingOff 58 = .ok (.aload_n 0, 1) := by decide +kernel
theorem dX4_findTakingOff_59 : decode cX4_findTakingOff 59 = .ok (.getfield 12, 3) := by decide +kernel
theorem dX4_findTakingOff_62 : decode cX4_findTakingOff 62 = .ok (.getfield 33, 3) := by decide +kernel
theorem dX4_findTakingOff_65 : decode cX4_findTakingOff 65 = .ok (.aload_n 1, 1) := by decide +kernel
theorem dX4_findTakingOff_66 : decode cX4_findTakingOff 66 = .ok (.getfield 33, 3) := by decide +kernel
theorem dX4_findTakingOff_69 : decode cX4_findTakingOff 69 = .ok (.iload_n 2, 1) := by decide +kernel
theorem dX4_findTakingOff_70 : decode cX4_findTakingOff 70 = .ok (.iload_n 3, 1) := by decide +kernel
theorem dX4_findTakingOff_71 : decode cX4_findTakingOff 71 = .ok (.invokevirtual 72, 3) := by decide +kernel
theorem dX4_findTakingOff_74 : decode cX4_findTakingOff 74 = .ok (.aload_n 0, 1) := by decide +kernel
theorem dX4_findTakingOff_75 : decode cX4_findTakingOff 75 = .ok (.getfield 12, 3) := by decide +kernel
theorem dX4_findTakingOff_78 : decode cX4_findTakingOff 78 = .ok (.invokevirtual 42, 3) := by decide +kernel
theorem dX4_findTakingOff_81 : decode cX4_findTakingOff 81 = .ok (.aload_n 0, 1) := by decide +kernel
theorem dX4_findTakingOff_82 : decode cX4_findTakingOff 82 = .ok (.getfield 12, 3) := by decide +kernel
theorem dX4_findTakingOff_85 : decode cX4_findTakingOff 85 = .ok (.invokevirtual 45, 3) := by decide +kernel
theorem dX4_findTakingOff_88 : decode cX4_findTakingOff 88 = .ok (.aload_n 0, 1) := by decide +kernel
theorem dX4_findTakingOff_89 : decode cX4_findTakingOff 89 = .ok (.getfield 56, 3) := by decide +kernel
theorem dX4_findTakingOff_92 : decode cX4_findTakingOff 92 = .ok (.if_icmp .le 24, 3) := by decide +kernel
theorem dX4_findTakingOff_95 : decode cX4_findTakingOff 95 = .ok (.aload_n 0, 1) := by decide +kernel
theorem dX4_findTakingOff_96 : decode cX4_findTakingOff 96 = .ok (.aload_n 0, 1) := by decide +kernel
theorem dX4_findTakingOff_97 : decode cX4_findTakingOff 97 = .ok (.getfield 12, 3) := by decide +kernel
theorem dX4_findTakingOff_100 : decode cX4_findTakingOff 100 = .ok (.invokevirtual 45, 3) := by decide +kernel
theorem dX4_findTakingOff_103 : decode cX4_findTakingOff 103 = .ok (.putfield 56, 3) := by decide +kernel
theorem dX4_findTakingOff_106 : decode cX4_findTakingOff 106 = .ok (.aload_n 0, 1) := by decide +kernel
theorem dX4_findTakingOff_107 : decode cX4_findTakingOff 107 = .ok (.iload_n 2, 1) := by decide +kernel
theorem dX4_findTakingOff_108 : decode cX4_findTakingOff 108 = .ok (.putfield 66, 3) := by decide +kernel
theorem dX4_findTakingOff_111 : decode cX4_findTakingOff 111 = .ok (.aload_n 0, 1) := by decide +kernel
theorem dX4_findTakingOff_112 : decode cX4_findTakingOff 112 = .ok (.iload_n 3, 1) := by decide +kernel
theorem dX4_findTakingOff_113 : decode cX4_findTakingOff 113 = .ok (.putfield 63, 3) := by decide +kernel
theorem dX4_findTakingOff_116 : decode cX4_findTakingOff 116 = .ok (.iinc 3 1, 3) := by decide +kernel
theorem dX4_findTakingOff_119 : decode cX4_findTakingOff 119 = .ok (.goto (-67), 3) := by decide +kernel
theorem dX4_findTakingOff_122 : decode cX4_findTakingOff 122 = .ok (.iinc 2 1, 3) := by decide +kernel
theorem dX4_findTakingOff_125 : decode cX4_findTakingOff 125 = .ok (.goto (-86), 3) := by decide +kernel
theorem dX4_findTakingOff_128 : decode cX4_findTakingOff 128 = .ok (.return_, 1) := by decide +kernel
theorem dX4_findFetched_0 : decode cX4_findFetched 0 = .ok (.aload_n 0, 1) := by decide +kernel
theorem dX4_findFetched_1 : decode cX4_findFetched 1 = .ok (.getfield 12, 3) := by decide +kernel
theorem dX4_findFetched_4 : decode cX4_findFetched 4 = .ok (.aload_n 1, 1) := by decide +kernel
theorem dX4_findFetched_5 : decode cX4_findFetched 5 = .ok (.invokevirtual 29, 3) := by decide +kernel
theorem dX4_findFetched_8 : decode cX4_findFetched 8 = .ok (.aload_n 0, 1) := by decide +kernel
theorem dX4_findFetched_9 : decode cX4_findFetched 9 = .ok (.ldc 55, 2) := by decide +kernel
theorem dX4_findFetched_11 : decode cX4_findFetched 11 = .ok (.putfield 56, 3) := by decide +kernel
theorem dX4_findFetched_14 : decode cX4_findFetched 14 = .ok (.iconst 0, 1) := by decide +kernel
theorem dX4_findFetched_15 : decode cX4_findFetched 15 = .ok (.istore_n 2, 1) := by decide +kernel
theorem dX4_findFetched_16 : decode cX4_findFetched 16 = .ok (.iload_n 2, 1) := by decide +kernel
theorem dX4_findFetched_17 : decode cX4_findFetched 17 = .ok (.iconst 4, 1) := by decide +kernel
theorem dX4_findFetched_18 : decode cX4_findFetched 18 = .ok (.if_icmp .ge 29, 3) := by decide +kernel
theorem dX4_findFetched_21 : decode cX4_findFetched 21 = .ok (.aload_n 0, 1) := by decide +kernel
theorem dX4_findFetched_22 : decode cX4_findFetched 22 = .ok (.getfield 12, 3) := by decide +kernel
theorem dX4_findFetched_25 : decode cX4_findFetched 25 = .ok (.getfield 33, 3) := by decide +kernel
theorem dX4_findFetched_28 : decode cX4_findFetched 28 = .ok (.getfield 37, 3) := by decide +kernel
theorem dX4_findFetched_31 : decode cX4_findFetched 31 = .ok (.iload_n 2, 1) := by decide +kernel
theorem dX4_findFetched_32 : decode cX4_findFetched 32 = .ok (.iconst 0, 1) := by decide +kernel
theorem dX4_findFetched_33 : decode cX4_findFetched 33 = .ok (.iastore, 1) := by decide +kernel
theorem dX4_findFetched_34 : decode cX4_findFetched 34 = .ok (.aload_n 0, 1) := by decide +kernel
theorem dX4_findFetched_35 : decode cX4_findFetched 35 = .ok (.getfield 22, 3) := by decide +kernel
theorem dX4_findFetched_38 : decode cX4_findFetched 38 = .ok (.iload_n 2, 1) := by decide +kernel
theorem dX4_findFetched_39 : decode cX4_findFetched 39 = .ok (.iconst 0, 1) := by decide +kernel
theorem dX4_findFetched_40 : decode cX4_findFetched 40 = .ok (.bastore, 1) := by decide +kernel
theorem dX4_findFetched_41 : decode cX4_findFetched 41 = .ok (.iinc 2 1, 3) := by decide +kernel
theorem dX4_findFetched_44 : decode cX4_findFetched 44 = .ok (.goto (-28), 3) := by decide +kernel
theorem dX4_findFetched_47 : decode cX4_findFetched 47 = .ok (.iconst 1, 1) := by decide +kernel
theorem dX4_findFetched_48 : decode cX4_findFetched 48 = .ok (.istore_n 2, 1) := by decide +kernel
theorem dX4_findFetched_49 : decode cX4_findFetched 49 = .ok (.iconst 0, 1) := by decide +kernel
theorem dX4_findFetched_50 : decode cX4_findFetched 50 = .ok (.istore_n 3, 1) := by decide +kernel
theorem dX4_findFetched_51 : decode cX4_findFetched 51 = .ok (.iload_n 2, 1) := by decide +kernel
theorem dX4_findFetched_52 : decode cX4_findFetched 52 = .ok (.ifCond .eq 32, 3) := by decide +kernel
theorem dX4_findFetched_55 : decode cX4_findFetched 55 = .ok (.iload_n 3, 1) := by decide +kernel
theorem dX4_findFetched_56 : decode cX4_findFetched 56 = .ok (.sipush 10000, 3) := by decide +kernel
theorem dX4_findFetched_59 : decode cX4_findFetched 59 = .ok (.if_icmp .ge 25, 3) := by decide +kernel
theorem dX4_findFetched_62 : decode cX4_findFetched 62 = .ok (.aload_n 0, 1) := by decide +kernel
theorem dX4_findFetched_63 : decode cX4_findFetched 63 = .ok (.getfield 12, 3) := by decide +kernel
theorem dX4_findFetched_66 : decode cX4_findFetched 66 = .ok (.invokevirtual 42, 3) := by decide +kernel
theorem dX4_findFetched_69 : decode cX4_findFetched 69 = .ok (.aload_n 0, 1) := by decide +kernel
theorem dX4_findFetched_70 : decode cX4_findFetched 70 = .ok (.invokevirtual 76, 3) := by decide +kernel
theorem dX4_findFetched_73 : decode cX4_findFetched 73 = .ok (.aload_n 0, 1) := by decide +kernel
theorem dX4_findFetched_74 : decode cX4_findFetched 74 = .ok (.invokevirtual 79, 3) := by decide +kernel
theorem dX4_findFetched_77 : decode cX4_findFetched 77 = .ok (.istore_n 2, 1) := by decide +kernel
theorem dX4_findFetched_78 : decode cX4_findFetched 78 = .ok (.iinc 3 1, 3) := by decide +kernel
theorem dX4_findFetched_81 : decode cX4_findFetched 81 = .ok (.goto (-30), 3) := by decide +kernel
theorem dX4_findFetched_84 : decode cX4_findFetched 84 = .ok (.return_, 1) := by decide +kernel
theorem dX4_weighRow_0 : decode cX4_weighRow 0 = .ok (.aload_n 0, 1) := by decide +kernel
theorem dX4_weighRow_1 : decode cX4_weighRow 1 = .ok (.getfield 12, 3) := by decide +kernel
theorem dX4_weighRow_4 : decode cX4_weighRow 4 = .ok (.getfield 33, 3) := by decide +kernel
theorem dX4_weighRow_7 : decode cX4_weighRow 7 = .ok (.astore_n 1, 1) := by decide +kernel
theorem dX4_weighRow_8 : decode cX4_weighRow 8 = .ok (.aload_n 0, 1) := by decide +kernel
theorem dX4_weighRow_9 : decode cX4_weighRow 9 = .ok (.getfield 12, 3) := by decide +kernel
theorem dX4_weighRow_12 : decode cX4_weighRow 12 = .ok (.invokevirtual 45, 3) := by decide +kernel
theorem dX4_weighRow_15 : decode cX4_weighRow 15 = .ok (.istore_n 2, 1) := by decide +kernel
theorem dX4_weighRow_16 : decode cX4_weighRow 16 = .ok (.iconst 0, 1) := by decide +kernel
theorem dX4_weighRow_17 : decode cX4_weighRow 17 = .ok (.istore_n 3, 1) := by decide +kernel
theorem dX4_weighRow_18 : decode cX4_weighRow 18 = .ok (.iload_n 3, 1) := by decide +kernel
theorem dX4_weighRow_19 : decode cX4_weighRow 19 = .ok (.aload_n 1, 1) := by decide +kernel
theorem dX4_weighRow_20 : decode cX4_weighRow 20 = .ok (.getfield 83, 3) := by decide +kernel
theorem dX4_weighRow_23 : decode cX4_weighRow 23 = .ok (.if_icmp .ge 84, 3) := by decide +kernel
theorem dX4_weighRow_26 : decode cX4_weighRow 26 = .ok (.aload_n 0, 1) := by decide +kernel
theorem dX4_weighRow_27 : decode cX4_weighRow 27 = .ok (.getfield 26, 3) := by decide +kernel
theorem dX4_weighRow_30 : decode cX4_weighRow 30 = .ok (.iload_n 3, 1) := by decide +kernel
theorem dX4_weighRow_31 : decode cX4_weighRow 31 = .ok (.aload_n 1, 1) := by decide +kernel
theorem dX4_weighRow_32 : decode cX4_weighRow 32 = .ok (.getfield 37, 3) := by decide +kernel
theorem dX4_weighRow_35 : decode cX4_weighRow 35 = .ok (.iload_n 3, 1) := by decide +kernel
theorem dX4_weighRow_36 : decode cX4_weighRow 36 = .ok (.iaload, 1) := by decide +kernel
theorem dX4_weighRow_37 : decode cX4_weighRow 37 = .ok (.iastore, 1) := by decide +kernel
theorem dX4_weighRow_38 : decode cX4_weighRow 38 = .ok (.aload_n 1, 1) := by decide +kernel
theorem dX4_weighRow_39 : decode cX4_weighRow 39 = .ok (.getfield 86, 3) := by decide +kernel
theorem dX4_weighRow_42 : decode cX4_weighRow 42 = .ok (.aload_n 1, 1) := by decide +kernel
theorem dX4_weighRow_43 : decode cX4_weighRow 43 = .ok (.getfield 89, 3) := by decide +kernel
theorem dX4_weighRow_46 : decode cX4_weighRow 46 = .ok (.iload_n 3, 1) := by decide +kernel
theorem dX4_weighRow_47 : decode cX4_weighRow 47 = .ok (.iaload, 1) := by decide +kernel
theorem dX4_weighRow_48 : decode cX4_weighRow 48 = .ok (.isub, 1) := by decide +kernel
theorem dX4_weighRow_49 : decode cX4_weighRow 49 = .ok (.istore 4, 2) := by decide +kernel
theorem dX4_weighRow_51 : decode cX4_weighRow 51 = .ok (.aload_n 0, 1) := by decide +kernel
theorem dX4_weighRow_52 : decode cX4_weighRow 52 = .ok (.getfield 12, 3) := by decide +kernel
theorem dX4_weighRow_55 : decode cX4_weighRow 55 = .ok (.getfield 92, 3) := by decide +kernel
theorem dX4_weighRow_58 : decode cX4_weighRow 58 = .ok (.iload_n 3, 1) := by decide +kernel
theorem dX4_weighRow_59 : decode cX4_weighRow 59 = .ok (.iaload, 1) := by decide +kernel
theorem dX4_weighRow_60 : decode cX4_weighRow 60 = .ok (.ifCond .ne 13, 3) := by decide +kernel
theorem dX4_weighRow_63 : decode cX4_weighRow 63 = .ok (.aload_n 0, 1) := by decide +kernel
theorem dX4_weighRow_64 : decode cX4_weighRow 64 = .ok (.getfield 22, 3) := by decide +kernel
theorem dX4_weighRow_67 : decode cX4_weighRow 67 = .ok (.iload_n 3, 1) := by decide +kernel
theorem dX4_weighRow_68 : decode cX4_weighRow 68 = .ok (.iconst 1, 1) := by decide +kernel
theorem dX4_weighRow_69 : decode cX4_weighRow 69 = .ok (.bastore, 1) := by decide +kernel
theorem dX4_weighRow_70 : decode cX4_weighRow 70 = .ok (.goto 31, 3) := by decide +kernel
theorem dX4_weighRow_73 : decode cX4_weighRow 73 = .ok (.iload 4, 2) := by decide +kernel
theorem dX4_weighRow_75 : decode cX4_weighRow 75 = .ok (.ifCond .le 26, 3) := by decide +kernel
theorem dX4_weighRow_78 : decode cX4_weighRow 78 = .ok (.aload_n 0, 1) := by decide +kernel
theorem dX4_weighRow_79 : decode cX4_weighRow 79 = .ok (.getfield 26, 3) := by decide +kernel
theorem dX4_weighRow_82 : decode cX4_weighRow 82 = .ok (.iload_n 3, 1) := by decide +kernel
theorem dX4_weighRow_83 : decode cX4_weighRow 83 = .ok (.bipush 9, 2) := by decide +kernel
theorem dX4_weighRow_85 : decode cX4_weighRow 85 = .ok (.iastore, 1) := by decide +kernel
theorem dX4_weighRow_86 : decode cX4_weighRow 86 = .ok (.iload_n 2, 1) := by decide +kernel
theorem dX4_weighRow_87 : decode cX4_weighRow 87 = .ok (.iload 4, 2) := by decide +kernel
theorem dX4_weighRow_89 : decode cX4_weighRow 89 = .ok (.bipush 9, 2) := by decide +kernel
theorem dX4_weighRow_91 : decode cX4_weighRow 91 = .ok (.aload_n 1, 1) := by decide +kernel
theorem dX4_weighRow_92 : decode cX4_weighRow 92 = .ok (.getfield 37, 3) := by decide +kernel
theorem dX4_weighRow_95 : decode cX4_weighRow 95 = .ok (.iload_n 3, 1) := by decide +kernel
theorem dX4_weighRow_96 : decode cX4_weighRow 96 = .ok (.iaload, 1) := by decide +kernel
theorem dX4_weighRow_97 : decode cX4_weighRow 97 = .ok (.isub, 1) := by decide +kernel
theorem dX4_weighRow_98 : decode cX4_weighRow 98 = .ok (.imul, 1) := by decide +kernel
theorem dX4_weighRow_99 : decode cX4_weighRow 99 = .ok (.iadd, 1) := by decide +kernel
theorem dX4_weighRow_100 : decode cX4_weighRow 100 = .ok (.istore_n 2, 1) := by decide +kernel
theorem dX4_weighRow_101 : decode cX4_weighRow 101 = .ok (.iinc 3 1, 3) := by decide +kernel
theorem dX4_weighRow_104 : decode cX4_weighRow 104 = .ok (.goto (-86), 3) := by decide +kernel
theorem dX4_weighRow_107 : decode cX4_weighRow 107 = .ok (.iload_n 2, 1) := by decide +kernel
theorem dX4_weighRow_108 : decode cX4_weighRow 108 = .ok (.aload_n 0, 1) := by decide +kernel
theorem dX4_weighRow_109 : decode cX4_weighRow 109 = .ok (.getfield 56, 3) := by decide +kernel
theorem dX4_weighRow_112 : decode cX4_weighRow 112 = .ok (.if_icmp .gt 18, 3) := by decide +kernel
theorem dX4_weighRow_115 : decode cX4_weighRow 115 = .ok (.iload_n 2, 1) := by decide +kernel
theorem dX4_weighRow_116 : decode cX4_weighRow 116 = .ok (.aload_n 0, 1) := by decide +kernel
theorem dX4_weighRow_117 : decode cX4_weighRow 117 = .ok (.getfield 56, 3) := by decide +kernel
theorem dX4_weighRow_120 : decode cX4_weighRow 120 = .ok (.if_icmp .ne 32, 3) := by decide +kernel
theorem dX4_weighRow_123 : decode cX4_weighRow 123 = .ok (.aload_n 0, 1) := by decide +kernel
theorem dX4_weighRow_124 : decode cX4_weighRow 124 = .ok (.invokevirtual 95, 3) := by decide +kernel
theorem dX4_weighRow_127 : decode cX4_weighRow 127 = .ok (.ifCond .eq 25, 3) := by decide +kernel
theorem dX4_weighRow_130 : decode cX4_weighRow 130 = .ok (.aload_n 0, 1) := by decide +kernel
theorem dX4_weighRow_131 : decode cX4_weighRow 131 = .ok (.iload_n 2, 1) := by decide +kernel
theorem dX4_weighRow_132 : decode cX4_weighRow 132 = .ok (.putfield 56, 3) := by decide +kernel
theorem dX4_weighRow_135 : decode cX4_weighRow 135 = .ok (.aload_n 0, 1) := by decide +kernel
theorem dX4_weighRow_136 : decode cX4_weighRow 136 = .ok (.getfield 26, 3) := by decide +kernel
theorem dX4_weighRow_139 : decode cX4_weighRow 139 = .ok (.iconst 0, 1) := by decide +kernel
theorem dX4_weighRow_140 : decode cX4_weighRow 140 = .ok (.aload_n 0, 1) := by decide +kernel
theorem dX4_weighRow_141 : decode cX4_weighRow 141 = .ok (.getfield 18, 3) := by decide +kernel
theorem dX4_weighRow_144 : decode cX4_weighRow 144 = .ok (.iconst 0, 1) := by decide +kernel
theorem dX4_weighRow_145 : decode cX4_weighRow 145 = .ok (.aload_n 1, 1) := by decide +kernel
theorem dX4_weighRow_146 : decode cX4_weighRow 146 = .ok (.getfield 83, 3) := by decide +kernel
theorem dX4_weighRow_149 : decode cX4_weighRow 149 = .ok (.invokestatic 98, 3) := by decide +kernel
theorem dX4_weighRow_152 : decode cX4_weighRow 152 = .ok (.return_, 1) := by decide +kernel
theorem dX4_isRaisedFirst_0 : decode cX4_isRaisedFirst 0 = .ok (.iconst 0, 1) := by decide +kernel
theorem dX4_isRaisedFirst_1 : decode cX4_isRaisedFirst 1 = .ok (.istore_n 1, 1) := by decide +kernel
theorem dX4_isRaisedFirst_2 : decode cX4_isRaisedFirst 2 = .ok (.iload_n 1, 1) := by decide +kernel
theorem dX4_isRaisedFirst_3 : decode cX4_isRaisedFirst 3 = .ok (.aload_n 0, 1) := by decide +kernel
theorem dX4_isRaisedFirst_4 : decode cX4_isRaisedFirst 4 = .ok (.getfield 12, 3) := by decide +kernel
theorem dX4_isRaisedFirst_7 : decode cX4_isRaisedFirst 7 = .ok (.getfield 33, 3) := by decide +kernel
theorem dX4_isRaisedFirst_10 : decode cX4_isRaisedFirst 10 = .ok (.getfield 83, 3) := by decide +kernel
theorem dX4_isRaisedFirst_13 : decode cX4_isRaisedFirst 13 = .ok (.if_icmp .ge 45, 3) := by decide +kernel
theorem dX4_isRaisedFirst_16 : decode cX4_isRaisedFirst 16 = .ok (.aload_n 0, 1) := by decide +kernel
theorem dX4_isRaisedFirst_17 : decode cX4_isRaisedFirst 17 = .ok (.getfield 26, 3) := by decide +kernel
theorem dX4_isRaisedFirst_20 : decode cX4_isRaisedFirst 20 = .ok (.iload_n 1, 1) := by decide +kernel
theorem dX4_isRaisedFirst_21 : decode cX4_isRaisedFirst 21 = .ok (.iaload, 1) := by decide +kernel
theorem dX4_isRaisedFirst_22 : decode cX4_isRaisedFirst 22 = .ok (.aload_n 0, 1) := by decide +kernel
theorem dX4_isRaisedFirst_23 : decode cX4_isRaisedFirst 23 = .ok (.getfield 18, 3) := by decide +kernel
theorem dX4_isRaisedFirst_26 : decode cX4_isRaisedFirst 26 = .ok (.iload_n 1, 1) := by decide +kernel
theorem dX4_isRaisedFirst_27 : decode cX4_isRaisedFirst 27 = .ok (.iaload, 1) := by decide +kernel
theorem dX4_isRaisedFirst_28 : decode cX4_isRaisedFirst 28 = .ok (.if_icmp .eq 24, 3) := by decide +kernel
theorem dX4_isRaisedFirst_31 : decode cX4_isRaisedFirst 31 = .ok (.aload_n 0, 1) := by decide +kernel
theorem dX4_isRaisedFirst_32 : decode cX4_isRaisedFirst 32 = .ok (.getfield 26, 3) := by decide +kernel
theorem dX4_isRaisedFirst_35 : decode cX4_isRaisedFirst 35 = .ok (.iload_n 1, 1) := by decide +kernel
theorem dX4_isRaisedFirst_36 : decode cX4_isRaisedFirst 36 = .ok (.iaload, 1) := by decide +kernel
theorem dX4_isRaisedFirst_37 : decode cX4_isRaisedFirst 37 = .ok (.aload_n 0, 1) := by decide +kernel
theorem dX4_isRaisedFirst_38 : decode cX4_isRaisedFirst 38 = .ok (.getfield 18, 3) := by decide +kernel
theorem dX4_isRaisedFirst_41 : decode cX4_isRaisedFirst 41 = .ok (.iload_n 1, 1) := by decide +kernel
theorem dX4_isRaisedFirst_42 : decode cX4_isRaisedFirst 42 = .ok (.iaload, 1) := by decide +kernel
theorem dX4_isRaisedFirst_43 : decode cX4_isRaisedFirst 43 = .ok (.if_icmp .ge 7, 3) := by decide +kernel
theorem dX4_isRaisedFirst_46 : decode cX4_isRaisedFirst 46 = .ok (.iconst 1, 1) := by decide +kernel
theorem dX4_isRaisedFirst_47 : decode cX4_isRaisedFirst 47 = .ok (.goto 4, 3) := by decide +kernel
theorem dX4_isRaisedFirst_50 : decode cX4_isRaisedFirst 50 = .ok (.iconst 0, 1) := by decide +kernel
theorem dX4_isRaisedFirst_51 : decode cX4_isRaisedFirst 51 = .ok (.ireturn, 1) := by decide +kernel
theorem dX4_isRaisedFirst_52 : decode cX4_isRaisedFirst 52 = .ok (.iinc 1 1, 3) := by decide +kernel
theorem dX4_isRaisedFirst_55 : decode cX4_isRaisedFirst 55 = .ok (.goto (-53), 3) := by decide +kernel
theorem dX4_isRaisedFirst_58 : decode cX4_isRaisedFirst 58 = .ok (.iconst 0, 1) := by decide +kernel
theorem dX4_isRaisedFirst_59 : decode cX4_isRaisedFirst 59 = .ok (.ireturn, 1) := by decide +kernel
theorem dX4_goToNextRow_0 : decode cX4_goToNextRow 0 = .ok (.aload_n 0, 1) := by decide +kernel
theorem dX4_goToNextRow_1 : decode cX4_goToNextRow 1 = .ok (.getfield 12, 3) := by decide +kernel
theorem dX4_goToNextRow_4 : decode cX4_goToNextRow 4 = .ok (.getfield 33, 3) := by decide +kernel
theorem dX4_goToNextRow_7 : decode cX4_goToNextRow 7 = .ok (.getfield 83, 3) := by decide +kernel
theorem dX4_goToNextRow_10 : decode cX4_goToNextRow 10 = .ok (.iconst 1, 1) := by decide +kernel
theorem dX4_goToNextRow_11 : decode cX4_goToNextRow 11 = .ok (.isub, 1) := by decide +kernel
theorem dX4_goToNextRow_12 : decode cX4_goToNextRow 12 = .ok (.istore_n 1, 1) := by decide +kernel
theorem dX4_goToNextRow_13 : decode cX4_goToNextRow 13 = .ok (.iload_n 1, 1) := by decide +kernel
theorem dX4_goToNextRow_14 : decode cX4_goToNextRow 14 = .ok (.ifCond .lt 83, 3) := by decide +kernel
theorem dX4_goToNextRow_17 : decode cX4_goToNextRow 17 = .ok (.aload_n 0, 1) := by decide +kernel
theorem dX4_goToNextRow_18 : decode cX4_goToNextRow 18 = .ok (.getfield 22, 3) := by decide +kernel
theorem dX4_goToNextRow_21 : decode cX4_goToNextRow 21 = .ok (.iload_n 1, 1) := by decide +kernel
theorem dX4_goToNextRow_22 : decode cX4_goToNextRow 22 = .ok (.baload, 1) := by decide +kernel
theorem dX4_goToNextRow_23 : decode cX4_goToNextRow 23 = .ok (.ifCond .eq 24, 3) := by decide +kernel
theorem dX4_goToNextRow_26 : decode cX4_goToNextRow 26 = .ok (.aload_n 0, 1) := by decide +kernel
theorem dX4_goToNextRow_27 : decode cX4_goToNextRow 27 = .ok (.getfield 12, 3) := by decide +kernel
theorem dX4_goToNextRow_30 : decode cX4_goToNextRow 30 = .ok (.getfield 33, 3) := by decide +kernel
theorem dX4_goToNextRow_33 : decode cX4_goToNextRow 33 = .ok (.getfield 37, 3) := by decide +kernel
theorem dX4_goToNextRow_36 : decode cX4_goToNextRow 36 = .ok (.iload_n 1, 1) := by decide +kernel
theorem dX4_goToNextRow_37 : decode cX4_goToNextRow 37 = .ok (.iaload, 1) := by decide +kernel
theorem dX4_goToNextRow_38 : decode cX4_goToNextRow 38 = .ok (.bipush 9, 2) := by decide +kernel
theorem dX4_goToNextRow_40 : decode cX4_goToNextRow 40 = .ok (.if_icmp .ge 7, 3) := by decide +kernel
theorem dX4_goToNextRow_43 : decode cX4_goToNextRow 43 = .ok (.iconst 1, 1) := by decide +kernel
theorem dX4_goToNextRow_44 : decode cX4_goToNextRow 44 = .ok (.goto 4, 3) := by decide +kernel
theorem dX4_goToNextRow_47 : decode cX4_goToNextRow 47 = .ok (.iconst 0, 1) := by decide +kernel
theorem dX4_goToNextRow_48 : decode cX4_goToNextRow 48 = .ok (.istore_n 2, 1) := by decide +kernel
theorem dX4_goToNextRow_49 : decode cX4_goToNextRow 49 = .ok (.aload_n 0, 1) := by decide +kernel
theorem dX4_goToNextRow_50 : decode cX4_goToNextRow 50 = .ok (.getfield 22, 3) := by decide +kernel
theorem dX4_goToNextRow_53 : decode cX4_goToNextRow 53 = .ok (.iload_n 1, 1) := by decide +kernel
theorem dX4_goToNextRow_54 : decode cX4_goToNextRow 54 = .ok (.iconst 0, 1) := by decide +kernel
theorem dX4_goToNextRow_55 : decode cX4_goToNextRow 55 = .ok (.bastore, 1) := by decide +kernel
theorem dX4_goToNextRow_56 : decode cX4_goToNextRow 56 = .ok (.iload_n 2, 1) := by decide +kernel
theorem dX4_goToNextRow_57 : decode cX4_goToNextRow 57 = .ok (.ifCond .eq 21, 3) := by decide +kernel
theorem dX4_goToNextRow_60 : decode cX4_goToNextRow 60 = .ok (.aload_n 0, 1) := by decide +kernel
theorem dX4_goToNextRow_61 : decode cX4_goToNextRow 61 = .ok (.getfield 12, 3) := by decide +kernel
theorem dX4_goToNextRow_64 : decode cX4_goToNextRow 64 = .ok (.getfield 33, 3) := by decide +kernel
theorem dX4_goToNextRow_67 : decode cX4_goToNextRow 67 = .ok (.getfield 37, 3) := by decide +kernel
theorem dX4_goToNextRow_70 : decode cX4_goToNextRow 70 = .ok (.iload_n 1, 1) := by decide +kernel
theorem dX4_goToNextRow_71 : decode cX4_goToNextRow 71 = .ok (.dup2, 1) := by decide +kernel
theorem dX4_goToNextRow_72 : decode cX4_goToNextRow 72 = .ok (.iaload, 1) := by decide +kernel
theorem dX4_goToNextRow_73 : decode cX4_goToNextRow 73 = .ok (.iconst 1, 1) := by decide +kernel
theorem dX4_goToNextRow_74 : decode cX4_goToNextRow 74 = .ok (.iadd, 1) := by decide +kernel
theorem dX4_goToNextRow_75 : decode cX4_goToNextRow 75 = .ok (.iastore, 1) := by decide +kernel
theorem dX4_goToNextRow_76 : decode cX4_goToNextRow 76 = .ok (.iconst 1, 1) := by decide +kernel
theorem dX4_goToNextRow_77 : decode cX4_goToNextRow 77 = .ok (.ireturn, 1) := by decide +kernel
theorem dX4_goToNextRow_78 : decode cX4_goToNextRow 78 = .ok (.aload_n 0, 1) := by decide +kernel
theorem dX4_goToNextRow_79 : decode cX4_goToNextRow 79 = .ok (.getfield 12, 3) := by decide +kernel
theorem dX4_goToNextRow_82 : decode cX4_goToNextRow 82 = .ok (.getfield 33, 3) := by decide +kernel
theorem dX4_goToNextRow_85 : decode cX4_goToNextRow 85 = .ok (.getfield 37, 3) := by decide +kernel
theorem dX4_goToNextRow_88 : decode cX4_goToNextRow 88 = .ok (.iload_n 1, 1) := by decide +kernel
theorem dX4_goToNextRow_89 : decode cX4_goToNextRow 89 = .ok (.iconst 0, 1) := by decide +kernel
theorem dX4_goToNextRow_90 : decode cX4_goToNextRow 90 = .ok (.iastore, 1) := by decide +kernel
theorem dX4_goToNextRow_91 : decode cX4_goToNextRow 91 = .ok (.iinc 1 (-1), 3) := by decide +kernel
theorem dX4_goToNextRow_94 : decode cX4_goToNextRow 94 = .ok (.goto (-81), 3) := by decide +kernel
theorem dX4_goToNextRow_97 : decode cX4_goToNextRow 97 = .ok (.iconst 0, 1) := by decide +kernel
theorem dX4_goToNextRow_98 : decode cX4_goToNextRow 98 = .ok (.ireturn, 1) := by decide +kernel
theorem dX5_init_0 : decode cX5_init 0 = .ok (.aload_n 0, 1) := by decide +kernel
theorem dX5_init_1 : decode cX5_init 1 = .ok (.invokespecial 1, 3) := by decide +kernel
theorem dX5_init_4 : decode cX5_init 4 = .ok (.aload_n 0, 1) := by decide +kernel
theorem dX5_init_5 : decode cX5_init 5 = .ok (.iconst 4, 1) := by decide +kernel
theorem dX5_init_6 : decode cX5_init 6 = .ok (.bipush 60, 2) := by decide +kernel
theorem dX5_init_8 : decode cX5_init 8 = .ok (.multianewarray 9 2, 4) := by decide +kernel
theorem dX5_init_12 : decode cX5_init 12 = .ok (.putfield 11, 3) := by decide +kernel
theorem dX5_init_15 : decode cX5_init 15 = .ok (.aload_n 0, 1) := by decide +kernel
theorem dX5_init_16 : decode cX5_init 16 = .ok (.iconst 4, 1) := by decide +kernel
theorem dX5_init_17 : decode cX5_init 17 = .ok (.newarray .int, 2) := by decide +kernel
theorem dX5_init_19 : decode cX5_init 19 = .ok (.putfield 14, 3) := by decide +kernel
theorem dX5_init_22 : decode cX5_init 22 = .ok (.aload_n 0, 1) := by decide +kernel
theorem dX5_init_23 : decode cX5_init 23 = .ok (.iconst 4, 1) := by decide +kernel
theorem dX5_init_24 : decode cX5_init 24 = .ok (.newarray .int, 2) := by decide +kernel
theorem dX5_init_26 : decode cX5_init 26 = .ok (.dup, 1) := by decide +kernel
theorem dX5_init_27 : decode cX5_init 27 = .ok (.iconst 0, 1) := by decide +kernel
theorem dX5_init_28 : decode cX5_init 28 = .ok (.iconst (-1), 1) := by decide +kernel
theorem dX5_init_29 : decode cX5_init 29 = .ok (.iastore, 1) := by decide +kernel
theorem dX5_init_30 : decode cX5_init 30 = .ok (.dup, 1) := by decide +kernel
theorem dX5_init_31 : decode cX5_init 31 = .ok (.iconst 1, 1) := by decide +kernel
theorem dX5_init_32 : decode cX5_init 32 = .ok (.iconst (-1), 1) := by decide +kernel
theorem dX5_init_33 : decode cX5_init 33 = .ok (.iastore, 1) := by decide +kernel
theorem dX5_init_34 : decode cX5_init 34 = .ok (.dup, 1) := by decide +kernel
theorem dX5_init_35 : decode cX5_init 35 = .ok (.iconst 2, 1) := by decide +kernel
theorem dX5_init_36 : decode cX5_init 36 = .ok (.iconst (-1), 1) := by decide +kernel
theorem dX5_init_37 : decode cX5_init 37 = .ok (.iastore, 1) := by decide +kernel
theorem dX5_init_38 : decode cX5_init 38 = .ok (.dup, 1) := by decide +kernel
theorem dX5_init_39 : decode cX5_init 39 = .ok (.iconst 3, 1) := by decide +kernel
theorem dX5_init_40 : decode cX5_init 40 = .ok (.iconst (-1), 1) := by decide +kernel
theorem dX5_init_41 : decode cX5_init 41 = .ok (.iastore, 1) := by decide +kernel
theorem dX5_init_42 : decode cX5_init 42 = .ok (.putfield 18, 3) := by decide +kernel
theorem dX5_init_45 : decode cX5_init 45 = .ok (.return_, 1) := by decide +kernel
theorem dX5_cut_0 : decode cX5_cut 0 = .ok (.iload_n 1, 1) := by decide +kernel
theorem dX5_cut_1 : decode cX5_cut 1 = .ok (.lookupswitch 33 #[(0, 27), (1, 30)], 27) := by decide +kernel
theorem dX5_cut_28 : decode cX5_cut 28 = .ok (.iload_n 0, 1) := by decide +kernel
theorem dX5_cut_29 : decode cX5_cut 29 = .ok (.i2b, 1) := by decide +kernel
theorem dX5_cut_30 : decode cX5_cut 30 = .ok (.ireturn, 1) := by decide +kernel
theorem dX5_cut_31 : decode cX5_cut 31 = .ok (.iload_n 0, 1) := by decide +kernel
theorem dX5_cut_32 : decode cX5_cut 32 = .ok (.i2s, 1) := by decide +kernel
theorem dX5_cut_33 : decode cX5_cut 33 = .ok (.ireturn, 1) := by decide +kernel
theorem dX5_cut_34 : decode cX5_cut 34 = .ok (.iload_n 0, 1) := by decide +kernel
theorem dX5_cut_35 : decode cX5_cut 35 = .ok (.ireturn, 1) := by decide +kernel
theorem dX5_isThere_0 : decode cX5_isThere 0 = .ok (.iload_n 1, 1) := by decide +kernel
theorem dX5_isThere_1 : decode cX5_isThere 1 = .ok (.ifCond .lt 12, 3) := by decide +kernel
theorem dX5_isThere_4 : decode cX5_isThere 4 = .ok (.iload_n 1, 1) := by decide +kernel
theorem dX5_isThere_5 : decode cX5_isThere 5 = .ok (.iconst 4, 1) := by decide +kernel
theorem dX5_isThere_6 : decode cX5_isThere 6 = .ok (.if_icmp .ge 7, 3) := by decide +kernel
theorem dX5_isThere_9 : decode cX5_isThere 9 = .ok (.iconst 1, 1) := by decide +kernel
theorem dX5_isThere_10 : decode cX5_isThere 10 = .ok (.goto 4, 3) := by decide +kernel
theorem dX5_isThere_13 : decode cX5_isThere 13 = .ok (.iconst 0, 1) := by decide +kernel
theorem dX5_isThere_14 : decode cX5_isThere 14 = .ok (.ireturn, 1) := by decide +kernel
theorem dX5_isLane_0 : decode cX5_isLane 0 = .ok (.iload_n 1, 1) := by decide +kernel
theorem dX5_isLane_1 : decode cX5_isLane 1 = .ok (.ifCond .lt 12, 3) := by decide +kernel
theorem dX5_isLane_4 : decode cX5_isLane 4 = .ok (.iload_n 1, 1) := by decide +kernel
theorem dX5_isLane_5 : decode cX5_isLane 5 = .ok (.iconst 3, 1) := by decide +kernel
theorem dX5_isLane_6 : decode cX5_isLane 6 = .ok (.if_icmp .ge 7, 3) := by decide +kernel
theorem dX5_isLane_9 : decode cX5_isLane 9 = .ok (.iconst 1, 1) := by decide +kernel
theorem dX5_isLane_10 : decode cX5_isLane 10 = .ok (.goto 4, 3) := by decide +kernel
theorem dX5_isLane_13 : decode cX5_isLane 13 = .ok (.iconst 0, 1) := by decide +kernel
theorem dX5_isLane_14 : decode cX5_isLane 14 = .ok (.ireturn, 1) := by decide +kernel
theorem dX5_hasRow_0 : decode cX5_hasRow 0 = .ok (.aload_n 0, 1) := by decide +kernel
theorem dX5_hasRow_1 : decode cX5_hasRow 1 = .ok (.getfield 18, 3) := by decide +kernel
theorem dX5_hasRow_4 : decode cX5_hasRow 4 = .ok (.iload_n 1, 1) := by decide +kernel
theorem dX5_hasRow_5 : decode cX5_hasRow 5 = .ok (.iaload, 1) := by decide +kernel
theorem dX5_hasRow_6 : decode cX5_hasRow 6 = .ok (.iconst (-1), 1) := by decide +kernel
theorem dX5_hasRow_7 : decode cX5_hasRow 7 = .ok (.if_icmp .eq 7, 3) := by decide +kernel
theorem dX5_hasRow_10 : decode cX5_hasRow 10 = .ok (.iconst 1, 1) := by decide +kernel
theorem dX5_hasRow_11 : decode cX5_hasRow 11 = .ok (.goto 4, 3) := by decide +kernel
theorem dX5_hasRow_14 : decode cX5_hasRow 14 = .ok (.iconst 0, 1) := by decide +kernel
theorem dX5_hasRow_15 : decode cX5_hasRow 15 = .ok (.ireturn, 1) := by decide +kernel
theorem dX5_reaches_0 : decode cX5_reaches 0 = .ok (.iload_n 2, 1) := by decide +kernel
theorem dX5_reaches_1 : decode cX5_reaches 1 = .ok (.ifCond .lt 33, 3) := by decide +kernel
theorem dX5_reaches_4 : decode cX5_reaches 4 = .ok (.iload_n 3, 1) := by decide +kernel
theorem dX5_reaches_5 : decode cX5_reaches 5 = .ok (.ifCond .lt 29, 3) := by decide +kernel
theorem dX5_reaches_8 : decode cX5_reaches 8 = .ok (.iload_n 2, 1) := by decide +kernel
theorem dX5_reaches_9 : decode cX5_reaches 9 = .ok (.aload_n 0, 1) := by decide +kernel
theorem dX5_reaches_10 : decode cX5_reaches 10 = .ok (.getfield 18, 3) := by decide +kernel
theorem dX5_reaches_13 : decode cX5_reaches 13 = .ok (.iload_n 1, 1) := by decide +kernel
theorem dX5_reaches_14 : decode cX5_reaches 14 = .ok (.iaload, 1) := by decide +kernel
theorem dX5_reaches_15 : decode cX5_reaches 15 = .ok (.if_icmp .gt 19, 3) := by decide +kernel
theorem dX5_reaches_18 : decode cX5_reaches 18 = .ok (.iload_n 3, 1) := by decide +kernel
theorem dX5_reaches_19 : decode cX5_reaches 19 = .ok (.aload_n 0, 1) := by decide +kernel
theorem dX5_reaches_20 : decode cX5_reaches 20 = .ok (.getfield 18, 3) := by decide +kernel
theorem dX5_reaches_23 : decode cX5_reaches 23 = .ok (.iload_n 1, 1) := by decide +kernel
theorem dX5_reaches_24 : decode cX5_reaches 24 = .ok (.iaload, 1) := by decide +kernel
theorem dX5_reaches_25 : decode cX5_reaches 25 = .ok (.iload_n 2, 1) := by decide +kernel
theorem dX5_reaches_26 : decode cX5_reaches 26 = .ok (.isub, 1) := by decide +kernel
theorem dX5_reaches_27 : decode cX5_reaches 27 = .ok (.if_icmp .gt 7, 3) := by decide +kernel
theorem dX5_reaches_30 : decode cX5_reaches 30 = .ok (.iconst 1, 1) := by decide +kernel
theorem dX5_reaches_31 : decode cX5_reaches 31 = .ok (.goto 4, 3) := by decide +kernel
theorem dX5_reaches_34 : decode cX5_reaches 34 = .ok (.iconst 0, 1) := by decide +kernel
theorem dX5_reaches_35 : decode cX5_reaches 35 = .ok (.ireturn, 1) := by decide +kernel
theorem dX5_give_0 : decode cX5_give 0 = .ok (.aload_n 0, 1) := by decide +kernel
theorem dX5_give_1 : decode cX5_give 1 = .ok (.getfield 14, 3) := by decide +kernel
theorem dX5_give_4 : decode cX5_give 4 = .ok (.iload_n 1, 1) := by decide +kernel
theorem dX5_give_5 : decode cX5_give 5 = .ok (.iload_n 2, 1) := by decide +kernel
theorem dX5_give_6 : decode cX5_give 6 = .ok (.iastore, 1) := by decide +kernel
theorem dX5_give_7 : decode cX5_give 7 = .ok (.aload_n 0, 1) := by decide +kernel
theorem dX5_give_8 : decode cX5_give 8 = .ok (.getfield 18, 3) := by decide +kernel
theorem dX5_give_11 : decode cX5_give 11 = .ok (.iload_n 1, 1) := by decide +kernel
theorem dX5_give_12 : decode cX5_give 12 = .ok (.iload_n 3, 1) := by decide +kernel
theorem dX5_give_13 : decode cX5_give 13 = .ok (.iastore, 1) := by decide +kernel
theorem dX5_give_14 : decode cX5_give 14 = .ok (.iconst 0, 1) := by decide +kernel
theorem dX5_give_15 : decode cX5_give 15 = .ok (.istore 4, 2) := by decide +kernel
theorem dX5_give_17 : decode cX5_give 17 = .ok (.iload 4, 2) := by decide +kernel
theorem dX5_give_19 : decode cX5_give 19 = .ok (.iload_n 3, 1) := by decide +kernel
theorem dX5_give_20 : decode cX5_give 20 = .ok (.if_icmp .ge 19, 3) := by decide +kernel
theorem dX5_give_23 : decode cX5_give 23 = .ok (.aload_n 0, 1) := by decide +kernel
theorem dX5_give_24 : decode cX5_give 24 = .ok (.getfield 11, 3) := by decide +kernel
theorem dX5_give_27 : decode cX5_give 27 = .ok (.iload_n 1, 1) := by decide +kernel
theorem dX5_give_28 : decode cX5_give 28 = .ok (.aaload, 1) := by decide +kernel
theorem dX5_give_29 : decode cX5_give 29 = .ok (.iload 4, 2) := by decide +kernel
theorem dX5_give_31 : decode cX5_give 31 = .ok (.iconst 0, 1) := by decide +kernel
theorem dX5_give_32 : decode cX5_give 32 = .ok (.iastore, 1) := by decide +kernel
theorem dX5_give_33 : decode cX5_give 33 = .ok (.iinc 4 1, 3) := by decide +kernel
theorem dX5_give_36 : decode cX5_give 36 = .ok (.goto (-19), 3) := by decide +kernel
theorem dX5_give_39 : decode cX5_give 39 = .ok (.return_, 1) := by decide +kernel
theorem dX6_init_0 : decode cX6_init 0 = .ok (.aload_n 0, 1) := by decide +kernel
theorem dX6_init_1 : decode cX6_init 1 = .ok (.invokespecial 3, 3) := by decide +kernel
theorem dX6_init_4 : decode cX6_init 4 = .ok (.aload_n 0, 1) := by decide +kernel
theorem dX6_init_5 : decode cX6_init 5 = .ok (.iconst 4, 1) := by decide +kernel
theorem dX6_init_6 : decode cX6_init 6 = .ok (.newarray .int, 2) := by decide +kernel
theorem dX6_init_8 : decode cX6_init 8 = .ok (.putfield 9, 3) := by decide +kernel
theorem dX6_init_11 : decode cX6_init 11 = .ok (.aload_n 0, 1) := by decide +kernel
theorem dX6_init_12 : decode cX6_init 12 = .ok (.iconst 4, 1) := by decide +kernel
theorem dX6_init_13 : decode cX6_init 13 = .ok (.newarray .int, 2) := by decide +kernel
theorem dX6_init_15 : decode cX6_init 15 = .ok (.putfield 15, 3) := by decide +kernel
theorem dX6_init_18 : decode cX6_init 18 = .ok (.aload_n 0, 1) := by decide +kernel
theorem dX6_init_19 : decode cX6_init 19 = .ok (.iconst 4, 1) := by decide +kernel
theorem dX6_init_20 : decode cX6_init 20 = .ok (.newarray .int, 2) := by decide +kernel
theorem dX6_init_22 : decode cX6_init 22 = .ok (.putfield 18, 3) := by decide +kernel
theorem dX6_init_25 : decode cX6_init 25 = .ok (.aload_n 0, 1) := by decide +kernel
theorem dX6_init_26 : decode cX6_init 26 = .ok (.iconst 4, 1) := by decide +kernel
theorem dX6_init_27 : decode cX6_init 27 = .ok (.newarray .int, 2) := by decide +kernel
theorem dX6_init_29 : decode cX6_init 29 = .ok (.putfield 21, 3) := by decide +kernel
theorem dX6_init_32 : decode cX6_init 32 = .ok (.aload_n 0, 1) := by decide +kernel
theorem dX6_init_33 : decode cX6_init 33 = .ok (.iconst 4, 1) := by decide +kernel
theorem dX6_init_34 : decode cX6_init 34 = .ok (.bipush 8, 2) := by decide +kernel
theorem dX6_init_36 : decode cX6_init 36 = .ok (.multianewarray 24 2, 4) := by decide +kernel
theorem dX6_init_40 : decode cX6_init 40 = .ok (.putfield 26, 3) := by decide +kernel
theorem dX6_init_43 : decode cX6_init 43 = .ok (.return_, 1) := by decide +kernel
theorem dX6_readText_0 : decode cX6_readText 0 = .ok (.aload_n 0, 1) := by decide +kernel
theorem dX6_readText_1 : decode cX6_readText 1 = .ok (.aload_n 1, 1) := by decide +kernel
theorem dX6_readText_2 : decode cX6_readText 2 = .ok (.iload_n 2, 1) := by decide +kernel
theorem dX6_readText_3 : decode cX6_readText 3 = .ok (.iconst 1, 1) := by decide +kernel
theorem dX6_readText_4 : decode cX6_readText 4 = .ok (.iadd, 1) := by decide +kernel
theorem dX6_readText_5 : decode cX6_readText 5 = .ok (.iaload, 1) := by decide +kernel
theorem dX6_readText_6 : decode cX6_readText 6 = .ok (.bipush 48, 2) := by decide +kernel
theorem dX6_readText_8 : decode cX6_readText 8 = .ok (.isub, 1) := by decide +kernel
theorem dX6_readText_9 : decode cX6_readText 9 = .ok (.putfield 29, 3) := by decide +kernel
theorem dX6_readText_12 : decode cX6_readText 12 = .ok (.aload_n 0, 1) := by decide +kernel
theorem dX6_readText_13 : decode cX6_readText 13 = .ok (.iload_n 3, 1) := by decide +kernel
theorem dX6_readText_14 : decode cX6_readText 14 = .ok (.iconst 2, 1) := by decide +kernel
theorem dX6_readText_15 : decode cX6_readText 15 = .ok (.isub, 1) := by decide +kernel
theorem dX6_readText_16 : decode cX6_readText 16 = .ok (.bipush 6, 2) := by decide +kernel
theorem dX6_readText_18 : decode cX6_readText 18 = .ok (.idiv, 1) := by decide +kernel
theorem dX6_readText_19 : decode cX6_readText 19 = .ok (.putfield 35, 3) := by decide +kernel
theorem dX6_readText_22 : decode cX6_readText 22 = .ok (.iconst 0, 1) := by decide +kernel
theorem dX6_readText_23 : decode cX6_readText 23 = .ok (.istore 4, 2) := by decide +kernel
theorem dX6_readText_25 : decode cX6_readText 25 = .ok (.iload 4, 2) := by decide +kernel
theorem dX6_readText_27 : decode cX6_readText 27 = .ok (.aload_n 0, 1) := by decide +kernel
theorem dX6_readText_28 : decode cX6_readText 28 = .ok (.getfield 35, 3) := by decide +kernel
theorem dX6_readText_31 : decode cX6_readText 31 = .ok (.if_icmp .ge 114, 3) := by decide +kernel
theorem dX6_readText_34 : decode cX6_readText 34 = .ok (.iload_n 2, 1) := by decide +kernel
theorem dX6_readText_35 : decode cX6_readText 35 = .ok (.iconst 2, 1) := by decide +kernel
theorem dX6_readText_36 : decode cX6_readText 36 = .ok (.iadd, 1) := by decide +kernel
theorem dX6_readText_37 : decode cX6_readText 37 = .ok (.iload 4, 2) := by decide +kernel
theorem dX6_readText_39 : decode cX6_readText 39 = .ok (.bipush 6, 2) := by decide +kernel
theorem dX6_readText_41 : decode cX6_readText 41 = .ok (.imul, 1) := by decide +kernel
theorem dX6_readText_42 : decode cX6_readText 42 = .ok (.iadd, 1) := by decide +kernel
theorem dX6_readText_43 : decode cX6_readText 43 = .ok (.istore 5, 2) := by decide +kernel
theorem dX6_readText_45 : decode cX6_readText 45 = .ok (.aload_n 0, 1) := by decide +kernel
theorem dX6_readText_46 : decode cX6_readText 46 = .ok (.getfield 9, 3) := by decide +kernel
theorem dX6_readText_49 : decode cX6_readText 49 = .ok (.iload 4, 2) := by decide +kernel
theorem dX6_readText_51 : decode cX6_readText 51 = .ok (.aload_n 1, 1) := by decide +kernel
theorem dX6_readText_52 : decode cX6_readText 52 = .ok (.iload 5, 2) := by decide +kernel
theorem dX6_readText_54 : decode cX6_readText 54 = .ok (.iconst 2, 1) := by decide +kernel
theorem dX6_readText_55 : decode cX6_readText 55 = .ok (.iadd, 1) := by decide +kernel
theorem dX6_readText_56 : decode cX6_readText 56 = .ok (.iaload, 1) := by decide +kernel
theorem dX6_readText_57 : decode cX6_readText 57 = .ok (.bipush 48, 2) := by decide +kernel
theorem dX6_readText_59 : decode cX6_readText 59 = .ok (.isub, 1) := by decide +kernel
theorem dX6_readText_60 : decode cX6_readText 60 = .ok (.iastore, 1) := by decide +kernel
theorem dX6_readText_61 : decode cX6_readText 61 = .ok (.aload_n 0, 1) := by decide +kernel
theorem dX6_readText_62 : decode cX6_readText 62 = .ok (.getfield 15, 3) := by decide +kernel
theorem dX6_readText_65 : decode cX6_readText 65 = .ok (.iload 4, 2) := by decide +kernel
theorem dX6_readText_67 : decode cX6_readText 67 = .ok (.aload_n 1, 1) := by decide +kernel
theorem dX6_readText_68 : decode cX6_readText 68 = .ok (.iload 5, 2) := by decide +kernel
theorem dX6_readText_70 : decode cX6_readText 70 = .ok (.iconst 3, 1) := by decide +kernel
theorem dX6_readText_71 : decode cX6_readText 71 = .ok (.iadd, 1) := by decide +kernel
theorem dX6_readText_72 : decode cX6_readText 72 = .ok (.iaload, 1) := by decide +kernel
theorem dX6_readText_73 : decode cX6_readText 73 = .ok (.bipush 48, 2) := by decide +kernel
theorem dX6_readText_75 : decode cX6_readText 75 = .ok (.isub, 1) := by decide +kernel
theorem dX6_readText_76 : decode cX6_readText 76 = .ok (.iastore, 1) := by decide +kernel
theorem dX6_readText_77 : decode cX6_readText 77 = .ok (.aload_n 0, 1) := by decide +kernel
theorem dX6_readText_78 : decode cX6_readText 78 = .ok (.getfield 18, 3) := by decide +kernel
theorem dX6_readText_81 : decode cX6_readText 81 = .ok (.iload 4, 2) := by decide +kernel
theorem dX6_readText_83 : decode cX6_readText 83 = .ok (.aload_n 1, 1) := by decide +kernel
theorem dX6_readText_84 : decode cX6_readText 84 = .ok (.iload 5, 2) := by decide +kernel
theorem dX6_readText_86 : decode cX6_readText 86 = .ok (.iconst 4, 1) := by decide +kernel
theorem dX6_readText_87 : decode cX6_readText 87 = .ok (.iadd, 1) := by decide +kernel
theorem dX6_readText_88 : decode cX6_readText 88 = .ok (.iaload, 1) := by decide +kernel
theorem dX6_readText_89 : decode cX6_readText 89 = .ok (.bipush 48, 2) := by decide +kernel
theorem dX6_readText_91 : decode cX6_readText 91 = .ok (.isub, 1) := by decide +kernel
theorem dX6_readText_92 : decode cX6_readText 92 = .ok (.iastore, 1) := by decide +kernel
theorem dX6_readText_93 : decode cX6_readText 93 = .ok (.aload_n 0, 1) := by decide +kernel
theorem dX6_readText_94 : decode cX6_readText 94 = .ok (.getfield 21, 3) := by decide +kernel
theorem dX6_readText_97 : decode cX6_readText 97 = .ok (.iload 4, 2) := by decide +kernel
theorem dX6_readText_99 : decode cX6_readText 99 = .ok (.aload_n 1, 1) := by decide +kernel
theorem dX6_readText_100 : decode cX6_readText 100 = .ok (.iload 5, 2) := by decide +kernel
theorem dX6_readText_102 : decode cX6_readText 102 = .ok (.iconst 5, 1) := by decide +kernel
theorem dX6_readText_103 : decode cX6_readText 103 = .ok (.iadd, 1) := by decide +kernel
theorem dX6_readText_104 : decode cX6_readText 104 = .ok (.iaload, 1) := by decide +kernel
theorem dX6_readText_105 : decode cX6_readText 105 = .ok (.bipush 48, 2) := by decide +kernel
theorem dX6_readText_107 : decode cX6_readText 107 = .ok (.isub, 1) := by decide +kernel
theorem dX6_readText_108 : decode cX6_readText 108 = .ok (.iastore, 1) := by decide +kernel
theorem dX6_readText_109 : decode cX6_readText 109 = .ok (.iconst 0, 1) := by decide +kernel
theorem dX6_readText_110 : decode cX6_readText 110 = .ok (.istore 6, 2) := by decide +kernel
theorem dX6_readText_112 : decode cX6_readText 112 = .ok (.iload 6, 2) := by decide +kernel
theorem dX6_readText_114 : decode cX6_readText 114 = .ok (.aload_n 0, 1) := by decide +kernel
theorem dX6_readText_115 : decode cX6_readText 115 = .ok (.getfield 29, 3) := by decide +kernel
theorem dX6_readText_118 : decode cX6_readText 118 = .ok (.if_icmp .ge 21, 3) := by decide +kernel
theorem dX6_readText_121 : decode cX6_readText 121 = .ok (.aload_n 0, 1) := by decide +kernel
theorem dX6_readText_122 : decode cX6_readText 122 = .ok (.getfield 26, 3) := by decide +kernel
theorem dX6_readText_125 : decode cX6_readText 125 = .ok (.iload 4, 2) := by decide +kernel
theorem dX6_readText_127 : decode cX6_readText 127 = .ok (.aaload, 1) := by decide +kernel
theorem dX6_readText_128 : decode cX6_readText 128 = .ok (.iload 6, 2) := by decide +kernel
theorem dX6_readText_130 : decode cX6_readText 130 = .ok (.bipush 9, 2) := by decide +kernel
theorem dX6_readText_132 : decode cX6_readText 132 = .ok (.iastore, 1) := by decide +kernel
theorem dX6_readText_133 : decode cX6_readText 133 = .ok (.iinc 6 1, 3) := by decide +kernel
theorem dX6_readText_136 : decode cX6_readText 136 = .ok (.goto (-24), 3) := by decide +kernel
theorem dX6_readText_139 : decode cX6_readText 139 = .ok (.iinc 4 1, 3) := by decide +kernel
theorem dX6_readText_142 : decode cX6_readText 142 = .ok (.goto (-117), 3) := by decide +kernel
theorem dX6_readText_145 : decode cX6_readText 145 = .ok (.aload_n 0, 1) := by decide +kernel
theorem dX6_readText_146 : decode cX6_readText 146 = .ok (.iconst 0, 1) := by decide +kernel
theorem dX6_readText_147 : decode cX6_readText 147 = .ok (.putfield 38, 3) := by decide +kernel
theorem dX6_readText_150 : decode cX6_readText 150 = .ok (.aload_n 0, 1) := by decide +kernel
theorem dX6_readText_151 : decode cX6_readText 151 = .ok (.iconst 0, 1) := by decide +kernel
theorem dX6_readText_152 : decode cX6_readText 152 = .ok (.putfield 41, 3) := by decide +kernel
theorem dX6_readText_155 : decode cX6_readText 155 = .ok (.return_, 1) := by decide +kernel
theorem dX6_become_0 : decode cX6_become 0 = .ok (.aload_n 0, 1) := by decide +kernel
theorem dX6_become_1 : decode cX6_become 1 = .ok (.aload_n 1, 1) := by decide +kernel
theorem dX6_become_2 : decode cX6_become 2 = .ok (.getfield 29, 3) := by decide +kernel
theorem dX6_become_5 : decode cX6_become 5 = .ok (.putfield 29, 3) := by decide +kernel
theorem dX6_become_8 : decode cX6_become 8 = .ok (.aload_n 0, 1) := by decide +kernel
theorem dX6_become_9 : decode cX6_become 9 = .ok (.aload_n 1, 1) := by decide +kernel
theorem dX6_become_10 : decode cX6_become 10 = .ok (.getfield 35, 3) := by decide +kernel
theorem dX6_become_13 : decode cX6_become 13 = .ok (.putfield 35, 3) := by decide +kernel
theorem dX6_become_16 : decode cX6_become 16 = .ok (.aload_n 0, 1) := by decide +kernel
theorem dX6_become_17 : decode cX6_become 17 = .ok (.aload_n 1, 1) := by decide +kernel
theorem dX6_become_18 : decode cX6_become 18 = .ok (.getfield 38, 3) := by decide +kernel
theorem dX6_become_21 : decode cX6_become 21 = .ok (.putfield 38, 3) := by decide +kernel
theorem dX6_become_24 : decode cX6_become 24 = .ok (.aload_n 0, 1) := by decide +kernel
theorem dX6_become_25 : decode cX6_become 25 = .ok (.aload_n 1, 1) := by decide +kernel
theorem dX6_become_26 : decode cX6_become 26 = .ok (.getfield 41, 3) := by decide +kernel
theorem dX6_become_29 : decode cX6_become 29 = .ok (.putfield 41, 3) := by decide +kernel
theorem dX6_become_32 : decode cX6_become 32 = .ok (.aload_n 1, 1) := by decide +kernel
theorem dX6_become_33 : decode cX6_become 33 = .ok (.getfield 9, 3) := by decide +kernel
theorem dX6_become_36 : decode cX6_become 36 = .ok (.iconst 0, 1) := by decide +kernel
theorem dX6_become_37 : decode cX6_become 37 = .ok (.aload_n 0, 1) := by decide +kernel
theorem dX6_become_38 : decode cX6_become 38 = .ok (.getfield 9, 3) := by decide +kernel
theorem dX6_become_41 : decode cX6_become 41 = .ok (.iconst 0, 1) := by decide +kernel
theorem dX6_become_42 : decode cX6_become 42 = .ok (.iconst 4, 1) := by decide +kernel
theorem dX6_become_43 : decode cX6_become 43 = .ok (.invokestatic 45, 3) := by decide +kernel
theorem dX6_become_46 : decode cX6_become 46 = .ok (.aload_n 1, 1) := by decide +kernel
theorem dX6_become_47 : decode cX6_become 47 = .ok (.getfield 15, 3) := by decide +kernel
theorem dX6_become_50 : decode cX6_become 50 = .ok (.iconst 0, 1) := by decide +kernel
theorem dX6_become_51 : decode cX6_become 51 = .ok (.aload_n 0, 1) := by decide +kernel
theorem dX6_become_52 : decode cX6_become 52 = .ok (.getfield 15, 3) := by decide +kernel
theorem dX6_become_55 : decode cX6_become 55 = .ok (.iconst 0, 1) := by decide +kernel
theorem dX6_become_56 : decode cX6_become 56 = .ok (.iconst 4, 1) := by decide +kernel
theorem dX6_become_57 : decode cX6_become 57 = .ok (.invokestatic 45, 3) := by decide +kernel
theorem dX6_become_60 : decode cX6_become 60 = .ok (.aload_n 1, 1) := by decide +kernel
theorem dX6_become_61 : decode cX6_become 61 = .ok (.getfield 18, 3) := by decide +kernel
theorem dX6_become_64 : decode cX6_become 64 = .ok (.iconst 0, 1) := by decide +kernel
theorem dX6_become_65 : decode cX6_become 65 = .ok (.aload_n 0, 1) := by decide +kernel
theorem dX6_become_66 : decode cX6_become 66 = .ok (.getfield 18, 3) := by decide +kernel
theorem dX6_become_69 : decode cX6_become 69 = .ok (.iconst 0, 1) := by decide +kernel
theorem dX6_become_70 : decode cX6_become 70 = .ok (.iconst 4, 1) := by decide +kernel
theorem dX6_become_71 : decode cX6_become 71 = .ok (.invokestatic 45, 3) := by decide +kernel
theorem dX6_become_74 : decode cX6_become 74 = .ok (.aload_n 1, 1) := by decide +kernel
theorem dX6_become_75 : decode cX6_become 75 = .ok (.getfield 21, 3) := by decide +kernel
theorem dX6_become_78 : decode cX6_become 78 = .ok (.iconst 0, 1) := by decide +kernel
theorem dX6_become_79 : decode cX6_become 79 = .ok (.aload_n 0, 1) := by decide +kernel
theorem dX6_become_80 : decode cX6_become 80 = .ok (.getfield 21, 3) := by decide +kernel
theorem dX6_become_83 : decode cX6_become 83 = .ok (.iconst 0, 1) := by decide +kernel
theorem dX6_become_84 : decode cX6_become 84 = .ok (.iconst 4, 1) := by decide +kernel
theorem dX6_become_85 : decode cX6_become 85 = .ok (.invokestatic 45, 3) := by decide +kernel
theorem dX6_become_88 : decode cX6_become 88 = .ok (.iconst 0, 1) := by decide +kernel
theorem dX6_become_89 : decode cX6_become 89 = .ok (.istore_n 2, 1) := by decide +kernel
theorem dX6_become_90 : decode cX6_become 90 = .ok (.iload_n 2, 1) := by decide +kernel
theorem dX6_become_91 : decode cX6_become 91 = .ok (.iconst 4, 1) := by decide +kernel
theorem dX6_become_92 : decode cX6_become 92 = .ok (.if_icmp .ge 28, 3) := by decide +kernel
theorem dX6_become_95 : decode cX6_become 95 = .ok (.aload_n 1, 1) := by decide +kernel
theorem dX6_become_96 : decode cX6_become 96 = .ok (.getfield 26, 3) := by decide +kernel
theorem dX6_become_99 : decode cX6_become 99 = .ok (.iload_n 2, 1) := by decide +kernel
theorem dX6_become_100 : decode cX6_become 100 = .ok (.aaload, 1) := by decide +kernel
theorem dX6_become_101 : decode cX6_become 101 = .ok (.iconst 0, 1) := by decide +kernel
theorem dX6_become_102 : decode cX6_become 102 = .ok (.aload_n 0, 1) := by decide +kernel
theorem dX6_become_103 : decode cX6_become 103 = .ok (.getfield 26, 3) := by decide +kernel
theorem dX6_become_106 : decode cX6_become 106 = .ok (.iload_n 2, 1) := by decide +kernel
theorem dX6_become_107 : decode cX6_become 107 = .ok (.aaload, 1) := by decide +kernel
theorem dX6_become_108 : decode cX6_become 108 = .ok (.iconst 0, 1) := by decide +kernel
theorem dX6_become_109 : decode cX6_become 109 = .ok (.bipush 8, 2) := by decide +kernel
theorem dX6_become_111 : decode cX6_become 111 = .ok (.invokestatic 45, 3) := by decide +kernel
theorem dX6_become_114 : decode cX6_become 114 = .ok (.iinc 2 1, 3) := by decide +kernel
theorem dX6_become_117 : decode cX6_become 117 = .ok (.goto (-27), 3) := by decide +kernel
theorem dX6_become_120 : decode cX6_become 120 = .ok (.return_, 1) := by decide +kernel
theorem dX6_isTold_0 : decode cX6_isTold 0 = .ok (.aload_n 0, 1) := by decide +kernel
theorem dX6_isTold_1 : decode cX6_isTold 1 = .ok (.getfield 35, 3) := by decide +kernel
theorem dX6_isTold_4 : decode cX6_isTold 4 = .ok (.ifCond .le 7, 3) := by decide +kernel
theorem dX6_isTold_7 : decode cX6_isTold 7 = .ok (.iconst 1, 1) := by decide +kernel
theorem dX6_isTold_8 : decode cX6_isTold 8 = .ok (.goto 4, 3) := by decide +kernel
theorem dX6_isTold_11 : decode cX6_isTold 11 = .ok (.iconst 0, 1) := by decide +kernel
theorem dX6_isTold_12 : decode cX6_isTold 12 = .ok (.ireturn, 1) := by decide +kernel
theorem dX6_hasSort_0 : decode cX6_hasSort 0 = .ok (.iload_n 1, 1) := by decide +kernel
theorem dX6_hasSort_1 : decode cX6_hasSort 1 = .ok (.ifCond .lt 15, 3) := by decide +kernel
theorem dX6_hasSort_4 : decode cX6_hasSort 4 = .ok (.iload_n 1, 1) := by decide +kernel
theorem dX6_hasSort_5 : decode cX6_hasSort 5 = .ok (.aload_n 0, 1) := by decide +kernel
theorem dX6_hasSort_6 : decode cX6_hasSort 6 = .ok (.getfield 35, 3) := by decide +kernel
theorem dX6_hasSort_9 : decode cX6_hasSort 9 = .ok (.if_icmp .ge 7, 3) := by decide +kernel
theorem dX6_hasSort_12 : decode cX6_hasSort 12 = .ok (.iconst 1, 1) := by decide +kernel
theorem dX6_hasSort_13 : decode cX6_hasSort 13 = .ok (.goto 4, 3) := by decide +kernel
theorem dX6_hasSort_16 : decode cX6_hasSort 16 = .ok (.iconst 0, 1) := by decide +kernel
theorem dX6_hasSort_17 : decode cX6_hasSort 17 = .ok (.ireturn, 1) := by decide +kernel
theorem dX6_hasPlace_0 : decode cX6_hasPlace 0 = .ok (.aload_n 0, 1) := by decide +kernel
theorem dX6_hasPlace_1 : decode cX6_hasPlace 1 = .ok (.iload_n 1, 1) := by decide +kernel
theorem dX6_hasPlace_2 : decode cX6_hasPlace 2 = .ok (.invokevirtual 51, 3) := by decide +kernel
theorem dX6_hasPlace_5 : decode cX6_hasPlace 5 = .ok (.ifCond .eq 19, 3) := by decide +kernel
theorem dX6_hasPlace_8 : decode cX6_hasPlace 8 = .ok (.iload_n 2, 1) := by decide +kernel
theorem dX6_hasPlace_9 : decode cX6_hasPlace 9 = .ok (.ifCond .lt 15, 3) := by decide +kernel
theorem dX6_hasPlace_12 : decode cX6_hasPlace 12 = .ok (.iload_n 2, 1) := by decide +kernel
theorem dX6_hasPlace_13 : decode cX6_hasPlace 13 = .ok (.aload_n 0, 1) := by decide +kernel
theorem dX6_hasPlace_14 : decode cX6_hasPlace 14 = .ok (.getfield 29, 3) := by decide +kernel
theorem dX6_hasPlace_17 : decode cX6_hasPlace 17 = .ok (.if_icmp .ge 7, 3) := by decide +kernel
theorem dX6_hasPlace_20 : decode cX6_hasPlace 20 = .ok (.iconst 1, 1) := by decide +kernel
theorem dX6_hasPlace_21 : decode cX6_hasPlace 21 = .ok (.goto 4, 3) := by decide +kernel
theorem dX6_hasPlace_24 : decode cX6_hasPlace 24 = .ok (.iconst 0, 1) := by decide +kernel
theorem dX6_hasPlace_25 : decode cX6_hasPlace 25 = .ok (.ireturn, 1) := by decide +kernel
theorem dX6_freshAt_0 : decode cX6_freshAt 0 = .ok (.aload_n 0, 1) := by decide +kernel
theorem dX6_freshAt_1 : decode cX6_freshAt 1 = .ok (.getfield 18, 3) := by decide +kernel
theorem dX6_freshAt_4 : decode cX6_freshAt 4 = .ok (.iload_n 1, 1) := by decide +kernel
theorem dX6_freshAt_5 : decode cX6_freshAt 5 = .ok (.iaload, 1) := by decide +kernel
theorem dX6_freshAt_6 : decode cX6_freshAt 6 = .ok (.iload_n 2, 1) := by decide +kernel
theorem dX6_freshAt_7 : decode cX6_freshAt 7 = .ok (.aload_n 0, 1) := by decide +kernel
theorem dX6_freshAt_8 : decode cX6_freshAt 8 = .ok (.getfield 21, 3) := by decide +kernel
theorem dX6_freshAt_11 : decode cX6_freshAt 11 = .ok (.iload_n 1, 1) := by decide +kernel
theorem dX6_freshAt_12 : decode cX6_freshAt 12 = .ok (.iaload, 1) := by decide +kernel
theorem dX6_freshAt_13 : decode cX6_freshAt 13 = .ok (.imul, 1) := by decide +kernel
theorem dX6_freshAt_14 : decode cX6_freshAt 14 = .ok (.isub, 1) := by decide +kernel
theorem dX6_freshAt_15 : decode cX6_freshAt 15 = .ok (.istore_n 3, 1) := by decide +kernel
theorem dX6_freshAt_16 : decode cX6_freshAt 16 = .ok (.iload_n 3, 1) := by decide +kernel
theorem dX6_freshAt_17 : decode cX6_freshAt 17 = .ok (.ifCond .le 7, 3) := by decide +kernel
theorem dX6_freshAt_20 : decode cX6_freshAt 20 = .ok (.iload_n 3, 1) := by decide +kernel
theorem dX6_freshAt_21 : decode cX6_freshAt 21 = .ok (.goto 4, 3) := by decide +kernel
theorem dX6_freshAt_24 : decode cX6_freshAt 24 = .ok (.iconst 0, 1) := by decide +kernel
theorem dX6_freshAt_25 : decode cX6_freshAt 25 = .ok (.ireturn, 1) := by decide +kernel
theorem dX6_allFish_0 : decode cX6_allFish 0 = .ok (.iconst 0, 1) := by decide +kernel
theorem dX6_allFish_1 : decode cX6_allFish 1 = .ok (.istore_n 1, 1) := by decide +kernel
theorem dX6_allFish_2 : decode cX6_allFish 2 = .ok (.iconst 0, 1) := by decide +kernel
theorem dX6_allFish_3 : decode cX6_allFish 3 = .ok (.istore_n 2, 1) := by decide +kernel
theorem dX6_allFish_4 : decode cX6_allFish 4 = .ok (.iload_n 2, 1) := by decide +kernel
theorem dX6_allFish_5 : decode cX6_allFish 5 = .ok (.aload_n 0, 1) := by decide +kernel
theorem dX6_allFish_6 : decode cX6_allFish 6 = .ok (.getfield 35, 3) := by decide +kernel
theorem dX6_allFish_9 : decode cX6_allFish 9 = .ok (.if_icmp .ge 18, 3) := by decide +kernel
theorem dX6_allFish_12 : decode cX6_allFish 12 = .ok (.iload_n 1, 1) := by decide +kernel
theorem dX6_allFish_13 : decode cX6_allFish 13 = .ok (.aload_n 0, 1) := by decide +kernel
theorem dX6_allFish_14 : decode cX6_allFish 14 = .ok (.getfield 9, 3) := by decide +kernel
theorem dX6_allFish_17 : decode cX6_allFish 17 = .ok (.iload_n 2, 1) := by decide +kernel
theorem dX6_allFish_18 : decode cX6_allFish 18 = .ok (.iaload, 1) := by decide +kernel
theorem dX6_allFish_19 : decode cX6_allFish 19 = .ok (.iadd, 1) := by decide +kernel
theorem dX6_allFish_20 : decode cX6_allFish 20 = .ok (.istore_n 1, 1) := by decide +kernel
theorem dX6_allFish_21 : decode cX6_allFish 21 = .ok (.iinc 2 1, 3) := by decide +kernel
theorem dX6_allFish_24 : decode cX6_allFish 24 = .ok (.goto (-20), 3) := by decide +kernel
theorem dX6_allFish_27 : decode cX6_allFish 27 = .ok (.iload_n 1, 1) := by decide +kernel
theorem dX6_allFish_28 : decode cX6_allFish 28 = .ok (.ireturn, 1) := by decide +kernel
theorem dX6_costOfAll_0 : decode cX6_costOfAll 0 = .ok (.iconst 0, 1) := by decide +kernel
theorem dX6_costOfAll_1 : decode cX6_costOfAll 1 = .ok (.istore_n 1, 1) := by decide +kernel
theorem dX6_costOfAll_2 : decode cX6_costOfAll 2 = .ok (.iconst 0, 1) := by decide +kernel
theorem dX6_costOfAll_3 : decode cX6_costOfAll 3 = .ok (.istore_n 2, 1) := by decide +kernel
theorem dX6_costOfAll_4 : decode cX6_costOfAll 4 = .ok (.iload_n 2, 1) := by decide +kernel
theorem dX6_costOfAll_5 : decode cX6_costOfAll 5 = .ok (.aload_n 0, 1) := by decide +kernel
theorem dX6_costOfAll_6 : decode cX6_costOfAll 6 = .ok (.getfield 35, 3) := by decide +kernel
theorem dX6_costOfAll_9 : decode cX6_costOfAll 9 = .ok (.if_icmp .ge 25, 3) := by decide +kernel
theorem dX6_costOfAll_12 : decode cX6_costOfAll 12 = .ok (.iload_n 1, 1) := by decide +kernel
theorem dX6_costOfAll_13 : decode cX6_costOfAll 13 = .ok (.aload_n 0, 1) := by decide +kernel
theorem dX6_costOfAll_14 : decode cX6_costOfAll 14 = .ok (.getfield 9, 3) := by decide +kernel
theorem dX6_costOfAll_17 : decode cX6_costOfAll 17 = .ok (.iload_n 2, 1) := by decide +kernel
theorem dX6_costOfAll_18 : decode cX6_costOfAll 18 = .ok (.iaload, 1) := by decide +kernel
theorem dX6_costOfAll_19 : decode cX6_costOfAll 19 = .ok (.aload_n 0, 1) := by decide +kernel
theorem dX6_costOfAll_20 : decode cX6_costOfAll 20 = .ok (.getfield 15, 3) := by decide +kernel
theorem dX6_costOfAll_23 : decode cX6_costOfAll 23 = .ok (.iload_n 2, 1) := by decide +kernel
theorem dX6_costOfAll_24 : decode cX6_costOfAll 24 = .ok (.iaload, 1) := by decide +kernel
theorem dX6_costOfAll_25 : decode cX6_costOfAll 25 = .ok (.imul, 1) := by decide +kernel
theorem dX6_costOfAll_26 : decode cX6_costOfAll 26 = .ok (.iadd, 1) := by decide +kernel
theorem dX6_costOfAll_27 : decode cX6_costOfAll 27 = .ok (.istore_n 1, 1) := by decide +kernel
theorem dX6_costOfAll_28 : decode cX6_costOfAll 28 = .ok (.iinc 2 1, 3) := by decide +kernel
theorem dX6_costOfAll_31 : decode cX6_costOfAll 31 = .ok (.goto (-27), 3) := by decide +kernel
theorem dX6_costOfAll_34 : decode cX6_costOfAll 34 = .ok (.iload_n 1, 1) := by decide +kernel
theorem dX6_costOfAll_35 : decode cX6_costOfAll 35 = .ok (.ireturn, 1) := by decide +kernel
theorem dX6_isCheaperNext_0 : decode cX6_isCheaperNext 0 = .ok (.iload_n 2, 1) := by decide +kernel
theorem dX6_isCheaperNext_1 : decode cX6_isCheaperNext 1 = .ok (.iconst 1, 1) := by decide +kernel
theorem dX6_isCheaperNext_2 : decode cX6_isCheaperNext 2 = .ok (.iadd, 1) := by decide +kernel
theorem dX6_isCheaperNext_3 : decode cX6_isCheaperNext 3 = .ok (.aload_n 0, 1) := by decide +kernel
theorem dX6_isCheaperNext_4 : decode cX6_isCheaperNext 4 = .ok (.getfield 29, 3) := by decide +kernel
theorem dX6_isCheaperNext_7 : decode cX6_isCheaperNext 7 = .ok (.if_icmp .ge 28, 3) := by decide +kernel
theorem dX6_isCheaperNext_10 : decode cX6_isCheaperNext 10 = .ok (.aload_n 0, 1) := by decide +kernel
theorem dX6_isCheaperNext_11 : decode cX6_isCheaperNext 11 = .ok (.getfield 26, 3) := by decide +kernel
theorem dX6_isCheaperNext_14 : decode cX6_isCheaperNext 14 = .ok (.iload_n 1, 1) := by decide +kernel
theorem dX6_isCheaperNext_15 : decode cX6_isCheaperNext 15 = .ok (.aaload, 1) := by decide +kernel
theorem dX6_isCheaperNext_16 : decode cX6_isCheaperNext 16 = .ok (.iload_n 2, 1) := by decide +kernel
theorem dX6_isCheaperNext_17 : decode cX6_isCheaperNext 17 = .ok (.iconst 1, 1) := by decide +kernel
theorem dX6_isCheaperNext_18 : decode cX6_isCheaperNext 18 = .ok (.iadd, 1) := by decide +kernel
theorem dX6_isCheaperNext_19 : decode cX6_isCheaperNext 19 = .ok (.iaload, 1) := by decide +kernel
theorem dX6_isCheaperNext_20 : decode cX6_isCheaperNext 20 = .ok (.aload_n 0, 1) := by decide +kernel
theorem dX6_isCheaperNext_21 : decode cX6_isCheaperNext 21 = .ok (.getfield 26, 3) := by decide +kernel
theorem dX6_isCheaperNext_24 : decode cX6_isCheaperNext 24 = .ok (.iload_n 1, 1) := by decide +kernel
theorem dX6_isCheaperNext_25 : decode cX6_isCheaperNext 25 = .ok (.aaload, 1) := by decide +kernel
theorem dX6_isCheaperNext_26 : decode cX6_isCheaperNext 26 = .ok (.iload_n 2, 1) := by decide +kernel
theorem dX6_isCheaperNext_27 : decode cX6_isCheaperNext 27 = .ok (.iaload, 1) := by decide +kernel
theorem dX6_isCheaperNext_28 : decode cX6_isCheaperNext 28 = .ok (.if_icmp .ge 7, 3) := by decide +kernel
theorem dX6_isCheaperNext_31 : decode cX6_isCheaperNext 31 = .ok (.iconst 1, 1) := by decide +kernel
theorem dX6_isCheaperNext_32 : decode cX6_isCheaperNext 32 = .ok (.goto 4, 3) := by decide +kernel
theorem dX6_isCheaperNext_35 : decode cX6_isCheaperNext 35 = .ok (.iconst 0, 1) := by decide +kernel
theorem dX6_isCheaperNext_36 : decode cX6_isCheaperNext 36 = .ok (.ireturn, 1) := by decide +kernel
theorem dX6_takeOffFrom_0 : decode cX6_takeOffFrom 0 = .ok (.iconst 0, 1) := by decide +kernel
theorem dX6_takeOffFrom_1 : decode cX6_takeOffFrom 1 = .ok (.istore 4, 2) := by decide +kernel
theorem dX6_takeOffFrom_3 : decode cX6_takeOffFrom 3 = .ok (.iload 4, 2) := by decide +kernel
theorem dX6_takeOffFrom_5 : decode cX6_takeOffFrom 5 = .ok (.aload_n 0, 1) := by decide +kernel
theorem dX6_takeOffFrom_6 : decode cX6_takeOffFrom 6 = .ok (.getfield 35, 3) := by decide +kernel
theorem dX6_takeOffFrom_9 : decode cX6_takeOffFrom 9 = .ok (.if_icmp .ge 68, 3) := by decide +kernel
theorem dX6_takeOffFrom_12 : decode cX6_takeOffFrom 12 = .ok (.iconst 0, 1) := by decide +kernel
theorem dX6_takeOffFrom_13 : decode cX6_takeOffFrom 13 = .ok (.istore 5, 2) := by decide +kernel
theorem dX6_takeOffFrom_15 : decode cX6_takeOffFrom 15 = .ok (.iload 5, 2) := by decide +kernel
theorem dX6_takeOffFrom_17 : decode cX6_takeOffFrom 17 = .ok (.aload_n 0, 1) := by decide +kernel
theorem dX6_takeOffFrom_18 : decode cX6_takeOffFrom 18 = .ok (.getfield 29, 3) := by decide +kernel
theorem dX6_takeOffFrom_21 : decode cX6_takeOffFrom 21 = .ok (.if_icmp .ge 50, 3) := by decide +kernel
theorem dX6_takeOffFrom_24 : decode cX6_takeOffFrom 24 = .ok (.aload_n 1, 1) := by decide +kernel
theorem dX6_takeOffFrom_25 : decode cX6_takeOffFrom 25 = .ok (.getfield 26, 3) := by decide +kernel
theorem dX6_takeOffFrom_28 : decode cX6_takeOffFrom 28 = .ok (.iload 4, 2) := by decide +kernel
theorem dX6_takeOffFrom_30 : decode cX6_takeOffFrom 30 = .ok (.aaload, 1) := by decide +kernel
theorem dX6_takeOffFrom_31 : decode cX6_takeOffFrom 31 = .ok (.iload 5, 2) := by decide +kernel
theorem dX6_takeOffFrom_33 : decode cX6_takeOffFrom 33 = .ok (.iaload, 1) := by decide +kernel
theorem dX6_takeOffFrom_34 : decode cX6_takeOffFrom 34 = .ok (.istore 6, 2) := by decide +kernel
theorem dX6_takeOffFrom_36 : decode cX6_takeOffFrom 36 = .ok (.aload_n 0, 1) := by decide +kernel
theorem dX6_takeOffFrom_37 : decode cX6_takeOffFrom 37 = .ok (.getfield 26, 3) := by decide +kernel
theorem dX6_takeOffFrom_40 : decode cX6_takeOffFrom 40 = .ok (.iload 4, 2) := by decide +kernel
theorem dX6_takeOffFrom_42 : decode cX6_takeOffFrom 42 = .ok (.aaload, 1) := by decide +kernel
theorem dX6_takeOffFrom_43 : decode cX6_takeOffFrom 43 = .ok (.iload 5, 2) := by decide +kernel
theorem dX6_takeOffFrom_45 : decode cX6_takeOffFrom 45 = .ok (.iload 5, 2) := by decide +kernel
theorem dX6_takeOffFrom_47 : decode cX6_takeOffFrom 47 = .ok (.iload_n 2, 1) := by decide +kernel
theorem dX6_takeOffFrom_48 : decode cX6_takeOffFrom 48 = .ok (.if_icmp .ge 8, 3) := by decide +kernel
theorem dX6_takeOffFrom_51 : decode cX6_takeOffFrom 51 = .ok (.iload 6, 2) := by decide +kernel
theorem dX6_takeOffFrom_53 : decode cX6_takeOffFrom 53 = .ok (.goto 11, 3) := by decide +kernel
theorem dX6_takeOffFrom_56 : decode cX6_takeOffFrom 56 = .ok (.iconst 0, 1) := by decide +kernel
theorem dX6_takeOffFrom_57 : decode cX6_takeOffFrom 57 = .ok (.iload 6, 2) := by decide +kernel
theorem dX6_takeOffFrom_59 : decode cX6_takeOffFrom 59 = .ok (.iload_n 3, 1) := by decide +kernel
theorem dX6_takeOffFrom_60 : decode cX6_takeOffFrom 60 = .ok (.isub, 1) := by decide +kernel
theorem dX6_takeOffFrom_61 : decode cX6_takeOffFrom 61 = .ok (.invokestatic 55, 3) := by decide +kernel
theorem dX6_takeOffFrom_64 : decode cX6_takeOffFrom 64 = .ok (.iastore, 1) := by decide +kernel
theorem dX6_takeOffFrom_65 : decode cX6_takeOffFrom 65 = .ok (.iinc 5 1, 3) := by decide +kernel
theorem dX6_takeOffFrom_68 : decode cX6_takeOffFrom 68 = .ok (.goto (-53), 3) := by decide +kernel
theorem dX6_takeOffFrom_71 : decode cX6_takeOffFrom 71 = .ok (.iinc 4 1, 3) := by decide +kernel
theorem dX6_takeOffFrom_74 : decode cX6_takeOffFrom 74 = .ok (.goto (-71), 3) := by decide +kernel
theorem dX6_takeOffFrom_77 : decode cX6_takeOffFrom 77 = .ok (.return_, 1) := by decide +kernel
theorem dX7_firstFault_0 : decode cX7_firstFault 0 = .ok (.iconst 0, 1) := by decide +kernel
theorem dX7_firstFault_1 : decode cX7_firstFault 1 = .ok (.istore_n 3, 1) := by decide +kernel
theorem dX7_firstFault_2 : decode cX7_firstFault 2 = .ok (.iload_n 3, 1) := by decide +kernel
theorem dX7_firstFault_3 : decode cX7_firstFault 3 = .ok (.iload_n 2, 1) := by decide +kernel
theorem dX7_firstFault_4 : decode cX7_firstFault 4 = .ok (.if_icmp .ge 23, 3) := by decide +kernel
theorem dX7_firstFault_7 : decode cX7_firstFault 7 = .ok (.aload_n 0, 1) := by decide +kernel
theorem dX7_firstFault_8 : decode cX7_firstFault 8 = .ok (.iload_n 1, 1) := by decide +kernel
theorem dX7_firstFault_9 : decode cX7_firstFault 9 = .ok (.iload_n 3, 1) := by decide +kernel
theorem dX7_firstFault_10 : decode cX7_firstFault 10 = .ok (.iadd, 1) := by decide +kernel
theorem dX7_firstFault_11 : decode cX7_firstFault 11 = .ok (.iaload, 1) := by decide +kernel
theorem dX7_firstFault_12 : decode cX7_firstFault 12 = .ok (.iload_n 3, 1) := by decide +kernel
theorem dX7_firstFault_13 : decode cX7_firstFault 13 = .ok (.invokestatic 9, 3) := by decide +kernel
theorem dX7_firstFault_16 : decode cX7_firstFault 16 = .ok (.ifCond .ne 5, 3) := by decide +kernel
theorem dX7_firstFault_19 : decode cX7_firstFault 19 = .ok (.iload_n 3, 1) := by decide +kernel
theorem dX7_firstFault_20 : decode cX7_firstFault 20 = .ok (.ireturn, 1) := by decide +kernel
theorem dX7_firstFault_21 : decode cX7_firstFault 21 = .ok (.iinc 3 1, 3) := by decide +kernel
theorem dX7_firstFault_24 : decode cX7_firstFault 24 = .ok (.goto (-22), 3) := by decide +kernel
theorem dX7_firstFault_27 : decode cX7_firstFault 27 = .ok (.iload_n 2, 1) := by decide +kernel
theorem dX7_firstFault_28 : decode cX7_firstFault 28 = .ok (.iconst 2, 1) := by decide +kernel
theorem dX7_firstFault_29 : decode cX7_firstFault 29 = .ok (.if_icmp .le 16, 3) := by decide +kernel
theorem dX7_firstFault_32 : decode cX7_firstFault 32 = .ok (.iload_n 2, 1) := by decide +kernel
theorem dX7_firstFault_33 : decode cX7_firstFault 33 = .ok (.iconst 2, 1) := by decide +kernel
theorem dX7_firstFault_34 : decode cX7_firstFault 34 = .ok (.isub, 1) := by decide +kernel
theorem dX7_firstFault_35 : decode cX7_firstFault 35 = .ok (.bipush 6, 2) := by decide +kernel
theorem dX7_firstFault_37 : decode cX7_firstFault 37 = .ok (.irem, 1) := by decide +kernel
theorem dX7_firstFault_38 : decode cX7_firstFault 38 = .ok (.ifCond .ne 7, 3) := by decide +kernel
theorem dX7_firstFault_41 : decode cX7_firstFault 41 = .ok (.iconst 1, 1) := by decide +kernel
theorem dX7_firstFault_42 : decode cX7_firstFault 42 = .ok (.goto 4, 3) := by decide +kernel
theorem dX7_firstFault_45 : decode cX7_firstFault 45 = .ok (.iconst 0, 1) := by decide +kernel
theorem dX7_firstFault_46 : decode cX7_firstFault 46 = .ok (.istore_n 3, 1) := by decide +kernel
theorem dX7_firstFault_47 : decode cX7_firstFault 47 = .ok (.iload_n 3, 1) := by decide +kernel
theorem dX7_firstFault_48 : decode cX7_firstFault 48 = .ok (.ifCond .eq 8, 3) := by decide +kernel
theorem dX7_firstFault_51 : decode cX7_firstFault 51 = .ok (.bipush (-9), 2) := by decide +kernel
theorem dX7_firstFault_53 : decode cX7_firstFault 53 = .ok (.goto 4, 3) := by decide +kernel
theorem dX7_firstFault_56 : decode cX7_firstFault 56 = .ok (.iload_n 2, 1) := by decide +kernel
theorem dX7_firstFault_57 : decode cX7_firstFault 57 = .ok (.ireturn, 1) := by decide +kernel
theorem dX7_goesOn_0 : decode cX7_goesOn 0 = .ok (.iload_n 1, 1) := by decide +kernel
theorem dX7_goesOn_1 : decode cX7_goesOn 1 = .ok (.ifCond .ne 15, 3) := by decide +kernel
theorem dX7_goesOn_4 : decode cX7_goesOn 4 = .ok (.iload_n 0, 1) := by decide +kernel
theorem dX7_goesOn_5 : decode cX7_goesOn 5 = .ok (.bipush 104, 2) := by decide +kernel
theorem dX7_goesOn_7 : decode cX7_goesOn 7 = .ok (.if_icmp .ne 7, 3) := by decide +kernel
theorem dX7_goesOn_10 : decode cX7_goesOn 10 = .ok (.iconst 1, 1) := by decide +kernel
theorem dX7_goesOn_11 : decode cX7_goesOn 11 = .ok (.goto 4, 3) := by decide +kernel
theorem dX7_goesOn_14 : decode cX7_goesOn 14 = .ok (.iconst 0, 1) := by decide +kernel
theorem dX7_goesOn_15 : decode cX7_goesOn 15 = .ok (.ireturn, 1) := by decide +kernel
theorem dX7_goesOn_16 : decode cX7_goesOn 16 = .ok (.iload_n 1, 1) := by decide +kernel
theorem dX7_goesOn_17 : decode cX7_goesOn 17 = .ok (.iconst 1, 1) := by decide +kernel
theorem dX7_goesOn_18 : decode cX7_goesOn 18 = .ok (.if_icmp .ne 12, 3) := by decide +kernel
theorem dX7_goesOn_21 : decode cX7_goesOn 21 = .ok (.iload_n 0, 1) := by decide +kernel
theorem dX7_goesOn_22 : decode cX7_goesOn 22 = .ok (.bipush 49, 2) := by decide +kernel
theorem dX7_goesOn_24 : decode cX7_goesOn 24 = .ok (.bipush 56, 2) := by decide +kernel
theorem dX7_goesOn_26 : decode cX7_goesOn 26 = .ok (.invokestatic 15, 3) := by decide +kernel
theorem dX7_goesOn_29 : decode cX7_goesOn 29 = .ok (.ireturn, 1) := by decide +kernel
theorem dX7_goesOn_30 : decode cX7_goesOn 30 = .ok (.iload_n 1, 1) := by decide +kernel
theorem dX7_goesOn_31 : decode cX7_goesOn 31 = .ok (.bipush 26, 2) := by decide +kernel
theorem dX7_goesOn_33 : decode cX7_goesOn 33 = .ok (.if_icmp .lt 5, 3) := by decide +kernel
theorem dX7_goesOn_36 : decode cX7_goesOn 36 = .ok (.iconst 0, 1) := by decide +kernel
theorem dX7_goesOn_37 : decode cX7_goesOn 37 = .ok (.ireturn, 1) := by decide +kernel
theorem dX7_goesOn_38 : decode cX7_goesOn 38 = .ok (.iload_n 1, 1) := by decide +kernel
theorem dX7_goesOn_39 : decode cX7_goesOn 39 = .ok (.iconst 2, 1) := by decide +kernel
theorem dX7_goesOn_40 : decode cX7_goesOn 40 = .ok (.isub, 1) := by decide +kernel
theorem dX7_goesOn_41 : decode cX7_goesOn 41 = .ok (.bipush 6, 2) := by decide +kernel
theorem dX7_goesOn_43 : decode cX7_goesOn 43 = .ok (.irem, 1) := by decide +kernel
theorem dX7_goesOn_44 : decode cX7_goesOn 44 = .ok (.lookupswitch 69 #[(0, 36), (1, 48), (5, 60)], 36) := by decide +kernel
theorem dX7_goesOn_80 : decode cX7_goesOn 80 = .ok (.iload_n 0, 1) := by decide +kernel
theorem dX7_goesOn_81 : decode cX7_goesOn 81 = .ok (.bipush 59, 2) := by decide +kernel
theorem dX7_goesOn_83 : decode cX7_goesOn 83 = .ok (.if_icmp .ne 7, 3) := by decide +kernel
theorem dX7_goesOn_86 : decode cX7_goesOn 86 = .ok (.iconst 1, 1) := by decide +kernel
theorem dX7_goesOn_87 : decode cX7_goesOn 87 = .ok (.goto 4, 3) := by decide +kernel
theorem dX7_goesOn_90 : decode cX7_goesOn 90 = .ok (.iconst 0, 1) := by decide +kernel
theorem dX7_goesOn_91 : decode cX7_goesOn 91 = .ok (.ireturn, 1) := by decide +kernel
theorem dX7_goesOn_92 : decode cX7_goesOn 92 = .ok (.iload_n 0, 1) := by decide +kernel
theorem dX7_goesOn_93 : decode cX7_goesOn 93 = .ok (.bipush 102, 2) := by decide +kernel
theorem dX7_goesOn_95 : decode cX7_goesOn 95 = .ok (.if_icmp .ne 7, 3) := by decide +kernel
theorem dX7_goesOn_98 : decode cX7_goesOn 98 = .ok (.iconst 1, 1) := by decide +kernel
theorem dX7_goesOn_99 : decode cX7_goesOn 99 = .ok (.goto 4, 3) := by decide +kernel
theorem dX7_goesOn_102 : decode cX7_goesOn 102 = .ok (.iconst 0, 1) := by decide +kernel
theorem dX7_goesOn_103 : decode cX7_goesOn 103 = .ok (.ireturn, 1) := by decide +kernel
theorem dX7_goesOn_104 : decode cX7_goesOn 104 = .ok (.iload_n 0, 1) := by decide +kernel
theorem dX7_goesOn_105 : decode cX7_goesOn 105 = .ok (.bipush 48, 2) := by decide +kernel
theorem dX7_goesOn_107 : decode cX7_goesOn 107 = .ok (.bipush 51, 2) := by decide +kernel
theorem dX7_goesOn_109 : decode cX7_goesOn 109 = .ok (.invokestatic 15, 3) := by decide +kernel
theorem dX7_goesOn_112 : decode cX7_goesOn 112 = .ok (.ireturn, 1) := by decide +kernel
theorem dX7_goesOn_113 : decode cX7_goesOn 113 = .ok (.iload_n 0, 1) := by decide +kernel
theorem dX7_goesOn_114 : decode cX7_goesOn 114 = .ok (.bipush 48, 2) := by decide +kernel
theorem dX7_goesOn_116 : decode cX7_goesOn 116 = .ok (.bipush 57, 2) := by decide +kernel
theorem dX7_goesOn_118 : decode cX7_goesOn 118 = .ok (.invokestatic 15, 3) := by decide +kernel
theorem dX7_goesOn_121 : decode cX7_goesOn 121 = .ok (.ireturn, 1) := by decide +kernel
end
section
theorem dX8_init_0 : decode cX8_init 0 = .ok (.aload_n 0, 1) := by decide +kernel
theorem dX8_init_1 : decode cX8_init 1 = .ok (.invokespecial 3, 3) := by decide +kernel
theorem dX8_init_4 : decode cX8_init 4 = .ok (.aload_n 0, 1) := by decide +kernel
theorem dX8_init_5 : decode cX8_init 5 = .ok (.new 9, 3) := by decide +kernel
theorem dX8_init_8 : decode cX8_init 8 = .ok (.dup, 1) := by decide +kernel
theorem dX8_init_9 : decode cX8_init 9 = .ok (.invokespecial 11, 3) := by decide +kernel
theorem dX8_init_12 : decode cX8_init 12 = .ok (.putfield 12, 3) := by decide +kernel
theorem dX8_init_15 : decode cX8_init 15 = .ok (.aload_n 0, 1) := by decide +kernel
theorem dX8_init_16 : decode cX8_init 16 = .ok (.new 18, 3) := by decide +kernel
theorem dX8_init_19 : decode cX8_init 19 = .ok (.dup, 1) := by decide +kernel
theorem dX8_init_20 : decode cX8_init 20 = .ok (.invokespecial 20, 3) := by decide +kernel
theorem dX8_init_23 : decode cX8_init 23 = .ok (.putfield 21, 3) := by decide +kernel
theorem dX8_init_26 : decode cX8_init 26 = .ok (.aload_n 0, 1) := by decide +kernel
theorem dX8_init_27 : decode cX8_init 27 = .ok (.new 25, 3) := by decide +kernel
theorem dX8_init_30 : decode cX8_init 30 = .ok (.dup, 1) := by decide +kernel
theorem dX8_init_31 : decode cX8_init 31 = .ok (.invokespecial 27, 3) := by decide +kernel
theorem dX8_init_34 : decode cX8_init 34 = .ok (.putfield 28, 3) := by decide +kernel
theorem dX8_init_37 : decode cX8_init 37 = .ok (.aload_n 0, 1) := by decide +kernel
theorem dX8_init_38 : decode cX8_init 38 = .ok (.new 32, 3) := by decide +kernel
theorem dX8_init_41 : decode cX8_init 41 = .ok (.dup, 1) := by decide +kernel
theorem dX8_init_42 : decode cX8_init 42 = .ok (.invokespecial 34, 3) := by decide +kernel
theorem dX8_init_45 : decode cX8_init 45 = .ok (.putfield 35, 3) := by decide +kernel
theorem dX8_init_48 : decode cX8_init 48 = .ok (.aload_n 0, 1) := by decide +kernel
theorem dX8_init_49 : decode cX8_init 49 = .ok (.new 39, 3) := by decide +kernel
theorem dX8_init_52 : decode cX8_init 52 = .ok (.dup, 1) := by decide +kernel
theorem dX8_init_53 : decode cX8_init 53 = .ok (.invokespecial 41, 3) := by decide +kernel
theorem dX8_init_56 : decode cX8_init 56 = .ok (.putfield 42, 3) := by decide +kernel
theorem dX8_init_59 : decode cX8_init 59 = .ok (.return_, 1) := by decide +kernel
theorem dX8_stall_0 : decode cX8_stall 0 = .ok (.aload_n 0, 1) := by decide +kernel
theorem dX8_stall_1 : decode cX8_stall 1 = .ok (.iload_n 1, 1) := by decide +kernel
theorem dX8_stall_2 : decode cX8_stall 2 = .ok (.iload_n 2, 1) := by decide +kernel
theorem dX8_stall_3 : decode cX8_stall 3 = .ok (.iload_n 3, 1) := by decide +kernel
theorem dX8_stall_4 : decode cX8_stall 4 = .ok (.iload 4, 2) := by decide +kernel
theorem dX8_stall_6 : decode cX8_stall 6 = .ok (.invokevirtual 46, 3) := by decide +kernel
theorem dX8_stall_9 : decode cX8_stall 9 = .ok (.istore 5, 2) := by decide +kernel
theorem dX8_stall_11 : decode cX8_stall 11 = .ok (.iload 5, 2) := by decide +kernel
theorem dX8_stall_13 : decode cX8_stall 13 = .ok (.ifCond .eq 6, 3) := by decide +kernel
theorem dX8_stall_16 : decode cX8_stall 16 = .ok (.iload 5, 2) := by decide +kernel
theorem dX8_stall_18 : decode cX8_stall 18 = .ok (.ireturn, 1) := by decide +kernel
theorem dX8_stall_19 : decode cX8_stall 19 = .ok (.aload_n 0, 1) := by decide +kernel
theorem dX8_stall_20 : decode cX8_stall 20 = .ok (.getfield 28, 3) := by decide +kernel
theorem dX8_stall_23 : decode cX8_stall 23 = .ok (.getfield 50, 3) := by decide +kernel
theorem dX8_stall_26 : decode cX8_stall 26 = .ok (.iload_n 1, 1) := by decide +kernel
theorem dX8_stall_27 : decode cX8_stall 27 = .ok (.aaload, 1) := by decide +kernel
theorem dX8_stall_28 : decode cX8_stall 28 = .ok (.iload_n 3, 1) := by decide +kernel
theorem dX8_stall_29 : decode cX8_stall 29 = .ok (.iload 4, 2) := by decide +kernel
theorem dX8_stall_31 : decode cX8_stall 31 = .ok (.invokestatic 54, 3) := by decide +kernel
theorem dX8_stall_34 : decode cX8_stall 34 = .ok (.istore 6, 2) := by decide +kernel
theorem dX8_stall_36 : decode cX8_stall 36 = .ok (.iload 6, 2) := by decide +kernel
theorem dX8_stall_38 : decode cX8_stall 38 = .ok (.bipush (-9), 2) := by decide +kernel
theorem dX8_stall_40 : decode cX8_stall 40 = .ok (.if_icmp .eq 9, 3) := by decide +kernel
theorem dX8_stall_43 : decode cX8_stall 43 = .ok (.bipush (-100), 2) := by decide +kernel
theorem dX8_stall_45 : decode cX8_stall 45 = .ok (.iload 6, 2) := by decide +kernel
theorem dX8_stall_47 : decode cX8_stall 47 = .ok (.isub, 1) := by decide +kernel
theorem dX8_stall_48 : decode cX8_stall 48 = .ok (.ireturn, 1) := by decide +kernel
theorem dX8_stall_49 : decode cX8_stall 49 = .ok (.aload_n 0, 1) := by decide +kernel
theorem dX8_stall_50 : decode cX8_stall 50 = .ok (.getfield 12, 3) := by decide +kernel
theorem dX8_stall_53 : decode cX8_stall 53 = .ok (.getfield 60, 3) := by decide +kernel
theorem dX8_stall_56 : decode cX8_stall 56 = .ok (.aload_n 0, 1) := by decide +kernel
theorem dX8_stall_57 : decode cX8_stall 57 = .ok (.getfield 28, 3) := by decide +kernel
theorem dX8_stall_60 : decode cX8_stall 60 = .ok (.getfield 50, 3) := by decide +kernel
theorem dX8_stall_63 : decode cX8_stall 63 = .ok (.iload_n 1, 1) := by decide +kernel
theorem dX8_stall_64 : decode cX8_stall 64 = .ok (.aaload, 1) := by decide +kernel
theorem dX8_stall_65 : decode cX8_stall 65 = .ok (.iload_n 3, 1) := by decide +kernel
theorem dX8_stall_66 : decode cX8_stall 66 = .ok (.iload 4, 2) := by decide +kernel
theorem dX8_stall_68 : decode cX8_stall 68 = .ok (.invokevirtual 64, 3) := by decide +kernel
theorem dX8_stall_71 : decode cX8_stall 71 = .ok (.aload_n 0, 1) := by decide +kernel
theorem dX8_stall_72 : decode cX8_stall 72 = .ok (.getfield 12, 3) := by decide +kernel
theorem dX8_stall_75 : decode cX8_stall 75 = .ok (.getfield 70, 3) := by decide +kernel
theorem dX8_stall_78 : decode cX8_stall 78 = .ok (.iconst 0, 1) := by decide +kernel
theorem dX8_stall_79 : decode cX8_stall 79 = .ok (.putfield 74, 3) := by decide +kernel
theorem dX8_stall_82 : decode cX8_stall 82 = .ok (.aload_n 0, 1) := by decide +kernel
theorem dX8_stall_83 : decode cX8_stall 83 = .ok (.getfield 12, 3) := by decide +kernel
theorem dX8_stall_86 : decode cX8_stall 86 = .ok (.getfield 60, 3) := by decide +kernel
theorem dX8_stall_89 : decode cX8_stall 89 = .ok (.getfield 80, 3) := by decide +kernel
theorem dX8_stall_92 : decode cX8_stall 92 = .ok (.ireturn, 1) := by decide +kernel
theorem dX8_ofSort_0 : decode cX8_ofSort 0 = .ok (.aload_n 0, 1) := by decide +kernel
theorem dX8_ofSort_1 : decode cX8_ofSort 1 = .ok (.getfield 12, 3) := by decide +kernel
theorem dX8_ofSort_4 : decode cX8_ofSort 4 = .ok (.getfield 60, 3) := by decide +kernel
theorem dX8_ofSort_7 : decode cX8_ofSort 7 = .ok (.astore_n 3, 1) := by decide +kernel
theorem dX8_ofSort_8 : decode cX8_ofSort 8 = .ok (.aload_n 3, 1) := by decide +kernel
theorem dX8_ofSort_9 : decode cX8_ofSort 9 = .ok (.iload_n 1, 1) := by decide +kernel
theorem dX8_ofSort_10 : decode cX8_ofSort 10 = .ok (.invokevirtual 83, 3) := by decide +kernel
theorem dX8_ofSort_13 : decode cX8_ofSort 13 = .ok (.ifCond .ne 5, 3) := by decide +kernel
theorem dX8_ofSort_16 : decode cX8_ofSort 16 = .ok (.iconst (-1), 1) := by decide +kernel
theorem dX8_ofSort_17 : decode cX8_ofSort 17 = .ok (.ireturn, 1) := by decide +kernel
theorem dX8_ofSort_18 : decode cX8_ofSort 18 = .ok (.iload_n 2, 1) := by decide +kernel
theorem dX8_ofSort_19 : decode cX8_ofSort 19 = .ok (.tableswitch 57 0 3 #[29, 36, 43, 50], 29) := by decide +kernel
theorem dX8_ofSort_48 : decode cX8_ofSort 48 = .ok (.aload_n 3, 1) := by decide +kernel
theorem dX8_ofSort_49 : decode cX8_ofSort 49 = .ok (.getfield 87, 3) := by decide +kernel
theorem dX8_ofSort_52 : decode cX8_ofSort 52 = .ok (.iload_n 1, 1) := by decide +kernel
theorem dX8_ofSort_53 : decode cX8_ofSort 53 = .ok (.iaload, 1) := by decide +kernel
theorem dX8_ofSort_54 : decode cX8_ofSort 54 = .ok (.ireturn, 1) := by decide +kernel
theorem dX8_ofSort_55 : decode cX8_ofSort 55 = .ok (.aload_n 3, 1) := by decide +kernel
theorem dX8_ofSort_56 : decode cX8_ofSort 56 = .ok (.getfield 91, 3) := by decide +kernel
theorem dX8_ofSort_59 : decode cX8_ofSort 59 = .ok (.iload_n 1, 1) := by decide +kernel
theorem dX8_ofSort_60 : decode cX8_ofSort 60 = .ok (.iaload, 1) := by decide +kernel
theorem dX8_ofSort_61 : decode cX8_ofSort 61 = .ok (.ireturn, 1) := by decide +kernel
theorem dX8_ofSort_62 : decode cX8_ofSort 62 = .ok (.aload_n 3, 1) := by decide +kernel
theorem dX8_ofSort_63 : decode cX8_ofSort 63 = .ok (.getfield 94, 3) := by decide +kernel
theorem dX8_ofSort_66 : decode cX8_ofSort 66 = .ok (.iload_n 1, 1) := by decide +kernel
theorem dX8_ofSort_67 : decode cX8_ofSort 67 = .ok (.iaload, 1) := by decide +kernel
theorem dX8_ofSort_68 : decode cX8_ofSort 68 = .ok (.ireturn, 1) := by decide +kernel
theorem dX8_ofSort_69 : decode cX8_ofSort 69 = .ok (.aload_n 3, 1) := by decide +kernel
theorem dX8_ofSort_70 : decode cX8_ofSort 70 = .ok (.getfield 97, 3) := by decide +kernel
theorem dX8_ofSort_73 : decode cX8_ofSort 73 = .ok (.iload_n 1, 1) := by decide +kernel
theorem dX8_ofSort_74 : decode cX8_ofSort 74 = .ok (.iaload, 1) := by decide +kernel
theorem dX8_ofSort_75 : decode cX8_ofSort 75 = .ok (.ireturn, 1) := by decide +kernel
theorem dX8_ofSort_76 : decode cX8_ofSort 76 = .ok (.bipush (-2), 2) := by decide +kernel
theorem dX8_ofSort_78 : decode cX8_ofSort 78 = .ok (.ireturn, 1) := by decide +kernel
theorem dX8_fresh_0 : decode cX8_fresh 0 = .ok (.aload_n 0, 1) := by decide +kernel
theorem dX8_fresh_1 : decode cX8_fresh 1 = .ok (.getfield 12, 3) := by decide +kernel
theorem dX8_fresh_4 : decode cX8_fresh 4 = .ok (.getfield 60, 3) := by decide +kernel
theorem dX8_fresh_7 : decode cX8_fresh 7 = .ok (.iload_n 1, 1) := by decide +kernel
theorem dX8_fresh_8 : decode cX8_fresh 8 = .ok (.iload_n 2, 1) := by decide +kernel
theorem dX8_fresh_9 : decode cX8_fresh 9 = .ok (.invokevirtual 100, 3) := by decide +kernel
theorem dX8_fresh_12 : decode cX8_fresh 12 = .ok (.ifCond .ne 5, 3) := by decide +kernel
theorem dX8_fresh_15 : decode cX8_fresh 15 = .ok (.iconst (-1), 1) := by decide +kernel
theorem dX8_fresh_16 : decode cX8_fresh 16 = .ok (.ireturn, 1) := by decide +kernel
theorem dX8_fresh_17 : decode cX8_fresh 17 = .ok (.aload_n 0, 1) := by decide +kernel
theorem dX8_fresh_18 : decode cX8_fresh 18 = .ok (.getfield 12, 3) := by decide +kernel
theorem dX8_fresh_21 : decode cX8_fresh 21 = .ok (.getfield 60, 3) := by decide +kernel
theorem dX8_fresh_24 : decode cX8_fresh 24 = .ok (.iload_n 1, 1) := by decide +kernel
theorem dX8_fresh_25 : decode cX8_fresh 25 = .ok (.iload_n 2, 1) := by decide +kernel
theorem dX8_fresh_26 : decode cX8_fresh 26 = .ok (.invokevirtual 104, 3) := by decide +kernel
theorem dX8_fresh_29 : decode cX8_fresh 29 = .ok (.ireturn, 1) := by decide +kernel
theorem dX8_fish_0 : decode cX8_fish 0 = .ok (.aload_n 0, 1) := by decide +kernel
theorem dX8_fish_1 : decode cX8_fish 1 = .ok (.getfield 12, 3) := by decide +kernel
theorem dX8_fish_4 : decode cX8_fish 4 = .ok (.getfield 60, 3) := by decide +kernel
theorem dX8_fish_7 : decode cX8_fish 7 = .ok (.iload_n 1, 1) := by decide +kernel
theorem dX8_fish_8 : decode cX8_fish 8 = .ok (.invokevirtual 83, 3) := by decide +kernel
theorem dX8_fish_11 : decode cX8_fish 11 = .ok (.ifCond .ne 5, 3) := by decide +kernel
theorem dX8_fish_14 : decode cX8_fish 14 = .ok (.iconst (-1), 1) := by decide +kernel
theorem dX8_fish_15 : decode cX8_fish 15 = .ok (.ireturn, 1) := by decide +kernel
theorem dX8_fish_16 : decode cX8_fish 16 = .ok (.iload_n 2, 1) := by decide +kernel
theorem dX8_fish_17 : decode cX8_fish 17 = .ok (.iconst 0, 1) := by decide +kernel
theorem dX8_fish_18 : decode cX8_fish 18 = .ok (.bipush 9, 2) := by decide +kernel
theorem dX8_fish_20 : decode cX8_fish 20 = .ok (.invokestatic 108, 3) := by decide +kernel
theorem dX8_fish_23 : decode cX8_fish 23 = .ok (.ifCond .ne 6, 3) := by decide +kernel
theorem dX8_fish_26 : decode cX8_fish 26 = .ok (.bipush (-2), 2) := by decide +kernel
theorem dX8_fish_28 : decode cX8_fish 28 = .ok (.ireturn, 1) := by decide +kernel
theorem dX8_fish_29 : decode cX8_fish 29 = .ok (.aload_n 0, 1) := by decide +kernel
theorem dX8_fish_30 : decode cX8_fish 30 = .ok (.getfield 12, 3) := by decide +kernel
theorem dX8_fish_33 : decode cX8_fish 33 = .ok (.getfield 60, 3) := by decide +kernel
theorem dX8_fish_36 : decode cX8_fish 36 = .ok (.getfield 87, 3) := by decide +kernel
theorem dX8_fish_39 : decode cX8_fish 39 = .ok (.iload_n 1, 1) := by decide +kernel
theorem dX8_fish_40 : decode cX8_fish 40 = .ok (.iaload, 1) := by decide +kernel
theorem dX8_fish_41 : decode cX8_fish 41 = .ok (.istore_n 3, 1) := by decide +kernel
theorem dX8_fish_42 : decode cX8_fish 42 = .ok (.aload_n 0, 1) := by decide +kernel
theorem dX8_fish_43 : decode cX8_fish 43 = .ok (.getfield 12, 3) := by decide +kernel
theorem dX8_fish_46 : decode cX8_fish 46 = .ok (.getfield 60, 3) := by decide +kernel
theorem dX8_fish_49 : decode cX8_fish 49 = .ok (.getfield 87, 3) := by decide +kernel
theorem dX8_fish_52 : decode cX8_fish 52 = .ok (.iload_n 1, 1) := by decide +kernel
theorem dX8_fish_53 : decode cX8_fish 53 = .ok (.iload_n 2, 1) := by decide +kernel
theorem dX8_fish_54 : decode cX8_fish 54 = .ok (.iastore, 1) := by decide +kernel
theorem dX8_fish_55 : decode cX8_fish 55 = .ok (.iload_n 3, 1) := by decide +kernel
theorem dX8_fish_56 : decode cX8_fish 56 = .ok (.ireturn, 1) := by decide +kernel
theorem dX8_slate_0 : decode cX8_slate 0 = .ok (.aload_n 0, 1) := by decide +kernel
theorem dX8_slate_1 : decode cX8_slate 1 = .ok (.getfield 12, 3) := by decide +kernel
theorem dX8_slate_4 : decode cX8_slate 4 = .ok (.getfield 60, 3) := by decide +kernel
theorem dX8_slate_7 : decode cX8_slate 7 = .ok (.iload_n 1, 1) := by decide +kernel
theorem dX8_slate_8 : decode cX8_slate 8 = .ok (.iload_n 2, 1) := by decide +kernel
theorem dX8_slate_9 : decode cX8_slate 9 = .ok (.invokevirtual 100, 3) := by decide +kernel
theorem dX8_slate_12 : decode cX8_slate 12 = .ok (.ifCond .ne 5, 3) := by decide +kernel
theorem dX8_slate_15 : decode cX8_slate 15 = .ok (.iconst (-1), 1) := by decide +kernel
theorem dX8_slate_16 : decode cX8_slate 16 = .ok (.ireturn, 1) := by decide +kernel
theorem dX8_slate_17 : decode cX8_slate 17 = .ok (.aload_n 0, 1) := by decide +kernel
theorem dX8_slate_18 : decode cX8_slate 18 = .ok (.getfield 12, 3) := by decide +kernel
theorem dX8_slate_21 : decode cX8_slate 21 = .ok (.getfield 60, 3) := by decide +kernel
theorem dX8_slate_24 : decode cX8_slate 24 = .ok (.getfield 112, 3) := by decide +kernel
theorem dX8_slate_27 : decode cX8_slate 27 = .ok (.iload_n 1, 1) := by decide +kernel
theorem dX8_slate_28 : decode cX8_slate 28 = .ok (.aaload, 1) := by decide +kernel
theorem dX8_slate_29 : decode cX8_slate 29 = .ok (.iload_n 2, 1) := by decide +kernel
theorem dX8_slate_30 : decode cX8_slate 30 = .ok (.iaload, 1) := by decide +kernel
theorem dX8_slate_31 : decode cX8_slate 31 = .ok (.ireturn, 1) := by decide +kernel
theorem dX8_write_0 : decode cX8_write 0 = .ok (.aload_n 0, 1) := by decide +kernel
theorem dX8_write_1 : decode cX8_write 1 = .ok (.getfield 12, 3) := by decide +kernel
theorem dX8_write_4 : decode cX8_write 4 = .ok (.getfield 60, 3) := by decide +kernel
theorem dX8_write_7 : decode cX8_write 7 = .ok (.iload_n 1, 1) := by decide +kernel
theorem dX8_write_8 : decode cX8_write 8 = .ok (.iload_n 2, 1) := by decide +kernel
theorem dX8_write_9 : decode cX8_write 9 = .ok (.invokevirtual 100, 3) := by decide +kernel
theorem dX8_write_12 : decode cX8_write 12 = .ok (.ifCond .ne 5, 3) := by decide +kernel
theorem dX8_write_15 : decode cX8_write 15 = .ok (.iconst (-1), 1) := by decide +kernel
theorem dX8_write_16 : decode cX8_write 16 = .ok (.ireturn, 1) := by decide +kernel
theorem dX8_write_17 : decode cX8_write 17 = .ok (.iload_n 3, 1) := by decide +kernel
theorem dX8_write_18 : decode cX8_write 18 = .ok (.iconst 0, 1) := by decide +kernel
theorem dX8_write_19 : decode cX8_write 19 = .ok (.bipush 30, 2) := by decide +kernel
theorem dX8_write_21 : decode cX8_write 21 = .ok (.invokestatic 108, 3) := by decide +kernel
theorem dX8_write_24 : decode cX8_write 24 = .ok (.ifCond .ne 6, 3) := by decide +kernel
theorem dX8_write_27 : decode cX8_write 27 = .ok (.bipush (-2), 2) := by decide +kernel
theorem dX8_write_29 : decode cX8_write 29 = .ok (.ireturn, 1) := by decide +kernel
theorem dX8_write_30 : decode cX8_write 30 = .ok (.aload_n 0, 1) := by decide +kernel
theorem dX8_write_31 : decode cX8_write 31 = .ok (.getfield 12, 3) := by decide +kernel
theorem dX8_write_34 : decode cX8_write 34 = .ok (.getfield 60, 3) := by decide +kernel
theorem dX8_write_37 : decode cX8_write 37 = .ok (.getfield 112, 3) := by decide +kernel
theorem dX8_write_40 : decode cX8_write 40 = .ok (.iload_n 1, 1) := by decide +kernel
theorem dX8_write_41 : decode cX8_write 41 = .ok (.aaload, 1) := by decide +kernel
theorem dX8_write_42 : decode cX8_write 42 = .ok (.iload_n 2, 1) := by decide +kernel
theorem dX8_write_43 : decode cX8_write 43 = .ok (.iaload, 1) := by decide +kernel
theorem dX8_write_44 : decode cX8_write 44 = .ok (.istore 4, 2) := by decide +kernel
theorem dX8_write_46 : decode cX8_write 46 = .ok (.aload_n 0, 1) := by decide +kernel
theorem dX8_write_47 : decode cX8_write 47 = .ok (.getfield 12, 3) := by decide +kernel
theorem dX8_write_50 : decode cX8_write 50 = .ok (.getfield 60, 3) := by decide +kernel
theorem dX8_write_53 : decode cX8_write 53 = .ok (.getfield 112, 3) := by decide +kernel
theorem dX8_write_56 : decode cX8_write 56 = .ok (.iload_n 1, 1) := by decide +kernel
theorem dX8_write_57 : decode cX8_write 57 = .ok (.aaload, 1) := by decide +kernel
theorem dX8_write_58 : decode cX8_write 58 = .ok (.iload_n 2, 1) := by decide +kernel
theorem dX8_write_59 : decode cX8_write 59 = .ok (.iload_n 3, 1) := by decide +kernel
theorem dX8_write_60 : decode cX8_write 60 = .ok (.iastore, 1) := by decide +kernel
theorem dX8_write_61 : decode cX8_write 61 = .ok (.iload 4, 2) := by decide +kernel
theorem dX8_write_63 : decode cX8_write 63 = .ok (.ireturn, 1) := by decide +kernel
theorem dX8_copyOut_0 : decode cX8_copyOut 0 = .ok (.aload_n 0, 1) := by decide +kernel
theorem dX8_copyOut_1 : decode cX8_copyOut 1 = .ok (.iconst 0, 1) := by decide +kernel
theorem dX8_copyOut_2 : decode cX8_copyOut 2 = .ok (.putfield 115, 3) := by decide +kernel
theorem dX8_copyOut_5 : decode cX8_copyOut 5 = .ok (.aload_n 0, 1) := by decide +kernel
theorem dX8_copyOut_6 : decode cX8_copyOut 6 = .ok (.getfield 12, 3) := by decide +kernel
theorem dX8_copyOut_9 : decode cX8_copyOut 9 = .ok (.getfield 60, 3) := by decide +kernel
theorem dX8_copyOut_12 : decode cX8_copyOut 12 = .ok (.iload_n 1, 1) := by decide +kernel
theorem dX8_copyOut_13 : decode cX8_copyOut 13 = .ok (.invokevirtual 83, 3) := by decide +kernel
theorem dX8_copyOut_16 : decode cX8_copyOut 16 = .ok (.ifCond .ne 5, 3) := by decide +kernel
theorem dX8_copyOut_19 : decode cX8_copyOut 19 = .ok (.iconst (-1), 1) := by decide +kernel
theorem dX8_copyOut_20 : decode cX8_copyOut 20 = .ok (.ireturn, 1) := by decide +kernel
theorem dX8_copyOut_21 : decode cX8_copyOut 21 = .ok (.aload_n 0, 1) := by decide +kernel
theorem dX8_copyOut_22 : decode cX8_copyOut 22 = .ok (.iload_n 2, 1) := by decide +kernel
theorem dX8_copyOut_23 : decode cX8_copyOut 23 = .ok (.iload_n 3, 1) := by decide +kernel
theorem dX8_copyOut_24 : decode cX8_copyOut 24 = .ok (.iload 4, 2) := by decide +kernel
theorem dX8_copyOut_26 : decode cX8_copyOut 26 = .ok (.iload 5, 2) := by decide +kernel
theorem dX8_copyOut_28 : decode cX8_copyOut 28 = .ok (.invokevirtual 46, 3) := by decide +kernel
theorem dX8_copyOut_31 : decode cX8_copyOut 31 = .ok (.istore 6, 2) := by decide +kernel
theorem dX8_copyOut_33 : decode cX8_copyOut 33 = .ok (.iload 6, 2) := by decide +kernel
theorem dX8_copyOut_35 : decode cX8_copyOut 35 = .ok (.ifCond .eq 6, 3) := by decide +kernel
theorem dX8_copyOut_38 : decode cX8_copyOut 38 = .ok (.iload 6, 2) := by decide +kernel
theorem dX8_copyOut_40 : decode cX8_copyOut 40 = .ok (.ireturn, 1) := by decide +kernel
theorem dX8_copyOut_41 : decode cX8_copyOut 41 = .ok (.iload 5, 2) := by decide +kernel
theorem dX8_copyOut_43 : decode cX8_copyOut 43 = .ok (.iconst 1, 1) := by decide +kernel
theorem dX8_copyOut_44 : decode cX8_copyOut 44 = .ok (.aload_n 0, 1) := by decide +kernel
theorem dX8_copyOut_45 : decode cX8_copyOut 45 = .ok (.getfield 12, 3) := by decide +kernel
theorem dX8_copyOut_48 : decode cX8_copyOut 48 = .ok (.getfield 60, 3) := by decide +kernel
theorem dX8_copyOut_51 : decode cX8_copyOut 51 = .ok (.getfield 118, 3) := by decide +kernel
theorem dX8_copyOut_54 : decode cX8_copyOut 54 = .ok (.invokestatic 108, 3) := by decide +kernel
theorem dX8_copyOut_57 : decode cX8_copyOut 57 = .ok (.ifCond .eq 25, 3) := by decide +kernel
theorem dX8_copyOut_60 : decode cX8_copyOut 60 = .ok (.aload_n 0, 1) := by decide +kernel
theorem dX8_copyOut_61 : decode cX8_copyOut 61 = .ok (.getfield 28, 3) := by decide +kernel
theorem dX8_copyOut_64 : decode cX8_copyOut 64 = .ok (.getfield 50, 3) := by decide +kernel
theorem dX8_copyOut_67 : decode cX8_copyOut 67 = .ok (.iload_n 2, 1) := by decide +kernel
theorem dX8_copyOut_68 : decode cX8_copyOut 68 = .ok (.aaload, 1) := by decide +kernel
theorem dX8_copyOut_69 : decode cX8_copyOut 69 = .ok (.iload 4, 2) := by decide +kernel
theorem dX8_copyOut_71 : decode cX8_copyOut 71 = .ok (.iload 5, 2) := by decide +kernel
theorem dX8_copyOut_73 : decode cX8_copyOut 73 = .ok (.iconst 0, 1) := by decide +kernel
theorem dX8_copyOut_74 : decode cX8_copyOut 74 = .ok (.bipush 30, 2) := by decide +kernel
theorem dX8_copyOut_76 : decode cX8_copyOut 76 = .ok (.invokestatic 121, 3) := by decide +kernel
theorem dX8_copyOut_79 : decode cX8_copyOut 79 = .ok (.ifCond .ne 6, 3) := by decide +kernel
theorem dX8_copyOut_82 : decode cX8_copyOut 82 = .ok (.bipush (-2), 2) := by decide +kernel
theorem dX8_copyOut_84 : decode cX8_copyOut 84 = .ok (.ireturn, 1) := by decide +kernel
theorem dX8_copyOut_85 : decode cX8_copyOut 85 = .ok (.aload_n 0, 1) := by decide +kernel
theorem dX8_copyOut_86 : decode cX8_copyOut 86 = .ok (.getfield 28, 3) := by decide +kernel
theorem dX8_copyOut_89 : decode cX8_copyOut 89 = .ok (.getfield 50, 3) := by decide +kernel
theorem dX8_copyOut_92 : decode cX8_copyOut 92 = .ok (.iload_n 2, 1) := by decide +kernel
theorem dX8_copyOut_93 : decode cX8_copyOut 93 = .ok (.aaload, 1) := by decide +kernel
theorem dX8_copyOut_94 : decode cX8_copyOut 94 = .ok (.iload 4, 2) := by decide +kernel
theorem dX8_copyOut_96 : decode cX8_copyOut 96 = .ok (.aload_n 0, 1) := by decide +kernel
theorem dX8_copyOut_97 : decode cX8_copyOut 97 = .ok (.getfield 12, 3) := by decide +kernel
theorem dX8_copyOut_100 : decode cX8_copyOut 100 = .ok (.getfield 60, 3) := by decide +kernel
theorem dX8_copyOut_103 : decode cX8_copyOut 103 = .ok (.getfield 112, 3) := by decide +kernel
theorem dX8_copyOut_106 : decode cX8_copyOut 106 = .ok (.iload_n 1, 1) := by decide +kernel
theorem dX8_copyOut_107 : decode cX8_copyOut 107 = .ok (.aaload, 1) := by decide +kernel
theorem dX8_copyOut_108 : decode cX8_copyOut 108 = .ok (.iconst 0, 1) := by decide +kernel
theorem dX8_copyOut_109 : decode cX8_copyOut 109 = .ok (.iload 5, 2) := by decide +kernel
theorem dX8_copyOut_111 : decode cX8_copyOut 111 = .ok (.invokestatic 125, 3) := by decide +kernel
theorem dX8_copyOut_114 : decode cX8_copyOut 114 = .ok (.iload 5, 2) := by decide +kernel
theorem dX8_copyOut_116 : decode cX8_copyOut 116 = .ok (.ireturn, 1) := by decide +kernel
theorem dX8_soup_0 : decode cX8_soup 0 = .ok (.iload_n 1, 1) := by decide +kernel
theorem dX8_soup_1 : decode cX8_soup 1 = .ok (.iconst 0, 1) := by decide +kernel
theorem dX8_soup_2 : decode cX8_soup 2 = .ok (.bipush 9, 2) := by decide +kernel
theorem dX8_soup_4 : decode cX8_soup 4 = .ok (.invokestatic 108, 3) := by decide +kernel
theorem dX8_soup_7 : decode cX8_soup 7 = .ok (.ifCond .ne 6, 3) := by decide +kernel
theorem dX8_soup_10 : decode cX8_soup 10 = .ok (.bipush (-2), 2) := by decide +kernel
theorem dX8_soup_12 : decode cX8_soup 12 = .ok (.ireturn, 1) := by decide +kernel
theorem dX8_soup_13 : decode cX8_soup 13 = .ok (.aload_n 0, 1) := by decide +kernel
theorem dX8_soup_14 : decode cX8_soup 14 = .ok (.getfield 12, 3) := by decide +kernel
theorem dX8_soup_17 : decode cX8_soup 17 = .ok (.getfield 60, 3) := by decide +kernel
theorem dX8_soup_20 : decode cX8_soup 20 = .ok (.invokevirtual 131, 3) := by decide +kernel
theorem dX8_soup_23 : decode cX8_soup 23 = .ok (.ifCond .ne 6, 3) := by decide +kernel
theorem dX8_soup_26 : decode cX8_soup 26 = .ok (.bipush (-3), 2) := by decide +kernel
theorem dX8_soup_28 : decode cX8_soup 28 = .ok (.ireturn, 1) := by decide +kernel
theorem dX8_soup_29 : decode cX8_soup 29 = .ok (.aload_n 0, 1) := by decide +kernel
theorem dX8_soup_30 : decode cX8_soup 30 = .ok (.getfield 12, 3) := by decide +kernel
theorem dX8_soup_33 : decode cX8_soup 33 = .ok (.getfield 60, 3) := by decide +kernel
theorem dX8_soup_36 : decode cX8_soup 36 = .ok (.getfield 135, 3) := by decide +kernel
theorem dX8_soup_39 : decode cX8_soup 39 = .ok (.istore_n 2, 1) := by decide +kernel
theorem dX8_soup_40 : decode cX8_soup 40 = .ok (.aload_n 0, 1) := by decide +kernel
theorem dX8_soup_41 : decode cX8_soup 41 = .ok (.getfield 12, 3) := by decide +kernel
theorem dX8_soup_44 : decode cX8_soup 44 = .ok (.getfield 60, 3) := by decide +kernel
theorem dX8_soup_47 : decode cX8_soup 47 = .ok (.iload_n 1, 1) := by decide +kernel
theorem dX8_soup_48 : decode cX8_soup 48 = .ok (.putfield 135, 3) := by decide +kernel
theorem dX8_soup_51 : decode cX8_soup 51 = .ok (.iload_n 2, 1) := by decide +kernel
theorem dX8_soup_52 : decode cX8_soup 52 = .ok (.ireturn, 1) := by decide +kernel
theorem dX8_beside_0 : decode cX8_beside 0 = .ok (.aload_n 0, 1) := by decide +kernel
theorem dX8_beside_1 : decode cX8_beside 1 = .ok (.getfield 12, 3) := by decide +kernel
theorem dX8_beside_4 : decode cX8_beside 4 = .ok (.getfield 60, 3) := by decide +kernel
theorem dX8_beside_7 : decode cX8_beside 7 = .ok (.invokevirtual 131, 3) := by decide +kernel
theorem dX8_beside_10 : decode cX8_beside 10 = .ok (.ifCond .ne 6, 3) := by decide +kernel
theorem dX8_beside_13 : decode cX8_beside 13 = .ok (.bipush (-3), 2) := by decide +kernel
theorem dX8_beside_15 : decode cX8_beside 15 = .ok (.ireturn, 1) := by decide +kernel
theorem dX8_beside_16 : decode cX8_beside 16 = .ok (.aload_n 0, 1) := by decide +kernel
theorem dX8_beside_17 : decode cX8_beside 17 = .ok (.getfield 12, 3) := by decide +kernel
theorem dX8_beside_20 : decode cX8_beside 20 = .ok (.getfield 60, 3) := by decide +kernel
theorem dX8_beside_23 : decode cX8_beside 23 = .ok (.getfield 138, 3) := by decide +kernel
theorem dX8_beside_26 : decode cX8_beside 26 = .ok (.istore_n 2, 1) := by decide +kernel
theorem dX8_beside_27 : decode cX8_beside 27 = .ok (.aload_n 0, 1) := by decide +kernel
theorem dX8_beside_28 : decode cX8_beside 28 = .ok (.getfield 12, 3) := by decide +kernel
theorem dX8_beside_31 : decode cX8_beside 31 = .ok (.getfield 60, 3) := by decide +kernel
theorem dX8_beside_34 : decode cX8_beside 34 = .ok (.iload_n 1, 1) := by decide +kernel
theorem dX8_beside_35 : decode cX8_beside 35 = .ok (.putfield 138, 3) := by decide +kernel
theorem dX8_beside_38 : decode cX8_beside 38 = .ok (.iload_n 2, 1) := by decide +kernel
theorem dX8_beside_39 : decode cX8_beside 39 = .ok (.iload_n 1, 1) := by decide +kernel
theorem dX8_beside_40 : decode cX8_beside 40 = .ok (.if_icmp .ne 7, 3) := by decide +kernel
theorem dX8_beside_43 : decode cX8_beside 43 = .ok (.iconst 0, 1) := by decide +kernel
theorem dX8_beside_44 : decode cX8_beside 44 = .ok (.goto 4, 3) := by decide +kernel
theorem dX8_beside_47 : decode cX8_beside 47 = .ok (.iconst 1, 1) := by decide +kernel
theorem dX8_beside_48 : decode cX8_beside 48 = .ok (.ireturn, 1) := by decide +kernel
theorem dX8_buyer_0 : decode cX8_buyer 0 = .ok (.aload_n 0, 1) := by decide +kernel
theorem dX8_buyer_1 : decode cX8_buyer 1 = .ok (.getfield 12, 3) := by decide +kernel
theorem dX8_buyer_4 : decode cX8_buyer 4 = .ok (.getfield 60, 3) := by decide +kernel
theorem dX8_buyer_7 : decode cX8_buyer 7 = .ok (.iload_n 2, 1) := by decide +kernel
theorem dX8_buyer_8 : decode cX8_buyer 8 = .ok (.iload 4, 2) := by decide +kernel
theorem dX8_buyer_10 : decode cX8_buyer 10 = .ok (.invokevirtual 100, 3) := by decide +kernel
theorem dX8_buyer_13 : decode cX8_buyer 13 = .ok (.ifCond .ne 5, 3) := by decide +kernel
theorem dX8_buyer_16 : decode cX8_buyer 16 = .ok (.iconst (-1), 1) := by decide +kernel
theorem dX8_buyer_17 : decode cX8_buyer 17 = .ok (.ireturn, 1) := by decide +kernel
theorem dX8_buyer_18 : decode cX8_buyer 18 = .ok (.iload_n 1, 1) := by decide +kernel
theorem dX8_buyer_19 : decode cX8_buyer 19 = .ok (.iconst 0, 1) := by decide +kernel
theorem dX8_buyer_20 : decode cX8_buyer 20 = .ok (.iconst 2, 1) := by decide +kernel
theorem dX8_buyer_21 : decode cX8_buyer 21 = .ok (.invokestatic 108, 3) := by decide +kernel
theorem dX8_buyer_24 : decode cX8_buyer 24 = .ok (.ifCond .eq 13, 3) := by decide +kernel
theorem dX8_buyer_27 : decode cX8_buyer 27 = .ok (.iload_n 3, 1) := by decide +kernel
theorem dX8_buyer_28 : decode cX8_buyer 28 = .ok (.iconst 0, 1) := by decide +kernel
theorem dX8_buyer_29 : decode cX8_buyer 29 = .ok (.bipush 40, 2) := by decide +kernel
theorem dX8_buyer_31 : decode cX8_buyer 31 = .ok (.invokestatic 108, 3) := by decide +kernel
theorem dX8_buyer_34 : decode cX8_buyer 34 = .ok (.ifCond .ne 6, 3) := by decide +kernel
theorem dX8_buyer_37 : decode cX8_buyer 37 = .ok (.bipush (-2), 2) := by decide +kernel
theorem dX8_buyer_39 : decode cX8_buyer 39 = .ok (.ireturn, 1) := by decide +kernel
theorem dX8_buyer_40 : decode cX8_buyer 40 = .ok (.aload_n 0, 1) := by decide +kernel
theorem dX8_buyer_41 : decode cX8_buyer 41 = .ok (.getfield 12, 3) := by decide +kernel
theorem dX8_buyer_44 : decode cX8_buyer 44 = .ok (.getfield 70, 3) := by decide +kernel
theorem dX8_buyer_47 : decode cX8_buyer 47 = .ok (.getfield 74, 3) := by decide +kernel
theorem dX8_buyer_50 : decode cX8_buyer 50 = .ok (.bipush 10, 2) := by decide +kernel
theorem dX8_buyer_52 : decode cX8_buyer 52 = .ok (.if_icmp .lt 6, 3) := by decide +kernel
theorem dX8_buyer_55 : decode cX8_buyer 55 = .ok (.bipush (-4), 2) := by decide +kernel
theorem dX8_buyer_57 : decode cX8_buyer 57 = .ok (.ireturn, 1) := by decide +kernel
theorem dX8_buyer_58 : decode cX8_buyer 58 = .ok (.aload_n 0, 1) := by decide +kernel
theorem dX8_buyer_59 : decode cX8_buyer 59 = .ok (.getfield 12, 3) := by decide +kernel
theorem dX8_buyer_62 : decode cX8_buyer 62 = .ok (.getfield 70, 3) := by decide +kernel
theorem dX8_buyer_65 : decode cX8_buyer 65 = .ok (.iload_n 1, 1) := by decide +kernel
theorem dX8_buyer_66 : decode cX8_buyer 66 = .ok (.iload_n 2, 1) := by decide +kernel
theorem dX8_buyer_67 : decode cX8_buyer 67 = .ok (.iload_n 3, 1) := by decide +kernel
theorem dX8_buyer_68 : decode cX8_buyer 68 = .ok (.iload 4, 2) := by decide +kernel
theorem dX8_buyer_70 : decode cX8_buyer 70 = .ok (.invokevirtual 142, 3) := by decide +kernel
theorem dX8_buyer_73 : decode cX8_buyer 73 = .ok (.ireturn, 1) := by decide +kernel
theorem dX8_ofBuyer_0 : decode cX8_ofBuyer 0 = .ok (.aload_n 0, 1) := by decide +kernel
theorem dX8_ofBuyer_1 : decode cX8_ofBuyer 1 = .ok (.getfield 12, 3) := by decide +kernel
theorem dX8_ofBuyer_4 : decode cX8_ofBuyer 4 = .ok (.getfield 70, 3) := by decide +kernel
theorem dX8_ofBuyer_7 : decode cX8_ofBuyer 7 = .ok (.astore_n 3, 1) := by decide +kernel
theorem dX8_ofBuyer_8 : decode cX8_ofBuyer 8 = .ok (.aload_n 3, 1) := by decide +kernel
theorem dX8_ofBuyer_9 : decode cX8_ofBuyer 9 = .ok (.iload_n 1, 1) := by decide +kernel
theorem dX8_ofBuyer_10 : decode cX8_ofBuyer 10 = .ok (.invokevirtual 145, 3) := by decide +kernel
theorem dX8_ofBuyer_13 : decode cX8_ofBuyer 13 = .ok (.ifCond .ne 5, 3) := by decide +kernel
theorem dX8_ofBuyer_16 : decode cX8_ofBuyer 16 = .ok (.iconst (-1), 1) := by decide +kernel
theorem dX8_ofBuyer_17 : decode cX8_ofBuyer 17 = .ok (.ireturn, 1) := by decide +kernel
theorem dX8_ofBuyer_18 : decode cX8_ofBuyer 18 = .ok (.iload_n 2, 1) := by decide +kernel
theorem dX8_ofBuyer_19 : decode cX8_ofBuyer 19 = .ok (.tableswitch 57 0 3 #[29, 36, 43, 50], 29) := by decide +kernel
theorem dX8_ofBuyer_48 : decode cX8_ofBuyer 48 = .ok (.aload_n 3, 1) := by decide +kernel
theorem dX8_ofBuyer_49 : decode cX8_ofBuyer 49 = .ok (.getfield 148, 3) := by decide +kernel
theorem dX8_ofBuyer_52 : decode cX8_ofBuyer 52 = .ok (.iload_n 1, 1) := by decide +kernel
theorem dX8_ofBuyer_53 : decode cX8_ofBuyer 53 = .ok (.iaload, 1) := by decide +kernel
theorem dX8_ofBuyer_54 : decode cX8_ofBuyer 54 = .ok (.ireturn, 1) := by decide +kernel
theorem dX8_ofBuyer_55 : decode cX8_ofBuyer 55 = .ok (.aload_n 3, 1) := by decide +kernel
theorem dX8_ofBuyer_56 : decode cX8_ofBuyer 56 = .ok (.getfield 151, 3) := by decide +kernel
theorem dX8_ofBuyer_59 : decode cX8_ofBuyer 59 = .ok (.iload_n 1, 1) := by decide +kernel
theorem dX8_ofBuyer_60 : decode cX8_ofBuyer 60 = .ok (.iaload, 1) := by decide +kernel
theorem dX8_ofBuyer_61 : decode cX8_ofBuyer 61 = .ok (.ireturn, 1) := by decide +kernel
theorem dX8_ofBuyer_62 : decode cX8_ofBuyer 62 = .ok (.aload_n 3, 1) := by decide +kernel
theorem dX8_ofBuyer_63 : decode cX8_ofBuyer 63 = .ok (.getfield 154, 3) := by decide +kernel
theorem dX8_ofBuyer_66 : decode cX8_ofBuyer 66 = .ok (.iload_n 1, 1) := by decide +kernel
theorem dX8_ofBuyer_67 : decode cX8_ofBuyer 67 = .ok (.iaload, 1) := by decide +kernel
theorem dX8_ofBuyer_68 : decode cX8_ofBuyer 68 = .ok (.ireturn, 1) := by decide +kernel
theorem dX8_ofBuyer_69 : decode cX8_ofBuyer 69 = .ok (.aload_n 3, 1) := by decide +kernel
theorem dX8_ofBuyer_70 : decode cX8_ofBuyer 70 = .ok (.getfield 157, 3) := by decide +kernel
theorem dX8_ofBuyer_73 : decode cX8_ofBuyer 73 = .ok (.iload_n 1, 1) := by decide +kernel
theorem dX8_ofBuyer_74 : decode cX8_ofBuyer 74 = .ok (.iaload, 1) := by decide +kernel
theorem dX8_ofBuyer_75 : decode cX8_ofBuyer 75 = .ok (.ireturn, 1) := by decide +kernel
theorem dX8_ofBuyer_76 : decode cX8_ofBuyer 76 = .ok (.bipush (-2), 2) := by decide +kernel
theorem dX8_ofBuyer_78 : decode cX8_ofBuyer 78 = .ok (.ireturn, 1) := by decide +kernel
theorem dX8_worth_0 : decode cX8_worth 0 = .ok (.aload_n 0, 1) := by decide +kernel
theorem dX8_worth_1 : decode cX8_worth 1 = .ok (.getfield 12, 3) := by decide +kernel
theorem dX8_worth_4 : decode cX8_worth 4 = .ok (.getfield 70, 3) := by decide +kernel
theorem dX8_worth_7 : decode cX8_worth 7 = .ok (.iload_n 1, 1) := by decide +kernel
theorem dX8_worth_8 : decode cX8_worth 8 = .ok (.invokevirtual 145, 3) := by decide +kernel
theorem dX8_worth_11 : decode cX8_worth 11 = .ok (.ifCond .eq 18, 3) := by decide +kernel
theorem dX8_worth_14 : decode cX8_worth 14 = .ok (.aload_n 0, 1) := by decide +kernel
theorem dX8_worth_15 : decode cX8_worth 15 = .ok (.getfield 12, 3) := by decide +kernel
theorem dX8_worth_18 : decode cX8_worth 18 = .ok (.getfield 60, 3) := by decide +kernel
theorem dX8_worth_21 : decode cX8_worth 21 = .ok (.iload_n 2, 1) := by decide +kernel
theorem dX8_worth_22 : decode cX8_worth 22 = .ok (.iload_n 3, 1) := by decide +kernel
theorem dX8_worth_23 : decode cX8_worth 23 = .ok (.invokevirtual 100, 3) := by decide +kernel
theorem dX8_worth_26 : decode cX8_worth 26 = .ok (.ifCond .ne 5, 3) := by decide +kernel
theorem dX8_worth_29 : decode cX8_worth 29 = .ok (.iconst (-1), 1) := by decide +kernel
theorem dX8_worth_30 : decode cX8_worth 30 = .ok (.ireturn, 1) := by decide +kernel
theorem dX8_worth_31 : decode cX8_worth 31 = .ok (.aload_n 0, 1) := by decide +kernel
theorem dX8_worth_32 : decode cX8_worth 32 = .ok (.getfield 12, 3) := by decide +kernel
theorem dX8_worth_35 : decode cX8_worth 35 = .ok (.invokevirtual 160, 3) := by decide +kernel
theorem dX8_worth_38 : decode cX8_worth 38 = .ok (.aload_n 0, 1) := by decide +kernel
theorem dX8_worth_39 : decode cX8_worth 39 = .ok (.getfield 12, 3) := by decide +kernel
theorem dX8_worth_42 : decode cX8_worth 42 = .ok (.iload_n 1, 1) := by decide +kernel
theorem dX8_worth_43 : decode cX8_worth 43 = .ok (.iload_n 2, 1) := by decide +kernel
theorem dX8_worth_44 : decode cX8_worth 44 = .ok (.iload_n 3, 1) := by decide +kernel
theorem dX8_worth_45 : decode cX8_worth 45 = .ok (.invokevirtual 163, 3) := by decide +kernel
theorem dX8_worth_48 : decode cX8_worth 48 = .ok (.ireturn, 1) := by decide +kernel
theorem dX8_day_0 : decode cX8_day 0 = .ok (.iload_n 1, 1) := by decide +kernel
theorem dX8_day_1 : decode cX8_day 1 = .ok (.iconst 0, 1) := by decide +kernel
theorem dX8_day_2 : decode cX8_day 2 = .ok (.iconst 3, 1) := by decide +kernel
theorem dX8_day_3 : decode cX8_day 3 = .ok (.invokestatic 108, 3) := by decide +kernel
theorem dX8_day_6 : decode cX8_day 6 = .ok (.ifCond .ne 6, 3) := by decide +kernel
theorem dX8_day_9 : decode cX8_day 9 = .ok (.bipush (-2), 2) := by decide +kernel
theorem dX8_day_11 : decode cX8_day 11 = .ok (.ireturn, 1) := by decide +kernel
theorem dX8_day_12 : decode cX8_day 12 = .ok (.aload_n 0, 1) := by decide +kernel
theorem dX8_day_13 : decode cX8_day 13 = .ok (.getfield 12, 3) := by decide +kernel
theorem dX8_day_16 : decode cX8_day 16 = .ok (.getfield 60, 3) := by decide +kernel
theorem dX8_day_19 : decode cX8_day 19 = .ok (.invokevirtual 131, 3) := by decide +kernel
theorem dX8_day_22 : decode cX8_day 22 = .ok (.ifCond .ne 6, 3) := by decide +kernel
theorem dX8_day_25 : decode cX8_day 25 = .ok (.bipush (-3), 2) := by decide +kernel
theorem dX8_day_27 : decode cX8_day 27 = .ok (.ireturn, 1) := by decide +kernel
theorem dX8_day_28 : decode cX8_day 28 = .ok (.aload_n 0, 1) := by decide +kernel
theorem dX8_day_29 : decode cX8_day 29 = .ok (.getfield 12, 3) := by decide +kernel
theorem dX8_day_32 : decode cX8_day 32 = .ok (.invokevirtual 167, 3) := by decide +kernel
theorem dX8_day_35 : decode cX8_day 35 = .ok (.iload_n 1, 1) := by decide +kernel
theorem dX8_day_36 : decode cX8_day 36 = .ok (.tableswitch 63 0 2 #[28, 36, 55], 28) := by decide +kernel
theorem dX8_day_64 : decode cX8_day 64 = .ok (.aload_n 0, 1) := by decide +kernel
theorem dX8_day_65 : decode cX8_day 65 = .ok (.getfield 12, 3) := by decide +kernel
theorem dX8_day_68 : decode cX8_day 68 = .ok (.getfield 170, 3) := by decide +kernel
theorem dX8_day_71 : decode cX8_day 71 = .ok (.ireturn, 1) := by decide +kernel
theorem dX8_day_72 : decode cX8_day 72 = .ok (.aload_n 0, 1) := by decide +kernel
theorem dX8_day_73 : decode cX8_day 73 = .ok (.getfield 12, 3) := by decide +kernel
theorem dX8_day_76 : decode cX8_day 76 = .ok (.getfield 60, 3) := by decide +kernel
theorem dX8_day_79 : decode cX8_day 79 = .ok (.invokevirtual 173, 3) := by decide +kernel
theorem dX8_day_82 : decode cX8_day 82 = .ok (.aload_n 0, 1) := by decide +kernel
theorem dX8_day_83 : decode cX8_day 83 = .ok (.getfield 12, 3) := by decide +kernel
theorem dX8_day_86 : decode cX8_day 86 = .ok (.invokevirtual 177, 3) := by decide +kernel
theorem dX8_day_89 : decode cX8_day 89 = .ok (.isub, 1) := by decide +kernel
theorem dX8_day_90 : decode cX8_day 90 = .ok (.ireturn, 1) := by decide +kernel
theorem dX8_day_91 : decode cX8_day 91 = .ok (.aload_n 0, 1) := by decide +kernel
theorem dX8_day_92 : decode cX8_day 92 = .ok (.getfield 12, 3) := by decide +kernel
theorem dX8_day_95 : decode cX8_day 95 = .ok (.invokevirtual 177, 3) := by decide +kernel
theorem dX8_day_98 : decode cX8_day 98 = .ok (.ireturn, 1) := by decide +kernel
theorem dX8_day_99 : decode cX8_day 99 = .ok (.aload_n 0, 1) := by decide +kernel
theorem dX8_day_100 : decode cX8_day 100 = .ok (.getfield 12, 3) := by decide +kernel
theorem dX8_day_103 : decode cX8_day 103 = .ok (.invokevirtual 180, 3) := by decide +kernel
theorem dX8_day_106 : decode cX8_day 106 = .ok (.ireturn, 1) := by decide +kernel
theorem dX8_bought_0 : decode cX8_bought 0 = .ok (.aload_n 0, 1) := by decide +kernel
theorem dX8_bought_1 : decode cX8_bought 1 = .ok (.getfield 12, 3) := by decide +kernel
theorem dX8_bought_4 : decode cX8_bought 4 = .ok (.getfield 70, 3) := by decide +kernel
theorem dX8_bought_7 : decode cX8_bought 7 = .ok (.iload_n 1, 1) := by decide +kernel
theorem dX8_bought_8 : decode cX8_bought 8 = .ok (.invokevirtual 145, 3) := by decide +kernel
theorem dX8_bought_11 : decode cX8_bought 11 = .ok (.ifCond .ne 5, 3) := by decide +kernel
theorem dX8_bought_14 : decode cX8_bought 14 = .ok (.iconst (-1), 1) := by decide +kernel
theorem dX8_bought_15 : decode cX8_bought 15 = .ok (.ireturn, 1) := by decide +kernel
theorem dX8_bought_16 : decode cX8_bought 16 = .ok (.iload_n 2, 1) := by decide +kernel
theorem dX8_bought_17 : decode cX8_bought 17 = .ok (.iconst 0, 1) := by decide +kernel
theorem dX8_bought_18 : decode cX8_bought 18 = .ok (.iconst 3, 1) := by decide +kernel
theorem dX8_bought_19 : decode cX8_bought 19 = .ok (.invokestatic 108, 3) := by decide +kernel
theorem dX8_bought_22 : decode cX8_bought 22 = .ok (.ifCond .ne 6, 3) := by decide +kernel
theorem dX8_bought_25 : decode cX8_bought 25 = .ok (.bipush (-2), 2) := by decide +kernel
theorem dX8_bought_27 : decode cX8_bought 27 = .ok (.ireturn, 1) := by decide +kernel
theorem dX8_bought_28 : decode cX8_bought 28 = .ok (.aload_n 0, 1) := by decide +kernel
theorem dX8_bought_29 : decode cX8_bought 29 = .ok (.getfield 12, 3) := by decide +kernel
theorem dX8_bought_32 : decode cX8_bought 32 = .ok (.invokevirtual 167, 3) := by decide +kernel
theorem dX8_bought_35 : decode cX8_bought 35 = .ok (.iload_n 2, 1) := by decide +kernel
theorem dX8_bought_36 : decode cX8_bought 36 = .ok (.tableswitch 58 0 2 #[28, 38, 48], 28) := by decide +kernel
theorem dX8_bought_64 : decode cX8_bought 64 = .ok (.aload_n 0, 1) := by decide +kernel
theorem dX8_bought_65 : decode cX8_bought 65 = .ok (.getfield 12, 3) := by decide +kernel
theorem dX8_bought_68 : decode cX8_bought 68 = .ok (.getfield 183, 3) := by decide +kernel
theorem dX8_bought_71 : decode cX8_bought 71 = .ok (.iload_n 1, 1) := by decide +kernel
theorem dX8_bought_72 : decode cX8_bought 72 = .ok (.iaload, 1) := by decide +kernel
theorem dX8_bought_73 : decode cX8_bought 73 = .ok (.ireturn, 1) := by decide +kernel
theorem dX8_bought_74 : decode cX8_bought 74 = .ok (.aload_n 0, 1) := by decide +kernel
theorem dX8_bought_75 : decode cX8_bought 75 = .ok (.getfield 12, 3) := by decide +kernel
theorem dX8_bought_78 : decode cX8_bought 78 = .ok (.getfield 186, 3) := by decide +kernel
theorem dX8_bought_81 : decode cX8_bought 81 = .ok (.iload_n 1, 1) := by decide +kernel
theorem dX8_bought_82 : decode cX8_bought 82 = .ok (.iaload, 1) := by decide +kernel
theorem dX8_bought_83 : decode cX8_bought 83 = .ok (.ireturn, 1) := by decide +kernel
theorem dX8_bought_84 : decode cX8_bought 84 = .ok (.aload_n 0, 1) := by decide +kernel
theorem dX8_bought_85 : decode cX8_bought 85 = .ok (.getfield 12, 3) := by decide +kernel
theorem dX8_bought_88 : decode cX8_bought 88 = .ok (.getfield 189, 3) := by decide +kernel
theorem dX8_bought_91 : decode cX8_bought 91 = .ok (.iload_n 1, 1) := by decide +kernel
theorem dX8_bought_92 : decode cX8_bought 92 = .ok (.iaload, 1) := by decide +kernel
theorem dX8_bought_93 : decode cX8_bought 93 = .ok (.ireturn, 1) := by decide +kernel
theorem dX8_bought_94 : decode cX8_bought 94 = .ok (.aload_n 0, 1) := by decide +kernel
theorem dX8_bought_95 : decode cX8_bought 95 = .ok (.getfield 12, 3) := by decide +kernel
theorem dX8_bought_98 : decode cX8_bought 98 = .ok (.getfield 192, 3) := by decide +kernel
theorem dX8_bought_101 : decode cX8_bought 101 = .ok (.iload_n 1, 1) := by decide +kernel
theorem dX8_bought_102 : decode cX8_bought 102 = .ok (.iaload, 1) := by decide +kernel
theorem dX8_bought_103 : decode cX8_bought 103 = .ok (.ireturn, 1) := by decide +kernel
theorem dX8_sold_0 : decode cX8_sold 0 = .ok (.aload_n 0, 1) := by decide +kernel
theorem dX8_sold_1 : decode cX8_sold 1 = .ok (.getfield 12, 3) := by decide +kernel
theorem dX8_sold_4 : decode cX8_sold 4 = .ok (.getfield 60, 3) := by decide +kernel
theorem dX8_sold_7 : decode cX8_sold 7 = .ok (.iload_n 1, 1) := by decide +kernel
theorem dX8_sold_8 : decode cX8_sold 8 = .ok (.invokevirtual 83, 3) := by decide +kernel
theorem dX8_sold_11 : decode cX8_sold 11 = .ok (.ifCond .ne 5, 3) := by decide +kernel
theorem dX8_sold_14 : decode cX8_sold 14 = .ok (.iconst (-1), 1) := by decide +kernel
theorem dX8_sold_15 : decode cX8_sold 15 = .ok (.ireturn, 1) := by decide +kernel
theorem dX8_sold_16 : decode cX8_sold 16 = .ok (.iload_n 2, 1) := by decide +kernel
theorem dX8_sold_17 : decode cX8_sold 17 = .ok (.iconst 0, 1) := by decide +kernel
theorem dX8_sold_18 : decode cX8_sold 18 = .ok (.iconst 2, 1) := by decide +kernel
theorem dX8_sold_19 : decode cX8_sold 19 = .ok (.invokestatic 108, 3) := by decide +kernel
theorem dX8_sold_22 : decode cX8_sold 22 = .ok (.ifCond .ne 6, 3) := by decide +kernel
theorem dX8_sold_25 : decode cX8_sold 25 = .ok (.bipush (-2), 2) := by decide +kernel
theorem dX8_sold_27 : decode cX8_sold 27 = .ok (.ireturn, 1) := by decide +kernel
theorem dX8_sold_28 : decode cX8_sold 28 = .ok (.aload_n 0, 1) := by decide +kernel
theorem dX8_sold_29 : decode cX8_sold 29 = .ok (.getfield 12, 3) := by decide +kernel
theorem dX8_sold_32 : decode cX8_sold 32 = .ok (.invokevirtual 167, 3) := by decide +kernel
theorem dX8_sold_35 : decode cX8_sold 35 = .ok (.iload_n 2, 1) := by decide +kernel
theorem dX8_sold_36 : decode cX8_sold 36 = .ok (.lookupswitch 48 #[(0, 28), (1, 38)], 28) := by decide +kernel
theorem dX8_sold_64 : decode cX8_sold 64 = .ok (.aload_n 0, 1) := by decide +kernel
theorem dX8_sold_65 : decode cX8_sold 65 = .ok (.getfield 12, 3) := by decide +kernel
theorem dX8_sold_68 : decode cX8_sold 68 = .ok (.getfield 195, 3) := by decide +kernel
theorem dX8_sold_71 : decode cX8_sold 71 = .ok (.iload_n 1, 1) := by decide +kernel
theorem dX8_sold_72 : decode cX8_sold 72 = .ok (.iaload, 1) := by decide +kernel
theorem dX8_sold_73 : decode cX8_sold 73 = .ok (.ireturn, 1) := by decide +kernel
theorem dX8_sold_74 : decode cX8_sold 74 = .ok (.aload_n 0, 1) := by decide +kernel
theorem dX8_sold_75 : decode cX8_sold 75 = .ok (.getfield 12, 3) := by decide +kernel
theorem dX8_sold_78 : decode cX8_sold 78 = .ok (.getfield 198, 3) := by decide +kernel
theorem dX8_sold_81 : decode cX8_sold 81 = .ok (.iload_n 1, 1) := by decide +kernel
theorem dX8_sold_82 : decode cX8_sold 82 = .ok (.iaload, 1) := by decide +kernel
theorem dX8_sold_83 : decode cX8_sold 83 = .ok (.ireturn, 1) := by decide +kernel
theorem dX8_sold_84 : decode cX8_sold 84 = .ok (.aload_n 0, 1) := by decide +kernel
theorem dX8_sold_85 : decode cX8_sold 85 = .ok (.getfield 12, 3) := by decide +kernel
theorem dX8_sold_88 : decode cX8_sold 88 = .ok (.getfield 201, 3) := by decide +kernel
theorem dX8_sold_91 : decode cX8_sold 91 = .ok (.iload_n 1, 1) := by decide +kernel
theorem dX8_sold_92 : decode cX8_sold 92 = .ok (.iaload, 1) := by decide +kernel
theorem dX8_sold_93 : decode cX8_sold 93 = .ok (.ireturn, 1) := by decide +kernel
theorem dX8_best_0 : decode cX8_best 0 = .ok (.aload_n 0, 1) := by decide +kernel
theorem dX8_best_1 : decode cX8_best 1 = .ok (.getfield 12, 3) := by decide +kernel
theorem dX8_best_4 : decode cX8_best 4 = .ok (.getfield 60, 3) := by decide +kernel
theorem dX8_best_7 : decode cX8_best 7 = .ok (.iload_n 1, 1) := by decide +kernel
theorem dX8_best_8 : decode cX8_best 8 = .ok (.iload_n 2, 1) := by decide +kernel
theorem dX8_best_9 : decode cX8_best 9 = .ok (.invokevirtual 100, 3) := by decide +kernel
theorem dX8_best_12 : decode cX8_best 12 = .ok (.ifCond .ne 5, 3) := by decide +kernel
theorem dX8_best_15 : decode cX8_best 15 = .ok (.iconst (-1), 1) := by decide +kernel
theorem dX8_best_16 : decode cX8_best 16 = .ok (.ireturn, 1) := by decide +kernel
theorem dX8_best_17 : decode cX8_best 17 = .ok (.iload_n 3, 1) := by decide +kernel
theorem dX8_best_18 : decode cX8_best 18 = .ok (.iconst 0, 1) := by decide +kernel
theorem dX8_best_19 : decode cX8_best 19 = .ok (.iconst 1, 1) := by decide +kernel
theorem dX8_best_20 : decode cX8_best 20 = .ok (.invokestatic 108, 3) := by decide +kernel
theorem dX8_best_23 : decode cX8_best 23 = .ok (.ifCond .ne 6, 3) := by decide +kernel
theorem dX8_best_26 : decode cX8_best 26 = .ok (.bipush (-2), 2) := by decide +kernel
theorem dX8_best_28 : decode cX8_best 28 = .ok (.ireturn, 1) := by decide +kernel
theorem dX8_best_29 : decode cX8_best 29 = .ok (.aload_n 0, 1) := by decide +kernel
theorem dX8_best_30 : decode cX8_best 30 = .ok (.getfield 21, 3) := by decide +kernel
theorem dX8_best_33 : decode cX8_best 33 = .ok (.aload_n 0, 1) := by decide +kernel
theorem dX8_best_34 : decode cX8_best 34 = .ok (.getfield 12, 3) := by decide +kernel
theorem dX8_best_37 : decode cX8_best 37 = .ok (.iload_n 1, 1) := by decide +kernel
theorem dX8_best_38 : decode cX8_best 38 = .ok (.iload_n 2, 1) := by decide +kernel
theorem dX8_best_39 : decode cX8_best 39 = .ok (.invokevirtual 204, 3) := by decide +kernel
theorem dX8_best_42 : decode cX8_best 42 = .ok (.iload_n 3, 1) := by decide +kernel
theorem dX8_best_43 : decode cX8_best 43 = .ok (.ifCond .ne 13, 3) := by decide +kernel
theorem dX8_best_46 : decode cX8_best 46 = .ok (.aload_n 0, 1) := by decide +kernel
theorem dX8_best_47 : decode cX8_best 47 = .ok (.getfield 21, 3) := by decide +kernel
theorem dX8_best_50 : decode cX8_best 50 = .ok (.getfield 208, 3) := by decide +kernel
theorem dX8_best_53 : decode cX8_best 53 = .ok (.goto 10, 3) := by decide +kernel
theorem dX8_best_56 : decode cX8_best 56 = .ok (.aload_n 0, 1) := by decide +kernel
theorem dX8_best_57 : decode cX8_best 57 = .ok (.getfield 21, 3) := by decide +kernel
theorem dX8_best_60 : decode cX8_best 60 = .ok (.getfield 211, 3) := by decide +kernel
theorem dX8_best_63 : decode cX8_best 63 = .ok (.ireturn, 1) := by decide +kernel
theorem dX8_takeOff_0 : decode cX8_takeOff 0 = .ok (.iload_n 1, 1) := by decide +kernel
theorem dX8_takeOff_1 : decode cX8_takeOff 1 = .ok (.iconst 0, 1) := by decide +kernel
theorem dX8_takeOff_2 : decode cX8_takeOff 2 = .ok (.iconst 2, 1) := by decide +kernel
theorem dX8_takeOff_3 : decode cX8_takeOff 3 = .ok (.invokestatic 108, 3) := by decide +kernel
theorem dX8_takeOff_6 : decode cX8_takeOff 6 = .ok (.ifCond .ne 6, 3) := by decide +kernel
theorem dX8_takeOff_9 : decode cX8_takeOff 9 = .ok (.bipush (-2), 2) := by decide +kernel
theorem dX8_takeOff_11 : decode cX8_takeOff 11 = .ok (.ireturn, 1) := by decide +kernel
theorem dX8_takeOff_12 : decode cX8_takeOff 12 = .ok (.aload_n 0, 1) := by decide +kernel
theorem dX8_takeOff_13 : decode cX8_takeOff 13 = .ok (.getfield 12, 3) := by decide +kernel
theorem dX8_takeOff_16 : decode cX8_takeOff 16 = .ok (.getfield 60, 3) := by decide +kernel
theorem dX8_takeOff_19 : decode cX8_takeOff 19 = .ok (.invokevirtual 131, 3) := by decide +kernel
theorem dX8_takeOff_22 : decode cX8_takeOff 22 = .ok (.ifCond .ne 6, 3) := by decide +kernel
theorem dX8_takeOff_25 : decode cX8_takeOff 25 = .ok (.bipush (-3), 2) := by decide +kernel
theorem dX8_takeOff_27 : decode cX8_takeOff 27 = .ok (.ireturn, 1) := by decide +kernel
theorem dX8_takeOff_28 : decode cX8_takeOff 28 = .ok (.aload_n 0, 1) := by decide +kernel
theorem dX8_takeOff_29 : decode cX8_takeOff 29 = .ok (.getfield 21, 3) := by decide +kernel
theorem dX8_takeOff_32 : decode cX8_takeOff 32 = .ok (.aload_n 0, 1) := by decide +kernel
theorem dX8_takeOff_33 : decode cX8_takeOff 33 = .ok (.getfield 12, 3) := by decide +kernel
theorem dX8_takeOff_36 : decode cX8_takeOff 36 = .ok (.invokevirtual 213, 3) := by decide +kernel
theorem dX8_takeOff_39 : decode cX8_takeOff 39 = .ok (.iload_n 1, 1) := by decide +kernel
theorem dX8_takeOff_40 : decode cX8_takeOff 40 = .ok (.lookupswitch 44 #[(0, 28), (1, 36)], 28) := by decide +kernel
theorem dX8_takeOff_68 : decode cX8_takeOff 68 = .ok (.aload_n 0, 1) := by decide +kernel
theorem dX8_takeOff_69 : decode cX8_takeOff 69 = .ok (.getfield 21, 3) := by decide +kernel
theorem dX8_takeOff_72 : decode cX8_takeOff 72 = .ok (.getfield 211, 3) := by decide +kernel
theorem dX8_takeOff_75 : decode cX8_takeOff 75 = .ok (.ireturn, 1) := by decide +kernel
theorem dX8_takeOff_76 : decode cX8_takeOff 76 = .ok (.aload_n 0, 1) := by decide +kernel
theorem dX8_takeOff_77 : decode cX8_takeOff 77 = .ok (.getfield 21, 3) := by decide +kernel
theorem dX8_takeOff_80 : decode cX8_takeOff 80 = .ok (.getfield 217, 3) := by decide +kernel
theorem dX8_takeOff_83 : decode cX8_takeOff 83 = .ok (.ireturn, 1) := by decide +kernel
theorem dX8_takeOff_84 : decode cX8_takeOff 84 = .ok (.aload_n 0, 1) := by decide +kernel
theorem dX8_takeOff_85 : decode cX8_takeOff 85 = .ok (.getfield 21, 3) := by decide +kernel
theorem dX8_takeOff_88 : decode cX8_takeOff 88 = .ok (.getfield 208, 3) := by decide +kernel
theorem dX8_takeOff_91 : decode cX8_takeOff 91 = .ok (.ireturn, 1) := by decide +kernel
theorem dX8_fetch_0 : decode cX8_fetch 0 = .ok (.iload_n 1, 1) := by decide +kernel
theorem dX8_fetch_1 : decode cX8_fetch 1 = .ok (.iconst (-1), 1) := by decide +kernel
theorem dX8_fetch_2 : decode cX8_fetch 2 = .ok (.iconst 3, 1) := by decide +kernel
theorem dX8_fetch_3 : decode cX8_fetch 3 = .ok (.invokestatic 108, 3) := by decide +kernel
theorem dX8_fetch_6 : decode cX8_fetch 6 = .ok (.ifCond .ne 5, 3) := by decide +kernel
theorem dX8_fetch_9 : decode cX8_fetch 9 = .ok (.iconst (-1), 1) := by decide +kernel
theorem dX8_fetch_10 : decode cX8_fetch 10 = .ok (.ireturn, 1) := by decide +kernel
theorem dX8_fetch_11 : decode cX8_fetch 11 = .ok (.aload_n 0, 1) := by decide +kernel
theorem dX8_fetch_12 : decode cX8_fetch 12 = .ok (.getfield 12, 3) := by decide +kernel
theorem dX8_fetch_15 : decode cX8_fetch 15 = .ok (.getfield 60, 3) := by decide +kernel
theorem dX8_fetch_18 : decode cX8_fetch 18 = .ok (.invokevirtual 131, 3) := by decide +kernel
theorem dX8_fetch_21 : decode cX8_fetch 21 = .ok (.ifCond .ne 6, 3) := by decide +kernel
theorem dX8_fetch_24 : decode cX8_fetch 24 = .ok (.bipush (-3), 2) := by decide +kernel
theorem dX8_fetch_26 : decode cX8_fetch 26 = .ok (.ireturn, 1) := by decide +kernel
theorem dX8_fetch_27 : decode cX8_fetch 27 = .ok (.iload_n 1, 1) := by decide +kernel
theorem dX8_fetch_28 : decode cX8_fetch 28 = .ok (.ifCond .lt 20, 3) := by decide +kernel
theorem dX8_fetch_31 : decode cX8_fetch 31 = .ok (.aload_n 0, 1) := by decide +kernel
theorem dX8_fetch_32 : decode cX8_fetch 32 = .ok (.getfield 12, 3) := by decide +kernel
theorem dX8_fetch_35 : decode cX8_fetch 35 = .ok (.getfield 60, 3) := by decide +kernel
theorem dX8_fetch_38 : decode cX8_fetch 38 = .ok (.iload_n 1, 1) := by decide +kernel
theorem dX8_fetch_39 : decode cX8_fetch 39 = .ok (.invokevirtual 83, 3) := by decide +kernel
theorem dX8_fetch_42 : decode cX8_fetch 42 = .ok (.ifCond .ne 6, 3) := by decide +kernel
theorem dX8_fetch_45 : decode cX8_fetch 45 = .ok (.bipush (-9), 2) := by decide +kernel
theorem dX8_fetch_47 : decode cX8_fetch 47 = .ok (.ireturn, 1) := by decide +kernel
theorem dX8_fetch_48 : decode cX8_fetch 48 = .ok (.aload_n 0, 1) := by decide +kernel
theorem dX8_fetch_49 : decode cX8_fetch 49 = .ok (.getfield 21, 3) := by decide +kernel
theorem dX8_fetch_52 : decode cX8_fetch 52 = .ok (.aload_n 0, 1) := by decide +kernel
theorem dX8_fetch_53 : decode cX8_fetch 53 = .ok (.getfield 12, 3) := by decide +kernel
theorem dX8_fetch_56 : decode cX8_fetch 56 = .ok (.invokevirtual 219, 3) := by decide +kernel
theorem dX8_fetch_59 : decode cX8_fetch 59 = .ok (.iload_n 1, 1) := by decide +kernel
theorem dX8_fetch_60 : decode cX8_fetch 60 = .ok (.ifCond .ge 13, 3) := by decide +kernel
theorem dX8_fetch_63 : decode cX8_fetch 63 = .ok (.aload_n 0, 1) := by decide +kernel
theorem dX8_fetch_64 : decode cX8_fetch 64 = .ok (.getfield 21, 3) := by decide +kernel
theorem dX8_fetch_67 : decode cX8_fetch 67 = .ok (.getfield 211, 3) := by decide +kernel
theorem dX8_fetch_70 : decode cX8_fetch 70 = .ok (.goto 12, 3) := by decide +kernel
theorem dX8_fetch_73 : decode cX8_fetch 73 = .ok (.aload_n 0, 1) := by decide +kernel
theorem dX8_fetch_74 : decode cX8_fetch 74 = .ok (.getfield 21, 3) := by decide +kernel
theorem dX8_fetch_77 : decode cX8_fetch 77 = .ok (.getfield 222, 3) := by decide +kernel
theorem dX8_fetch_80 : decode cX8_fetch 80 = .ok (.iload_n 1, 1) := by decide +kernel
theorem dX8_fetch_81 : decode cX8_fetch 81 = .ok (.iaload, 1) := by decide +kernel
theorem dX8_fetch_82 : decode cX8_fetch 82 = .ok (.ireturn, 1) := by decide +kernel
theorem dX8_carried_0 : decode cX8_carried 0 = .ok (.aload_n 0, 1) := by decide +kernel
theorem dX8_carried_1 : decode cX8_carried 1 = .ok (.getfield 12, 3) := by decide +kernel
theorem dX8_carried_4 : decode cX8_carried 4 = .ok (.getfield 60, 3) := by decide +kernel
theorem dX8_carried_7 : decode cX8_carried 7 = .ok (.iload_n 1, 1) := by decide +kernel
theorem dX8_carried_8 : decode cX8_carried 8 = .ok (.invokevirtual 83, 3) := by decide +kernel
theorem dX8_carried_11 : decode cX8_carried 11 = .ok (.ifCond .ne 5, 3) := by decide +kernel
theorem dX8_carried_14 : decode cX8_carried 14 = .ok (.iconst (-1), 1) := by decide +kernel
theorem dX8_carried_15 : decode cX8_carried 15 = .ok (.ireturn, 1) := by decide +kernel
theorem dX8_carried_16 : decode cX8_carried 16 = .ok (.aload_n 0, 1) := by decide +kernel
theorem dX8_carried_17 : decode cX8_carried 17 = .ok (.getfield 12, 3) := by decide +kernel
theorem dX8_carried_20 : decode cX8_carried 20 = .ok (.invokevirtual 167, 3) := by decide +kernel
theorem dX8_carried_23 : decode cX8_carried 23 = .ok (.aload_n 0, 1) := by decide +kernel
theorem dX8_carried_24 : decode cX8_carried 24 = .ok (.getfield 12, 3) := by decide +kernel
theorem dX8_carried_27 : decode cX8_carried 27 = .ok (.invokevirtual 180, 3) := by decide +kernel
theorem dX8_carried_30 : decode cX8_carried 30 = .ok (.aload_n 0, 1) := by decide +kernel
theorem dX8_carried_31 : decode cX8_carried 31 = .ok (.getfield 21, 3) := by decide +kernel
theorem dX8_carried_34 : decode cX8_carried 34 = .ok (.aload_n 0, 1) := by decide +kernel
theorem dX8_carried_35 : decode cX8_carried 35 = .ok (.getfield 12, 3) := by decide +kernel
theorem dX8_carried_38 : decode cX8_carried 38 = .ok (.iload_n 1, 1) := by decide +kernel
theorem dX8_carried_39 : decode cX8_carried 39 = .ok (.invokevirtual 225, 3) := by decide +kernel
theorem dX8_carried_42 : decode cX8_carried 42 = .ok (.isub, 1) := by decide +kernel
theorem dX8_carried_43 : decode cX8_carried 43 = .ok (.ireturn, 1) := by decide +kernel
theorem dX8_cook_0 : decode cX8_cook 0 = .ok (.aload_n 0, 1) := by decide +kernel
theorem dX8_cook_1 : decode cX8_cook 1 = .ok (.getfield 12, 3) := by decide +kernel
theorem dX8_cook_4 : decode cX8_cook 4 = .ok (.getfield 60, 3) := by decide +kernel
theorem dX8_cook_7 : decode cX8_cook 7 = .ok (.iload_n 1, 1) := by decide +kernel
theorem dX8_cook_8 : decode cX8_cook 8 = .ok (.iload_n 2, 1) := by decide +kernel
theorem dX8_cook_9 : decode cX8_cook 9 = .ok (.invokevirtual 100, 3) := by decide +kernel
theorem dX8_cook_12 : decode cX8_cook 12 = .ok (.ifCond .ne 5, 3) := by decide +kernel
theorem dX8_cook_15 : decode cX8_cook 15 = .ok (.iconst (-1), 1) := by decide +kernel
theorem dX8_cook_16 : decode cX8_cook 16 = .ok (.ireturn, 1) := by decide +kernel
theorem dX8_cook_17 : decode cX8_cook 17 = .ok (.iload_n 3, 1) := by decide +kernel
theorem dX8_cook_18 : decode cX8_cook 18 = .ok (.iconst 0, 1) := by decide +kernel
theorem dX8_cook_19 : decode cX8_cook 19 = .ok (.bipush 30, 2) := by decide +kernel
theorem dX8_cook_21 : decode cX8_cook 21 = .ok (.invokestatic 108, 3) := by decide +kernel
theorem dX8_cook_24 : decode cX8_cook 24 = .ok (.ifCond .ne 6, 3) := by decide +kernel
theorem dX8_cook_27 : decode cX8_cook 27 = .ok (.bipush (-2), 2) := by decide +kernel
theorem dX8_cook_29 : decode cX8_cook 29 = .ok (.ireturn, 1) := by decide +kernel
theorem dX8_cook_30 : decode cX8_cook 30 = .ok (.aload_n 0, 1) := by decide +kernel
theorem dX8_cook_31 : decode cX8_cook 31 = .ok (.getfield 12, 3) := by decide +kernel
theorem dX8_cook_34 : decode cX8_cook 34 = .ok (.invokevirtual 167, 3) := by decide +kernel
theorem dX8_cook_37 : decode cX8_cook 37 = .ok (.aload_n 0, 1) := by decide +kernel
theorem dX8_cook_38 : decode cX8_cook 38 = .ok (.getfield 21, 3) := by decide +kernel
theorem dX8_cook_41 : decode cX8_cook 41 = .ok (.aload_n 0, 1) := by decide +kernel
theorem dX8_cook_42 : decode cX8_cook 42 = .ok (.getfield 12, 3) := by decide +kernel
theorem dX8_cook_45 : decode cX8_cook 45 = .ok (.iload_n 1, 1) := by decide +kernel
theorem dX8_cook_46 : decode cX8_cook 46 = .ok (.iload_n 2, 1) := by decide +kernel
theorem dX8_cook_47 : decode cX8_cook 47 = .ok (.iload_n 3, 1) := by decide +kernel
theorem dX8_cook_48 : decode cX8_cook 48 = .ok (.invokevirtual 229, 3) := by decide +kernel
theorem dX8_cook_51 : decode cX8_cook 51 = .ok (.aload_n 0, 1) := by decide +kernel
theorem dX8_cook_52 : decode cX8_cook 52 = .ok (.getfield 12, 3) := by decide +kernel
theorem dX8_cook_55 : decode cX8_cook 55 = .ok (.invokevirtual 180, 3) := by decide +kernel
theorem dX8_cook_58 : decode cX8_cook 58 = .ok (.isub, 1) := by decide +kernel
theorem dX8_cook_59 : decode cX8_cook 59 = .ok (.ireturn, 1) := by decide +kernel
theorem dX8_mean_0 : decode cX8_mean 0 = .ok (.aload_n 0, 1) := by decide +kernel
theorem dX8_mean_1 : decode cX8_mean 1 = .ok (.iload_n 1, 1) := by decide +kernel
theorem dX8_mean_2 : decode cX8_mean 2 = .ok (.iload_n 2, 1) := by decide +kernel
theorem dX8_mean_3 : decode cX8_mean 3 = .ok (.iload_n 3, 1) := by decide +kernel
theorem dX8_mean_4 : decode cX8_mean 4 = .ok (.iload 4, 2) := by decide +kernel
theorem dX8_mean_6 : decode cX8_mean 6 = .ok (.invokevirtual 46, 3) := by decide +kernel
theorem dX8_mean_9 : decode cX8_mean 9 = .ok (.ifCond .ne 25, 3) := by decide +kernel
theorem dX8_mean_12 : decode cX8_mean 12 = .ok (.aload_n 0, 1) := by decide +kernel
theorem dX8_mean_13 : decode cX8_mean 13 = .ok (.getfield 35, 3) := by decide +kernel
theorem dX8_mean_16 : decode cX8_mean 16 = .ok (.aload_n 0, 1) := by decide +kernel
theorem dX8_mean_17 : decode cX8_mean 17 = .ok (.getfield 28, 3) := by decide +kernel
theorem dX8_mean_20 : decode cX8_mean 20 = .ok (.getfield 50, 3) := by decide +kernel
theorem dX8_mean_23 : decode cX8_mean 23 = .ok (.iload_n 1, 1) := by decide +kernel
theorem dX8_mean_24 : decode cX8_mean 24 = .ok (.aaload, 1) := by decide +kernel
theorem dX8_mean_25 : decode cX8_mean 25 = .ok (.iload_n 3, 1) := by decide +kernel
theorem dX8_mean_26 : decode cX8_mean 26 = .ok (.iload 4, 2) := by decide +kernel
theorem dX8_mean_28 : decode cX8_mean 28 = .ok (.invokevirtual 233, 3) := by decide +kernel
theorem dX8_mean_31 : decode cX8_mean 31 = .ok (.ifCond .ne 7, 3) := by decide +kernel
theorem dX8_mean_34 : decode cX8_mean 34 = .ok (.ldc2_w 237, 3) := by decide +kernel
theorem dX8_mean_37 : decode cX8_mean 37 = .ok (.lreturn, 1) := by decide +kernel
theorem dX8_mean_38 : decode cX8_mean 38 = .ok (.iload 5, 2) := by decide +kernel
theorem dX8_mean_40 : decode cX8_mean 40 = .ok (.iconst 0, 1) := by decide +kernel
theorem dX8_mean_41 : decode cX8_mean 41 = .ok (.bipush 20, 2) := by decide +kernel
theorem dX8_mean_43 : decode cX8_mean 43 = .ok (.invokestatic 108, 3) := by decide +kernel
theorem dX8_mean_46 : decode cX8_mean 46 = .ok (.ifCond .eq 25, 3) := by decide +kernel
theorem dX8_mean_49 : decode cX8_mean 49 = .ok (.iload 6, 2) := by decide +kernel
theorem dX8_mean_51 : decode cX8_mean 51 = .ok (.iload 7, 2) := by decide +kernel
theorem dX8_mean_53 : decode cX8_mean 53 = .ok (.iload 8, 2) := by decide +kernel
theorem dX8_mean_55 : decode cX8_mean 55 = .ok (.invokestatic 239, 3) := by decide +kernel
theorem dX8_mean_58 : decode cX8_mean 58 = .ok (.ifCond .eq 13, 3) := by decide +kernel
theorem dX8_mean_61 : decode cX8_mean 61 = .ok (.iload 9, 2) := by decide +kernel
theorem dX8_mean_63 : decode cX8_mean 63 = .ok (.iconst 0, 1) := by decide +kernel
theorem dX8_mean_64 : decode cX8_mean 64 = .ok (.iconst 1, 1) := by decide +kernel
theorem dX8_mean_65 : decode cX8_mean 65 = .ok (.invokestatic 108, 3) := by decide +kernel
theorem dX8_mean_68 : decode cX8_mean 68 = .ok (.ifCond .ne 7, 3) := by decide +kernel
theorem dX8_mean_71 : decode cX8_mean 71 = .ok (.ldc2_w 237, 3) := by decide +kernel
theorem dX8_mean_74 : decode cX8_mean 74 = .ok (.lreturn, 1) := by decide +kernel
theorem dX8_mean_75 : decode cX8_mean 75 = .ok (.aload_n 0, 1) := by decide +kernel
theorem dX8_mean_76 : decode cX8_mean 76 = .ok (.getfield 35, 3) := by decide +kernel
theorem dX8_mean_79 : decode cX8_mean 79 = .ok (.iload 5, 2) := by decide +kernel
theorem dX8_mean_81 : decode cX8_mean 81 = .ok (.iload 6, 2) := by decide +kernel
theorem dX8_mean_83 : decode cX8_mean 83 = .ok (.iload 7, 2) := by decide +kernel
theorem dX8_mean_85 : decode cX8_mean 85 = .ok (.iload 8, 2) := by decide +kernel
theorem dX8_mean_87 : decode cX8_mean 87 = .ok (.invokevirtual 242, 3) := by decide +kernel
theorem dX8_mean_90 : decode cX8_mean 90 = .ok (.i2l, 1) := by decide +kernel
theorem dX8_mean_91 : decode cX8_mean 91 = .ok (.aload_n 0, 1) := by decide +kernel
theorem dX8_mean_92 : decode cX8_mean 92 = .ok (.getfield 35, 3) := by decide +kernel
theorem dX8_mean_95 : decode cX8_mean 95 = .ok (.getfield 245, 3) := by decide +kernel
theorem dX8_mean_98 : decode cX8_mean 98 = .ok (.i2l, 1) := by decide +kernel
theorem dX8_mean_99 : decode cX8_mean 99 = .ok (.iload 9, 2) := by decide +kernel
theorem dX8_mean_101 : decode cX8_mean 101 = .ok (.invokestatic 248, 3) := by decide +kernel
theorem dX8_mean_104 : decode cX8_mean 104 = .ok (.lreturn, 1) := by decide +kernel
theorem dX8_howMany_0 : decode cX8_howMany 0 = .ok (.aload_n 0, 1) := by decide +kernel
theorem dX8_howMany_1 : decode cX8_howMany 1 = .ok (.iload_n 1, 1) := by decide +kernel
theorem dX8_howMany_2 : decode cX8_howMany 2 = .ok (.iload_n 2, 1) := by decide +kernel
theorem dX8_howMany_3 : decode cX8_howMany 3 = .ok (.iload_n 3, 1) := by decide +kernel
theorem dX8_howMany_4 : decode cX8_howMany 4 = .ok (.iload 4, 2) := by decide +kernel
theorem dX8_howMany_6 : decode cX8_howMany 6 = .ok (.invokevirtual 46, 3) := by decide +kernel
theorem dX8_howMany_9 : decode cX8_howMany 9 = .ok (.istore 8, 2) := by decide +kernel
theorem dX8_howMany_11 : decode cX8_howMany 11 = .ok (.iload 8, 2) := by decide +kernel
theorem dX8_howMany_13 : decode cX8_howMany 13 = .ok (.ifCond .eq 6, 3) := by decide +kernel
theorem dX8_howMany_16 : decode cX8_howMany 16 = .ok (.iload 8, 2) := by decide +kernel
theorem dX8_howMany_18 : decode cX8_howMany 18 = .ok (.ireturn, 1) := by decide +kernel
theorem dX8_howMany_19 : decode cX8_howMany 19 = .ok (.aload_n 0, 1) := by decide +kernel
theorem dX8_howMany_20 : decode cX8_howMany 20 = .ok (.getfield 35, 3) := by decide +kernel
theorem dX8_howMany_23 : decode cX8_howMany 23 = .ok (.aload_n 0, 1) := by decide +kernel
theorem dX8_howMany_24 : decode cX8_howMany 24 = .ok (.getfield 28, 3) := by decide +kernel
theorem dX8_howMany_27 : decode cX8_howMany 27 = .ok (.getfield 50, 3) := by decide +kernel
theorem dX8_howMany_30 : decode cX8_howMany 30 = .ok (.iload_n 1, 1) := by decide +kernel
theorem dX8_howMany_31 : decode cX8_howMany 31 = .ok (.aaload, 1) := by decide +kernel
theorem dX8_howMany_32 : decode cX8_howMany 32 = .ok (.iload_n 3, 1) := by decide +kernel
theorem dX8_howMany_33 : decode cX8_howMany 33 = .ok (.iload 4, 2) := by decide +kernel
theorem dX8_howMany_35 : decode cX8_howMany 35 = .ok (.invokevirtual 233, 3) := by decide +kernel
theorem dX8_howMany_38 : decode cX8_howMany 38 = .ok (.ifCond .eq 15, 3) := by decide +kernel
theorem dX8_howMany_41 : decode cX8_howMany 41 = .ok (.iload 5, 2) := by decide +kernel
theorem dX8_howMany_43 : decode cX8_howMany 43 = .ok (.iload 6, 2) := by decide +kernel
theorem dX8_howMany_45 : decode cX8_howMany 45 = .ok (.iload 7, 2) := by decide +kernel
theorem dX8_howMany_47 : decode cX8_howMany 47 = .ok (.invokestatic 239, 3) := by decide +kernel
theorem dX8_howMany_50 : decode cX8_howMany 50 = .ok (.ifCond .ne 6, 3) := by decide +kernel
theorem dX8_howMany_53 : decode cX8_howMany 53 = .ok (.bipush (-2), 2) := by decide +kernel
theorem dX8_howMany_55 : decode cX8_howMany 55 = .ok (.ireturn, 1) := by decide +kernel
theorem dX8_howMany_56 : decode cX8_howMany 56 = .ok (.aload_n 0, 1) := by decide +kernel
theorem dX8_howMany_57 : decode cX8_howMany 57 = .ok (.getfield 35, 3) := by decide +kernel
theorem dX8_howMany_60 : decode cX8_howMany 60 = .ok (.iload 5, 2) := by decide +kernel
theorem dX8_howMany_62 : decode cX8_howMany 62 = .ok (.iload 6, 2) := by decide +kernel
theorem dX8_howMany_64 : decode cX8_howMany 64 = .ok (.iload 7, 2) := by decide +kernel
theorem dX8_howMany_66 : decode cX8_howMany 66 = .ok (.invokevirtual 252, 3) := by decide +kernel
theorem dX8_howMany_69 : decode cX8_howMany 69 = .ok (.ireturn, 1) := by decide +kernel
theorem dX8_right_0 : decode cX8_right 0 = .ok (.aload_n 0, 1) := by decide +kernel
theorem dX8_right_1 : decode cX8_right 1 = .ok (.getfield 12, 3) := by decide +kernel
theorem dX8_right_4 : decode cX8_right 4 = .ok (.getfield 60, 3) := by decide +kernel
theorem dX8_right_7 : decode cX8_right 7 = .ok (.getfield 118, 3) := by decide +kernel
theorem dX8_right_10 : decode cX8_right 10 = .ok (.istore 4, 2) := by decide +kernel
theorem dX8_right_12 : decode cX8_right 12 = .ok (.iload_n 1, 1) := by decide +kernel
theorem dX8_right_13 : decode cX8_right 13 = .ok (.iconst 1, 1) := by decide +kernel
theorem dX8_right_14 : decode cX8_right 14 = .ok (.bipush 99, 2) := by decide +kernel
theorem dX8_right_16 : decode cX8_right 16 = .ok (.invokestatic 108, 3) := by decide +kernel
theorem dX8_right_19 : decode cX8_right 19 = .ok (.ifCond .eq 22, 3) := by decide +kernel
theorem dX8_right_22 : decode cX8_right 22 = .ok (.iload_n 2, 1) := by decide +kernel
theorem dX8_right_23 : decode cX8_right 23 = .ok (.iconst 1, 1) := by decide +kernel
theorem dX8_right_24 : decode cX8_right 24 = .ok (.iload 4, 2) := by decide +kernel
theorem dX8_right_26 : decode cX8_right 26 = .ok (.invokestatic 108, 3) := by decide +kernel
theorem dX8_right_29 : decode cX8_right 29 = .ok (.ifCond .eq 12, 3) := by decide +kernel
theorem dX8_right_32 : decode cX8_right 32 = .ok (.iload_n 3, 1) := by decide +kernel
theorem dX8_right_33 : decode cX8_right 33 = .ok (.iconst 0, 1) := by decide +kernel
theorem dX8_right_34 : decode cX8_right 34 = .ok (.iconst 1, 1) := by decide +kernel
theorem dX8_right_35 : decode cX8_right 35 = .ok (.invokestatic 108, 3) := by decide +kernel
theorem dX8_right_38 : decode cX8_right 38 = .ok (.ifCond .ne 7, 3) := by decide +kernel
theorem dX8_right_41 : decode cX8_right 41 = .ok (.ldc2_w 237, 3) := by decide +kernel
theorem dX8_right_44 : decode cX8_right 44 = .ok (.lreturn, 1) := by decide +kernel
theorem dX8_right_45 : decode cX8_right 45 = .ok (.iload_n 1, 1) := by decide +kernel
theorem dX8_right_46 : decode cX8_right 46 = .ok (.i2l, 1) := by decide +kernel
theorem dX8_right_47 : decode cX8_right 47 = .ok (.iload 4, 2) := by decide +kernel
theorem dX8_right_49 : decode cX8_right 49 = .ok (.i2l, 1) := by decide +kernel
theorem dX8_right_50 : decode cX8_right 50 = .ok (.lmul, 1) := by decide +kernel
theorem dX8_right_51 : decode cX8_right 51 = .ok (.iload_n 2, 1) := by decide +kernel
theorem dX8_right_52 : decode cX8_right 52 = .ok (.i2l, 1) := by decide +kernel
theorem dX8_right_53 : decode cX8_right 53 = .ok (.iload_n 3, 1) := by decide +kernel
theorem dX8_right_54 : decode cX8_right 54 = .ok (.invokestatic 248, 3) := by decide +kernel
theorem dX8_right_57 : decode cX8_right 57 = .ok (.lreturn, 1) := by decide +kernel
theorem dX8_rests_0 : decode cX8_rests 0 = .ok (.aload_n 0, 1) := by decide +kernel
theorem dX8_rests_1 : decode cX8_rests 1 = .ok (.iload_n 1, 1) := by decide +kernel
theorem dX8_rests_2 : decode cX8_rests 2 = .ok (.iload_n 2, 1) := by decide +kernel
theorem dX8_rests_3 : decode cX8_rests 3 = .ok (.iload_n 3, 1) := by decide +kernel
theorem dX8_rests_4 : decode cX8_rests 4 = .ok (.bipush 8, 2) := by decide +kernel
theorem dX8_rests_6 : decode cX8_rests 6 = .ok (.invokevirtual 46, 3) := by decide +kernel
theorem dX8_rests_9 : decode cX8_rests 9 = .ok (.istore 4, 2) := by decide +kernel
theorem dX8_rests_11 : decode cX8_rests 11 = .ok (.iload 4, 2) := by decide +kernel
theorem dX8_rests_13 : decode cX8_rests 13 = .ok (.ifCond .eq 6, 3) := by decide +kernel
theorem dX8_rests_16 : decode cX8_rests 16 = .ok (.iload 4, 2) := by decide +kernel
theorem dX8_rests_18 : decode cX8_rests 18 = .ok (.ireturn, 1) := by decide +kernel
theorem dX8_rests_19 : decode cX8_rests 19 = .ok (.aload_n 0, 1) := by decide +kernel
theorem dX8_rests_20 : decode cX8_rests 20 = .ok (.getfield 42, 3) := by decide +kernel
theorem dX8_rests_23 : decode cX8_rests 23 = .ok (.aload_n 0, 1) := by decide +kernel
theorem dX8_rests_24 : decode cX8_rests 24 = .ok (.getfield 28, 3) := by decide +kernel
theorem dX8_rests_27 : decode cX8_rests 27 = .ok (.getfield 50, 3) := by decide +kernel
theorem dX8_rests_30 : decode cX8_rests 30 = .ok (.iload_n 1, 1) := by decide +kernel
theorem dX8_rests_31 : decode cX8_rests 31 = .ok (.aaload, 1) := by decide +kernel
theorem dX8_rests_32 : decode cX8_rests 32 = .ok (.iload_n 3, 1) := by decide +kernel
theorem dX8_rests_33 : decode cX8_rests 33 = .ok (.invokevirtual 255, 3) := by decide +kernel
theorem dX8_rests_36 : decode cX8_rests 36 = .ok (.ifCond .ne 6, 3) := by decide +kernel
theorem dX8_rests_39 : decode cX8_rests 39 = .ok (.bipush (-2), 2) := by decide +kernel
theorem dX8_rests_41 : decode cX8_rests 41 = .ok (.ireturn, 1) := by decide +kernel
theorem dX8_rests_42 : decode cX8_rests 42 = .ok (.aload_n 0, 1) := by decide +kernel
theorem dX8_rests_43 : decode cX8_rests 43 = .ok (.getfield 42, 3) := by decide +kernel
theorem dX8_rests_46 : decode cX8_rests 46 = .ok (.invokevirtual 258, 3) := by decide +kernel
theorem dX8_rests_49 : decode cX8_rests 49 = .ok (.ireturn, 1) := by decide +kernel
theorem dX8_mixed_0 : decode cX8_mixed 0 = .ok (.aload_n 0, 1) := by decide +kernel
theorem dX8_mixed_1 : decode cX8_mixed 1 = .ok (.iload_n 1, 1) := by decide +kernel
theorem dX8_mixed_2 : decode cX8_mixed 2 = .ok (.iload_n 2, 1) := by decide +kernel
theorem dX8_mixed_3 : decode cX8_mixed 3 = .ok (.iload_n 3, 1) := by decide +kernel
theorem dX8_mixed_4 : decode cX8_mixed 4 = .ok (.bipush 8, 2) := by decide +kernel
theorem dX8_mixed_6 : decode cX8_mixed 6 = .ok (.invokevirtual 46, 3) := by decide +kernel
theorem dX8_mixed_9 : decode cX8_mixed 9 = .ok (.ifCond .ne 23, 3) := by decide +kernel
theorem dX8_mixed_12 : decode cX8_mixed 12 = .ok (.aload_n 0, 1) := by decide +kernel
theorem dX8_mixed_13 : decode cX8_mixed 13 = .ok (.getfield 42, 3) := by decide +kernel
theorem dX8_mixed_16 : decode cX8_mixed 16 = .ok (.aload_n 0, 1) := by decide +kernel
theorem dX8_mixed_17 : decode cX8_mixed 17 = .ok (.getfield 28, 3) := by decide +kernel
theorem dX8_mixed_20 : decode cX8_mixed 20 = .ok (.getfield 50, 3) := by decide +kernel
theorem dX8_mixed_23 : decode cX8_mixed 23 = .ok (.iload_n 1, 1) := by decide +kernel
theorem dX8_mixed_24 : decode cX8_mixed 24 = .ok (.aaload, 1) := by decide +kernel
theorem dX8_mixed_25 : decode cX8_mixed 25 = .ok (.iload_n 3, 1) := by decide +kernel
theorem dX8_mixed_26 : decode cX8_mixed 26 = .ok (.invokevirtual 255, 3) := by decide +kernel
theorem dX8_mixed_29 : decode cX8_mixed 29 = .ok (.ifCond .ne 7, 3) := by decide +kernel
theorem dX8_mixed_32 : decode cX8_mixed 32 = .ok (.ldc2_w 237, 3) := by decide +kernel
theorem dX8_mixed_35 : decode cX8_mixed 35 = .ok (.lreturn, 1) := by decide +kernel
theorem dX8_mixed_36 : decode cX8_mixed 36 = .ok (.iload 4, 2) := by decide +kernel
theorem dX8_mixed_38 : decode cX8_mixed 38 = .ok (.iconst 0, 1) := by decide +kernel
theorem dX8_mixed_39 : decode cX8_mixed 39 = .ok (.iconst 1, 1) := by decide +kernel
theorem dX8_mixed_40 : decode cX8_mixed 40 = .ok (.invokestatic 108, 3) := by decide +kernel
theorem dX8_mixed_43 : decode cX8_mixed 43 = .ok (.ifCond .eq 23, 3) := by decide +kernel
theorem dX8_mixed_46 : decode cX8_mixed 46 = .ok (.iload 5, 2) := by decide +kernel
theorem dX8_mixed_48 : decode cX8_mixed 48 = .ok (.iconst 0, 1) := by decide +kernel
theorem dX8_mixed_49 : decode cX8_mixed 49 = .ok (.iconst 1, 1) := by decide +kernel
theorem dX8_mixed_50 : decode cX8_mixed 50 = .ok (.invokestatic 108, 3) := by decide +kernel
theorem dX8_mixed_53 : decode cX8_mixed 53 = .ok (.ifCond .eq 13, 3) := by decide +kernel
theorem dX8_mixed_56 : decode cX8_mixed 56 = .ok (.aload_n 0, 1) := by decide +kernel
theorem dX8_mixed_57 : decode cX8_mixed 57 = .ok (.getfield 42, 3) := by decide +kernel
theorem dX8_mixed_60 : decode cX8_mixed 60 = .ok (.invokevirtual 261, 3) := by decide +kernel
theorem dX8_mixed_63 : decode cX8_mixed 63 = .ok (.ifCond .ne 7, 3) := by decide +kernel
theorem dX8_mixed_66 : decode cX8_mixed 66 = .ok (.ldc2_w 237, 3) := by decide +kernel
theorem dX8_mixed_69 : decode cX8_mixed 69 = .ok (.lreturn, 1) := by decide +kernel
theorem dX8_mixed_70 : decode cX8_mixed 70 = .ok (.iload 4, 2) := by decide +kernel
theorem dX8_mixed_72 : decode cX8_mixed 72 = .ok (.ifCond .ne 25, 3) := by decide +kernel
theorem dX8_mixed_75 : decode cX8_mixed 75 = .ok (.aload_n 0, 1) := by decide +kernel
theorem dX8_mixed_76 : decode cX8_mixed 76 = .ok (.getfield 42, 3) := by decide +kernel
theorem dX8_mixed_79 : decode cX8_mixed 79 = .ok (.invokevirtual 264, 3) := by decide +kernel
theorem dX8_mixed_82 : decode cX8_mixed 82 = .ok (.i2l, 1) := by decide +kernel
theorem dX8_mixed_83 : decode cX8_mixed 83 = .ok (.aload_n 0, 1) := by decide +kernel
theorem dX8_mixed_84 : decode cX8_mixed 84 = .ok (.getfield 42, 3) := by decide +kernel
theorem dX8_mixed_87 : decode cX8_mixed 87 = .ok (.invokevirtual 267, 3) := by decide +kernel
theorem dX8_mixed_90 : decode cX8_mixed 90 = .ok (.i2l, 1) := by decide +kernel
theorem dX8_mixed_91 : decode cX8_mixed 91 = .ok (.iload 5, 2) := by decide +kernel
theorem dX8_mixed_93 : decode cX8_mixed 93 = .ok (.invokestatic 248, 3) := by decide +kernel
theorem dX8_mixed_96 : decode cX8_mixed 96 = .ok (.lreturn, 1) := by decide +kernel
theorem dX8_mixed_97 : decode cX8_mixed 97 = .ok (.aload_n 0, 1) := by decide +kernel
theorem dX8_mixed_98 : decode cX8_mixed 98 = .ok (.getfield 42, 3) := by decide +kernel
theorem dX8_mixed_101 : decode cX8_mixed 101 = .ok (.invokevirtual 270, 3) := by decide +kernel
theorem dX8_mixed_104 : decode cX8_mixed 104 = .ok (.i2l, 1) := by decide +kernel
theorem dX8_mixed_105 : decode cX8_mixed 105 = .ok (.aload_n 0, 1) := by decide +kernel
theorem dX8_mixed_106 : decode cX8_mixed 106 = .ok (.getfield 42, 3) := by decide +kernel
theorem dX8_mixed_109 : decode cX8_mixed 109 = .ok (.invokevirtual 273, 3) := by decide +kernel
theorem dX8_mixed_112 : decode cX8_mixed 112 = .ok (.i2l, 1) := by decide +kernel
theorem dX8_mixed_113 : decode cX8_mixed 113 = .ok (.iload 5, 2) := by decide +kernel
theorem dX8_mixed_115 : decode cX8_mixed 115 = .ok (.invokestatic 248, 3) := by decide +kernel
theorem dX8_mixed_118 : decode cX8_mixed 118 = .ok (.lreturn, 1) := by decide +kernel
theorem dX8_sheet_0 : decode cX8_sheet 0 = .ok (.aload_n 0, 1) := by decide +kernel
theorem dX8_sheet_1 : decode cX8_sheet 1 = .ok (.iconst 0, 1) := by decide +kernel
theorem dX8_sheet_2 : decode cX8_sheet 2 = .ok (.putfield 115, 3) := by decide +kernel
theorem dX8_sheet_5 : decode cX8_sheet 5 = .ok (.aload_n 0, 1) := by decide +kernel
theorem dX8_sheet_6 : decode cX8_sheet 6 = .ok (.getfield 28, 3) := by decide +kernel
theorem dX8_sheet_9 : decode cX8_sheet 9 = .ok (.iload_n 1, 1) := by decide +kernel
theorem dX8_sheet_10 : decode cX8_sheet 10 = .ok (.invokevirtual 276, 3) := by decide +kernel
theorem dX8_sheet_13 : decode cX8_sheet 13 = .ok (.ifCond .ne 5, 3) := by decide +kernel
theorem dX8_sheet_16 : decode cX8_sheet 16 = .ok (.iconst (-1), 1) := by decide +kernel
theorem dX8_sheet_17 : decode cX8_sheet 17 = .ok (.ireturn, 1) := by decide +kernel
theorem dX8_sheet_18 : decode cX8_sheet 18 = .ok (.aload_n 0, 1) := by decide +kernel
theorem dX8_sheet_19 : decode cX8_sheet 19 = .ok (.getfield 28, 3) := by decide +kernel
theorem dX8_sheet_22 : decode cX8_sheet 22 = .ok (.iload_n 2, 1) := by decide +kernel
theorem dX8_sheet_23 : decode cX8_sheet 23 = .ok (.invokevirtual 279, 3) := by decide +kernel
theorem dX8_sheet_26 : decode cX8_sheet 26 = .ok (.ifCond .eq 9, 3) := by decide +kernel
theorem dX8_sheet_29 : decode cX8_sheet 29 = .ok (.iload_n 3, 1) := by decide +kernel
theorem dX8_sheet_30 : decode cX8_sheet 30 = .ok (.bipush 60, 2) := by decide +kernel
theorem dX8_sheet_32 : decode cX8_sheet 32 = .ok (.if_icmp .le 6, 3) := by decide +kernel
theorem dX8_sheet_35 : decode cX8_sheet 35 = .ok (.bipush (-2), 2) := by decide +kernel
theorem dX8_sheet_37 : decode cX8_sheet 37 = .ok (.ireturn, 1) := by decide +kernel
theorem dX8_sheet_38 : decode cX8_sheet 38 = .ok (.iload_n 3, 1) := by decide +kernel
theorem dX8_sheet_39 : decode cX8_sheet 39 = .ok (.ifCond .ge 9, 3) := by decide +kernel
theorem dX8_sheet_42 : decode cX8_sheet 42 = .ok (.aload_n 0, 1) := by decide +kernel
theorem dX8_sheet_43 : decode cX8_sheet 43 = .ok (.iconst 4, 1) := by decide +kernel
theorem dX8_sheet_44 : decode cX8_sheet 44 = .ok (.invokevirtual 282, 3) := by decide +kernel
theorem dX8_sheet_47 : decode cX8_sheet 47 = .ok (.ireturn, 1) := by decide +kernel
theorem dX8_sheet_48 : decode cX8_sheet 48 = .ok (.aload_n 0, 1) := by decide +kernel
theorem dX8_sheet_49 : decode cX8_sheet 49 = .ok (.getfield 28, 3) := by decide +kernel
theorem dX8_sheet_52 : decode cX8_sheet 52 = .ok (.iload_n 1, 1) := by decide +kernel
theorem dX8_sheet_53 : decode cX8_sheet 53 = .ok (.iload_n 2, 1) := by decide +kernel
theorem dX8_sheet_54 : decode cX8_sheet 54 = .ok (.iload_n 3, 1) := by decide +kernel
theorem dX8_sheet_55 : decode cX8_sheet 55 = .ok (.invokevirtual 286, 3) := by decide +kernel
theorem dX8_sheet_58 : decode cX8_sheet 58 = .ok (.iconst 1, 1) := by decide +kernel
theorem dX8_sheet_59 : decode cX8_sheet 59 = .ok (.ireturn, 1) := by decide +kernel
theorem dX8_lose_0 : decode cX8_lose 0 = .ok (.aload_n 0, 1) := by decide +kernel
theorem dX8_lose_1 : decode cX8_lose 1 = .ok (.getfield 28, 3) := by decide +kernel
theorem dX8_lose_4 : decode cX8_lose 4 = .ok (.iload_n 1, 1) := by decide +kernel
theorem dX8_lose_5 : decode cX8_lose 5 = .ok (.invokevirtual 276, 3) := by decide +kernel
theorem dX8_lose_8 : decode cX8_lose 8 = .ok (.ifCond .ne 5, 3) := by decide +kernel
theorem dX8_lose_11 : decode cX8_lose 11 = .ok (.iconst (-1), 1) := by decide +kernel
theorem dX8_lose_12 : decode cX8_lose 12 = .ok (.ireturn, 1) := by decide +kernel
theorem dX8_lose_13 : decode cX8_lose 13 = .ok (.aload_n 0, 1) := by decide +kernel
theorem dX8_lose_14 : decode cX8_lose 14 = .ok (.getfield 28, 3) := by decide +kernel
theorem dX8_lose_17 : decode cX8_lose 17 = .ok (.iload_n 1, 1) := by decide +kernel
theorem dX8_lose_18 : decode cX8_lose 18 = .ok (.invokevirtual 290, 3) := by decide +kernel
theorem dX8_lose_21 : decode cX8_lose 21 = .ok (.istore_n 2, 1) := by decide +kernel
theorem dX8_lose_22 : decode cX8_lose 22 = .ok (.aload_n 0, 1) := by decide +kernel
theorem dX8_lose_23 : decode cX8_lose 23 = .ok (.getfield 28, 3) := by decide +kernel
theorem dX8_lose_26 : decode cX8_lose 26 = .ok (.getfield 293, 3) := by decide +kernel
theorem dX8_lose_29 : decode cX8_lose 29 = .ok (.iload_n 1, 1) := by decide +kernel
theorem dX8_lose_30 : decode cX8_lose 30 = .ok (.iconst (-1), 1) := by decide +kernel
theorem dX8_lose_31 : decode cX8_lose 31 = .ok (.iastore, 1) := by decide +kernel
theorem dX8_lose_32 : decode cX8_lose 32 = .ok (.iload_n 2, 1) := by decide +kernel
theorem dX8_lose_33 : decode cX8_lose 33 = .ok (.ifCond .eq 7, 3) := by decide +kernel
theorem dX8_lose_36 : decode cX8_lose 36 = .ok (.iconst 1, 1) := by decide +kernel
theorem dX8_lose_37 : decode cX8_lose 37 = .ok (.goto 4, 3) := by decide +kernel
theorem dX8_lose_40 : decode cX8_lose 40 = .ok (.iconst 0, 1) := by decide +kernel
theorem dX8_lose_41 : decode cX8_lose 41 = .ok (.ireturn, 1) := by decide +kernel
theorem dX8_put_0 : decode cX8_put 0 = .ok (.aload_n 0, 1) := by decide +kernel
theorem dX8_put_1 : decode cX8_put 1 = .ok (.iconst 0, 1) := by decide +kernel
theorem dX8_put_2 : decode cX8_put 2 = .ok (.putfield 115, 3) := by decide +kernel
theorem dX8_put_5 : decode cX8_put 5 = .ok (.aload_n 0, 1) := by decide +kernel
theorem dX8_put_6 : decode cX8_put 6 = .ok (.getfield 28, 3) := by decide +kernel
theorem dX8_put_9 : decode cX8_put 9 = .ok (.iload_n 1, 1) := by decide +kernel
theorem dX8_put_10 : decode cX8_put 10 = .ok (.invokevirtual 276, 3) := by decide +kernel
theorem dX8_put_13 : decode cX8_put 13 = .ok (.ifCond .ne 5, 3) := by decide +kernel
theorem dX8_put_16 : decode cX8_put 16 = .ok (.iconst (-1), 1) := by decide +kernel
theorem dX8_put_17 : decode cX8_put 17 = .ok (.ireturn, 1) := by decide +kernel
theorem dX8_put_18 : decode cX8_put 18 = .ok (.aload_n 0, 1) := by decide +kernel
theorem dX8_put_19 : decode cX8_put 19 = .ok (.getfield 28, 3) := by decide +kernel
theorem dX8_put_22 : decode cX8_put 22 = .ok (.iload_n 1, 1) := by decide +kernel
theorem dX8_put_23 : decode cX8_put 23 = .ok (.invokevirtual 290, 3) := by decide +kernel
theorem dX8_put_26 : decode cX8_put 26 = .ok (.ifCond .ne 9, 3) := by decide +kernel
theorem dX8_put_29 : decode cX8_put 29 = .ok (.aload_n 0, 1) := by decide +kernel
theorem dX8_put_30 : decode cX8_put 30 = .ok (.iconst 1, 1) := by decide +kernel
theorem dX8_put_31 : decode cX8_put 31 = .ok (.invokevirtual 282, 3) := by decide +kernel
theorem dX8_put_34 : decode cX8_put 34 = .ok (.ireturn, 1) := by decide +kernel
theorem dX8_put_35 : decode cX8_put 35 = .ok (.aload_n 0, 1) := by decide +kernel
theorem dX8_put_36 : decode cX8_put 36 = .ok (.getfield 28, 3) := by decide +kernel
theorem dX8_put_39 : decode cX8_put 39 = .ok (.iload_n 1, 1) := by decide +kernel
theorem dX8_put_40 : decode cX8_put 40 = .ok (.iload_n 2, 1) := by decide +kernel
theorem dX8_put_41 : decode cX8_put 41 = .ok (.iconst 1, 1) := by decide +kernel
theorem dX8_put_42 : decode cX8_put 42 = .ok (.invokevirtual 296, 3) := by decide +kernel
theorem dX8_put_45 : decode cX8_put 45 = .ok (.ifCond .ne 9, 3) := by decide +kernel
theorem dX8_put_48 : decode cX8_put 48 = .ok (.aload_n 0, 1) := by decide +kernel
theorem dX8_put_49 : decode cX8_put 49 = .ok (.iconst 3, 1) := by decide +kernel
theorem dX8_put_50 : decode cX8_put 50 = .ok (.invokevirtual 282, 3) := by decide +kernel
theorem dX8_put_53 : decode cX8_put 53 = .ok (.ireturn, 1) := by decide +kernel
theorem dX8_put_54 : decode cX8_put 54 = .ok (.aload_n 0, 1) := by decide +kernel
theorem dX8_put_55 : decode cX8_put 55 = .ok (.getfield 28, 3) := by decide +kernel
theorem dX8_put_58 : decode cX8_put 58 = .ok (.getfield 50, 3) := by decide +kernel
theorem dX8_put_61 : decode cX8_put 61 = .ok (.iload_n 1, 1) := by decide +kernel
theorem dX8_put_62 : decode cX8_put 62 = .ok (.aaload, 1) := by decide +kernel
theorem dX8_put_63 : decode cX8_put 63 = .ok (.iload_n 2, 1) := by decide +kernel
theorem dX8_put_64 : decode cX8_put 64 = .ok (.iload_n 3, 1) := by decide +kernel
theorem dX8_put_65 : decode cX8_put 65 = .ok (.aload_n 0, 1) := by decide +kernel
theorem dX8_put_66 : decode cX8_put 66 = .ok (.getfield 28, 3) := by decide +kernel
theorem dX8_put_69 : decode cX8_put 69 = .ok (.getfield 299, 3) := by decide +kernel
theorem dX8_put_72 : decode cX8_put 72 = .ok (.iload_n 1, 1) := by decide +kernel
theorem dX8_put_73 : decode cX8_put 73 = .ok (.iaload, 1) := by decide +kernel
theorem dX8_put_74 : decode cX8_put 74 = .ok (.invokestatic 302, 3) := by decide +kernel
theorem dX8_put_77 : decode cX8_put 77 = .ok (.iastore, 1) := by decide +kernel
theorem dX8_put_78 : decode cX8_put 78 = .ok (.iconst 1, 1) := by decide +kernel
theorem dX8_put_79 : decode cX8_put 79 = .ok (.ireturn, 1) := by decide +kernel
theorem dX8_cell_0 : decode cX8_cell 0 = .ok (.aload_n 0, 1) := by decide +kernel
theorem dX8_cell_1 : decode cX8_cell 1 = .ok (.iload_n 1, 1) := by decide +kernel
theorem dX8_cell_2 : decode cX8_cell 2 = .ok (.iload_n 3, 1) := by decide +kernel
theorem dX8_cell_3 : decode cX8_cell 3 = .ok (.iload_n 2, 1) := by decide +kernel
theorem dX8_cell_4 : decode cX8_cell 4 = .ok (.iconst 1, 1) := by decide +kernel
theorem dX8_cell_5 : decode cX8_cell 5 = .ok (.invokevirtual 46, 3) := by decide +kernel
theorem dX8_cell_8 : decode cX8_cell 8 = .ok (.ifCond .eq 7, 3) := by decide +kernel
theorem dX8_cell_11 : decode cX8_cell 11 = .ok (.ldc2_w 237, 3) := by decide +kernel
theorem dX8_cell_14 : decode cX8_cell 14 = .ok (.lreturn, 1) := by decide +kernel
theorem dX8_cell_15 : decode cX8_cell 15 = .ok (.aload_n 0, 1) := by decide +kernel
theorem dX8_cell_16 : decode cX8_cell 16 = .ok (.getfield 28, 3) := by decide +kernel
theorem dX8_cell_19 : decode cX8_cell 19 = .ok (.getfield 50, 3) := by decide +kernel
theorem dX8_cell_22 : decode cX8_cell 22 = .ok (.iload_n 1, 1) := by decide +kernel
theorem dX8_cell_23 : decode cX8_cell 23 = .ok (.aaload, 1) := by decide +kernel
theorem dX8_cell_24 : decode cX8_cell 24 = .ok (.iload_n 2, 1) := by decide +kernel
theorem dX8_cell_25 : decode cX8_cell 25 = .ok (.iaload, 1) := by decide +kernel
theorem dX8_cell_26 : decode cX8_cell 26 = .ok (.i2l, 1) := by decide +kernel
theorem dX8_cell_27 : decode cX8_cell 27 = .ok (.lreturn, 1) := by decide +kernel
theorem dX8_copy_0 : decode cX8_copy 0 = .ok (.aload_n 0, 1) := by decide +kernel
theorem dX8_copy_1 : decode cX8_copy 1 = .ok (.iconst 0, 1) := by decide +kernel
theorem dX8_copy_2 : decode cX8_copy 2 = .ok (.putfield 115, 3) := by decide +kernel
theorem dX8_copy_5 : decode cX8_copy 5 = .ok (.aload_n 0, 1) := by decide +kernel
theorem dX8_copy_6 : decode cX8_copy 6 = .ok (.getfield 28, 3) := by decide +kernel
theorem dX8_copy_9 : decode cX8_copy 9 = .ok (.iload_n 1, 1) := by decide +kernel
theorem dX8_copy_10 : decode cX8_copy 10 = .ok (.invokevirtual 276, 3) := by decide +kernel
theorem dX8_copy_13 : decode cX8_copy 13 = .ok (.ifCond .eq 14, 3) := by decide +kernel
theorem dX8_copy_16 : decode cX8_copy 16 = .ok (.aload_n 0, 1) := by decide +kernel
theorem dX8_copy_17 : decode cX8_copy 17 = .ok (.getfield 28, 3) := by decide +kernel
theorem dX8_copy_20 : decode cX8_copy 20 = .ok (.iload_n 3, 1) := by decide +kernel
theorem dX8_copy_21 : decode cX8_copy 21 = .ok (.invokevirtual 276, 3) := by decide +kernel
theorem dX8_copy_24 : decode cX8_copy 24 = .ok (.ifCond .ne 5, 3) := by decide +kernel
theorem dX8_copy_27 : decode cX8_copy 27 = .ok (.iconst (-1), 1) := by decide +kernel
theorem dX8_copy_28 : decode cX8_copy 28 = .ok (.ireturn, 1) := by decide +kernel
theorem dX8_copy_29 : decode cX8_copy 29 = .ok (.aload_n 0, 1) := by decide +kernel
theorem dX8_copy_30 : decode cX8_copy 30 = .ok (.getfield 28, 3) := by decide +kernel
theorem dX8_copy_33 : decode cX8_copy 33 = .ok (.iload_n 1, 1) := by decide +kernel
theorem dX8_copy_34 : decode cX8_copy 34 = .ok (.invokevirtual 290, 3) := by decide +kernel
theorem dX8_copy_37 : decode cX8_copy 37 = .ok (.ifCond .eq 14, 3) := by decide +kernel
theorem dX8_copy_40 : decode cX8_copy 40 = .ok (.aload_n 0, 1) := by decide +kernel
theorem dX8_copy_41 : decode cX8_copy 41 = .ok (.getfield 28, 3) := by decide +kernel
theorem dX8_copy_44 : decode cX8_copy 44 = .ok (.iload_n 3, 1) := by decide +kernel
theorem dX8_copy_45 : decode cX8_copy 45 = .ok (.invokevirtual 290, 3) := by decide +kernel
theorem dX8_copy_48 : decode cX8_copy 48 = .ok (.ifCond .ne 9, 3) := by decide +kernel
theorem dX8_copy_51 : decode cX8_copy 51 = .ok (.aload_n 0, 1) := by decide +kernel
theorem dX8_copy_52 : decode cX8_copy 52 = .ok (.iconst 1, 1) := by decide +kernel
theorem dX8_copy_53 : decode cX8_copy 53 = .ok (.invokevirtual 282, 3) := by decide +kernel
theorem dX8_copy_56 : decode cX8_copy 56 = .ok (.ireturn, 1) := by decide +kernel
theorem dX8_copy_57 : decode cX8_copy 57 = .ok (.aload_n 0, 1) := by decide +kernel
theorem dX8_copy_58 : decode cX8_copy 58 = .ok (.getfield 28, 3) := by decide +kernel
theorem dX8_copy_61 : decode cX8_copy 61 = .ok (.getfield 299, 3) := by decide +kernel
theorem dX8_copy_64 : decode cX8_copy 64 = .ok (.iload_n 1, 1) := by decide +kernel
theorem dX8_copy_65 : decode cX8_copy 65 = .ok (.iaload, 1) := by decide +kernel
theorem dX8_copy_66 : decode cX8_copy 66 = .ok (.aload_n 0, 1) := by decide +kernel
theorem dX8_copy_67 : decode cX8_copy 67 = .ok (.getfield 28, 3) := by decide +kernel
theorem dX8_copy_70 : decode cX8_copy 70 = .ok (.getfield 299, 3) := by decide +kernel
theorem dX8_copy_73 : decode cX8_copy 73 = .ok (.iload_n 3, 1) := by decide +kernel
theorem dX8_copy_74 : decode cX8_copy 74 = .ok (.iaload, 1) := by decide +kernel
theorem dX8_copy_75 : decode cX8_copy 75 = .ok (.if_icmp .eq 9, 3) := by decide +kernel
theorem dX8_copy_78 : decode cX8_copy 78 = .ok (.aload_n 0, 1) := by decide +kernel
theorem dX8_copy_79 : decode cX8_copy 79 = .ok (.iconst 2, 1) := by decide +kernel
theorem dX8_copy_80 : decode cX8_copy 80 = .ok (.invokevirtual 282, 3) := by decide +kernel
theorem dX8_copy_83 : decode cX8_copy 83 = .ok (.ireturn, 1) := by decide +kernel
theorem dX8_copy_84 : decode cX8_copy 84 = .ok (.aload_n 0, 1) := by decide +kernel
theorem dX8_copy_85 : decode cX8_copy 85 = .ok (.getfield 28, 3) := by decide +kernel
theorem dX8_copy_88 : decode cX8_copy 88 = .ok (.iload_n 1, 1) := by decide +kernel
theorem dX8_copy_89 : decode cX8_copy 89 = .ok (.iload_n 2, 1) := by decide +kernel
theorem dX8_copy_90 : decode cX8_copy 90 = .ok (.iload 5, 2) := by decide +kernel
theorem dX8_copy_92 : decode cX8_copy 92 = .ok (.invokevirtual 296, 3) := by decide +kernel
theorem dX8_copy_95 : decode cX8_copy 95 = .ok (.ifCond .eq 18, 3) := by decide +kernel
theorem dX8_copy_98 : decode cX8_copy 98 = .ok (.aload_n 0, 1) := by decide +kernel
theorem dX8_copy_99 : decode cX8_copy 99 = .ok (.getfield 28, 3) := by decide +kernel
theorem dX8_copy_102 : decode cX8_copy 102 = .ok (.iload_n 3, 1) := by decide +kernel
theorem dX8_copy_103 : decode cX8_copy 103 = .ok (.iload 4, 2) := by decide +kernel
theorem dX8_copy_105 : decode cX8_copy 105 = .ok (.iload 5, 2) := by decide +kernel
theorem dX8_copy_107 : decode cX8_copy 107 = .ok (.invokevirtual 296, 3) := by decide +kernel
theorem dX8_copy_110 : decode cX8_copy 110 = .ok (.ifCond .ne 9, 3) := by decide +kernel
theorem dX8_copy_113 : decode cX8_copy 113 = .ok (.aload_n 0, 1) := by decide +kernel
theorem dX8_copy_114 : decode cX8_copy 114 = .ok (.iconst 3, 1) := by decide +kernel
theorem dX8_copy_115 : decode cX8_copy 115 = .ok (.invokevirtual 282, 3) := by decide +kernel
theorem dX8_copy_118 : decode cX8_copy 118 = .ok (.ireturn, 1) := by decide +kernel
theorem dX8_copy_119 : decode cX8_copy 119 = .ok (.aload_n 0, 1) := by decide +kernel
theorem dX8_copy_120 : decode cX8_copy 120 = .ok (.getfield 28, 3) := by decide +kernel
theorem dX8_copy_123 : decode cX8_copy 123 = .ok (.getfield 50, 3) := by decide +kernel
theorem dX8_copy_126 : decode cX8_copy 126 = .ok (.iload_n 1, 1) := by decide +kernel
theorem dX8_copy_127 : decode cX8_copy 127 = .ok (.aaload, 1) := by decide +kernel
theorem dX8_copy_128 : decode cX8_copy 128 = .ok (.iload_n 2, 1) := by decide +kernel
theorem dX8_copy_129 : decode cX8_copy 129 = .ok (.aload_n 0, 1) := by decide +kernel
theorem dX8_copy_130 : decode cX8_copy 130 = .ok (.getfield 28, 3) := by decide +kernel
theorem dX8_copy_133 : decode cX8_copy 133 = .ok (.getfield 50, 3) := by decide +kernel
theorem dX8_copy_136 : decode cX8_copy 136 = .ok (.iload_n 3, 1) := by decide +kernel
theorem dX8_copy_137 : decode cX8_copy 137 = .ok (.aaload, 1) := by decide +kernel
theorem dX8_copy_138 : decode cX8_copy 138 = .ok (.iload 4, 2) := by decide +kernel
theorem dX8_copy_140 : decode cX8_copy 140 = .ok (.iload 5, 2) := by decide +kernel
theorem dX8_copy_142 : decode cX8_copy 142 = .ok (.invokestatic 125, 3) := by decide +kernel
theorem dX8_copy_145 : decode cX8_copy 145 = .ok (.iload 5, 2) := by decide +kernel
theorem dX8_copy_147 : decode cX8_copy 147 = .ok (.ireturn, 1) := by decide +kernel
theorem dX8_tell_0 : decode cX8_tell 0 = .ok (.aload_n 0, 1) := by decide +kernel
theorem dX8_tell_1 : decode cX8_tell 1 = .ok (.getfield 12, 3) := by decide +kernel
theorem dX8_tell_4 : decode cX8_tell 4 = .ok (.getfield 70, 3) := by decide +kernel
theorem dX8_tell_7 : decode cX8_tell 7 = .ok (.iload_n 1, 1) := by decide +kernel
theorem dX8_tell_8 : decode cX8_tell 8 = .ok (.invokevirtual 145, 3) := by decide +kernel
theorem dX8_tell_11 : decode cX8_tell 11 = .ok (.ifCond .ne 5, 3) := by decide +kernel
theorem dX8_tell_14 : decode cX8_tell 14 = .ok (.iconst (-1), 1) := by decide +kernel
theorem dX8_tell_15 : decode cX8_tell 15 = .ok (.ireturn, 1) := by decide +kernel
theorem dX8_tell_16 : decode cX8_tell 16 = .ok (.aload_n 0, 1) := by decide +kernel
theorem dX8_tell_17 : decode cX8_tell 17 = .ok (.getfield 12, 3) := by decide +kernel
theorem dX8_tell_20 : decode cX8_tell 20 = .ok (.getfield 70, 3) := by decide +kernel
theorem dX8_tell_23 : decode cX8_tell 23 = .ok (.getfield 148, 3) := by decide +kernel
theorem dX8_tell_26 : decode cX8_tell 26 = .ok (.iload_n 1, 1) := by decide +kernel
theorem dX8_tell_27 : decode cX8_tell 27 = .ok (.iaload, 1) := by decide +kernel
theorem dX8_tell_28 : decode cX8_tell 28 = .ok (.lookupswitch 40 #[(1, 34), (2, 28)], 28) := by decide +kernel
theorem dX8_tell_56 : decode cX8_tell 56 = .ok (.aload_n 0, 1) := by decide +kernel
theorem dX8_tell_57 : decode cX8_tell 57 = .ok (.iload_n 1, 1) := by decide +kernel
theorem dX8_tell_58 : decode cX8_tell 58 = .ok (.invokevirtual 305, 3) := by decide +kernel
theorem dX8_tell_61 : decode cX8_tell 61 = .ok (.ireturn, 1) := by decide +kernel
theorem dX8_tell_62 : decode cX8_tell 62 = .ok (.aload_n 0, 1) := by decide +kernel
theorem dX8_tell_63 : decode cX8_tell 63 = .ok (.iload_n 1, 1) := by decide +kernel
theorem dX8_tell_64 : decode cX8_tell 64 = .ok (.invokevirtual 308, 3) := by decide +kernel
theorem dX8_tell_67 : decode cX8_tell 67 = .ok (.ireturn, 1) := by decide +kernel
theorem dX8_tell_68 : decode cX8_tell 68 = .ok (.aload_n 0, 1) := by decide +kernel
theorem dX8_tell_69 : decode cX8_tell 69 = .ok (.iload_n 1, 1) := by decide +kernel
theorem dX8_tell_70 : decode cX8_tell 70 = .ok (.invokevirtual 311, 3) := by decide +kernel
theorem dX8_tell_73 : decode cX8_tell 73 = .ok (.ireturn, 1) := by decide +kernel
theorem dX8_greet_0 : decode cX8_greet 0 = .ok (.aload_n 0, 1) := by decide +kernel
theorem dX8_greet_1 : decode cX8_greet 1 = .ok (.getfield 12, 3) := by decide +kernel
theorem dX8_greet_4 : decode cX8_greet 4 = .ok (.getfield 70, 3) := by decide +kernel
theorem dX8_greet_7 : decode cX8_greet 7 = .ok (.iload_n 1, 1) := by decide +kernel
theorem dX8_greet_8 : decode cX8_greet 8 = .ok (.invokevirtual 145, 3) := by decide +kernel
theorem dX8_greet_11 : decode cX8_greet 11 = .ok (.ifCond .ne 5, 3) := by decide +kernel
theorem dX8_greet_14 : decode cX8_greet 14 = .ok (.iconst (-1), 1) := by decide +kernel
theorem dX8_greet_15 : decode cX8_greet 15 = .ok (.ireturn, 1) := by decide +kernel
theorem dX8_greet_16 : decode cX8_greet 16 = .ok (.aload_n 0, 1) := by decide +kernel
theorem dX8_greet_17 : decode cX8_greet 17 = .ok (.getfield 12, 3) := by decide +kernel
theorem dX8_greet_20 : decode cX8_greet 20 = .ok (.getfield 70, 3) := by decide +kernel
theorem dX8_greet_23 : decode cX8_greet 23 = .ok (.getfield 148, 3) := by decide +kernel
theorem dX8_greet_26 : decode cX8_greet 26 = .ok (.iload_n 1, 1) := by decide +kernel
theorem dX8_greet_27 : decode cX8_greet 27 = .ok (.iaload, 1) := by decide +kernel
theorem dX8_greet_28 : decode cX8_greet 28 = .ok (.iconst 2, 1) := by decide +kernel
theorem dX8_greet_29 : decode cX8_greet 29 = .ok (.if_icmp .ne 11, 3) := by decide +kernel
theorem dX8_greet_32 : decode cX8_greet 32 = .ok (.aload_n 0, 1) := by decide +kernel
theorem dX8_greet_33 : decode cX8_greet 33 = .ok (.iconst 5, 1) := by decide +kernel
theorem dX8_greet_34 : decode cX8_greet 34 = .ok (.invokevirtual 314, 3) := by decide +kernel
theorem dX8_greet_37 : decode cX8_greet 37 = .ok (.bipush 60, 2) := by decide +kernel
theorem dX8_greet_39 : decode cX8_greet 39 = .ok (.ireturn, 1) := by decide +kernel
theorem dX8_greet_40 : decode cX8_greet 40 = .ok (.aload_n 0, 1) := by decide +kernel
theorem dX8_greet_41 : decode cX8_greet 41 = .ok (.iconst 4, 1) := by decide +kernel
theorem dX8_greet_42 : decode cX8_greet 42 = .ok (.invokevirtual 314, 3) := by decide +kernel
theorem dX8_greet_45 : decode cX8_greet 45 = .ok (.iload_n 1, 1) := by decide +kernel
theorem dX8_greet_46 : decode cX8_greet 46 = .ok (.ireturn, 1) := by decide +kernel
theorem dX8_as_0 : decode cX8_as 0 = .ok (.aload_n 0, 1) := by decide +kernel
theorem dX8_as_1 : decode cX8_as 1 = .ok (.iconst 0, 1) := by decide +kernel
theorem dX8_as_2 : decode cX8_as 2 = .ok (.putfield 115, 3) := by decide +kernel
theorem dX8_as_5 : decode cX8_as 5 = .ok (.aload_n 0, 1) := by decide +kernel
theorem dX8_as_6 : decode cX8_as 6 = .ok (.getfield 12, 3) := by decide +kernel
theorem dX8_as_9 : decode cX8_as 9 = .ok (.getfield 70, 3) := by decide +kernel
theorem dX8_as_12 : decode cX8_as 12 = .ok (.iload_n 1, 1) := by decide +kernel
theorem dX8_as_13 : decode cX8_as 13 = .ok (.invokevirtual 145, 3) := by decide +kernel
theorem dX8_as_16 : decode cX8_as 16 = .ok (.ifCond .ne 5, 3) := by decide +kernel
theorem dX8_as_19 : decode cX8_as 19 = .ok (.iconst (-1), 1) := by decide +kernel
theorem dX8_as_20 : decode cX8_as 20 = .ok (.ireturn, 1) := by decide +kernel
theorem dX8_as_21 : decode cX8_as 21 = .ok (.iload_n 2, 1) := by decide +kernel
theorem dX8_as_22 : decode cX8_as 22 = .ok (.iconst 0, 1) := by decide +kernel
theorem dX8_as_23 : decode cX8_as 23 = .ok (.iconst 2, 1) := by decide +kernel
theorem dX8_as_24 : decode cX8_as 24 = .ok (.invokestatic 108, 3) := by decide +kernel
theorem dX8_as_27 : decode cX8_as 27 = .ok (.ifCond .ne 6, 3) := by decide +kernel
theorem dX8_as_30 : decode cX8_as 30 = .ok (.bipush (-2), 2) := by decide +kernel
theorem dX8_as_32 : decode cX8_as 32 = .ok (.ireturn, 1) := by decide +kernel
theorem dX8_as_33 : decode cX8_as 33 = .ok (.aload_n 0, 1) := by decide +kernel
theorem dX8_as_34 : decode cX8_as 34 = .ok (.getfield 12, 3) := by decide +kernel
theorem dX8_as_37 : decode cX8_as 37 = .ok (.getfield 70, 3) := by decide +kernel
theorem dX8_as_40 : decode cX8_as 40 = .ok (.getfield 148, 3) := by decide +kernel
theorem dX8_as_43 : decode cX8_as 43 = .ok (.iload_n 1, 1) := by decide +kernel
theorem dX8_as_44 : decode cX8_as 44 = .ok (.iaload, 1) := by decide +kernel
theorem dX8_as_45 : decode cX8_as 45 = .ok (.iload_n 2, 1) := by decide +kernel
theorem dX8_as_46 : decode cX8_as 46 = .ok (.if_icmp .lt 7, 3) := by decide +kernel
theorem dX8_as_49 : decode cX8_as 49 = .ok (.iconst 1, 1) := by decide +kernel
theorem dX8_as_50 : decode cX8_as 50 = .ok (.goto 8, 3) := by decide +kernel
theorem dX8_as_53 : decode cX8_as 53 = .ok (.aload_n 0, 1) := by decide +kernel
theorem dX8_as_54 : decode cX8_as 54 = .ok (.iconst 2, 1) := by decide +kernel
theorem dX8_as_55 : decode cX8_as 55 = .ok (.invokevirtual 282, 3) := by decide +kernel
theorem dX8_as_58 : decode cX8_as 58 = .ok (.ireturn, 1) := by decide +kernel
theorem dX8_trace_0 : decode cX8_trace 0 = .ok (.aload_n 0, 1) := by decide +kernel
theorem dX8_trace_1 : decode cX8_trace 1 = .ok (.getfield 318, 3) := by decide +kernel
theorem dX8_trace_4 : decode cX8_trace 4 = .ok (.ireturn, 1) := by decide +kernel
theorem dX8_fault_0 : decode cX8_fault 0 = .ok (.aload_n 0, 1) := by decide +kernel
theorem dX8_fault_1 : decode cX8_fault 1 = .ok (.getfield 115, 3) := by decide +kernel
theorem dX8_fault_4 : decode cX8_fault 4 = .ok (.ireturn, 1) := by decide +kernel
theorem dX8_many_0 : decode cX8_many 0 = .ok (.iload_n 1, 1) := by decide +kernel
theorem dX8_many_1 : decode cX8_many 1 = .ok (.tableswitch 98 0 4 #[35, 46, 57, 68, 79], 35) := by decide +kernel
theorem dX8_many_36 : decode cX8_many 36 = .ok (.aload_n 0, 1) := by decide +kernel
theorem dX8_many_37 : decode cX8_many 37 = .ok (.getfield 12, 3) := by decide +kernel
theorem dX8_many_40 : decode cX8_many 40 = .ok (.getfield 60, 3) := by decide +kernel
theorem dX8_many_43 : decode cX8_many 43 = .ok (.getfield 118, 3) := by decide +kernel
theorem dX8_many_46 : decode cX8_many 46 = .ok (.ireturn, 1) := by decide +kernel
theorem dX8_many_47 : decode cX8_many 47 = .ok (.aload_n 0, 1) := by decide +kernel
theorem dX8_many_48 : decode cX8_many 48 = .ok (.getfield 12, 3) := by decide +kernel
theorem dX8_many_51 : decode cX8_many 51 = .ok (.getfield 60, 3) := by decide +kernel
theorem dX8_many_54 : decode cX8_many 54 = .ok (.getfield 80, 3) := by decide +kernel
theorem dX8_many_57 : decode cX8_many 57 = .ok (.ireturn, 1) := by decide +kernel
theorem dX8_many_58 : decode cX8_many 58 = .ok (.aload_n 0, 1) := by decide +kernel
theorem dX8_many_59 : decode cX8_many 59 = .ok (.getfield 12, 3) := by decide +kernel
theorem dX8_many_62 : decode cX8_many 62 = .ok (.getfield 70, 3) := by decide +kernel
theorem dX8_many_65 : decode cX8_many 65 = .ok (.getfield 74, 3) := by decide +kernel
theorem dX8_many_68 : decode cX8_many 68 = .ok (.ireturn, 1) := by decide +kernel
theorem dX8_many_69 : decode cX8_many 69 = .ok (.aload_n 0, 1) := by decide +kernel
theorem dX8_many_70 : decode cX8_many 70 = .ok (.getfield 12, 3) := by decide +kernel
theorem dX8_many_73 : decode cX8_many 73 = .ok (.getfield 60, 3) := by decide +kernel
theorem dX8_many_76 : decode cX8_many 76 = .ok (.invokevirtual 173, 3) := by decide +kernel
theorem dX8_many_79 : decode cX8_many 79 = .ok (.ireturn, 1) := by decide +kernel
theorem dX8_many_80 : decode cX8_many 80 = .ok (.aload_n 0, 1) := by decide +kernel
theorem dX8_many_81 : decode cX8_many 81 = .ok (.getfield 12, 3) := by decide +kernel
theorem dX8_many_84 : decode cX8_many 84 = .ok (.getfield 60, 3) := by decide +kernel
theorem dX8_many_87 : decode cX8_many 87 = .ok (.getfield 138, 3) := by decide +kernel
theorem dX8_many_90 : decode cX8_many 90 = .ok (.ifCond .eq 7, 3) := by decide +kernel
theorem dX8_many_93 : decode cX8_many 93 = .ok (.iconst 1, 1) := by decide +kernel
theorem dX8_many_94 : decode cX8_many 94 = .ok (.goto 4, 3) := by decide +kernel
theorem dX8_many_97 : decode cX8_many 97 = .ok (.iconst 0, 1) := by decide +kernel
theorem dX8_many_98 : decode cX8_many 98 = .ok (.ireturn, 1) := by decide +kernel
theorem dX8_many_99 : decode cX8_many 99 = .ok (.bipush (-2), 2) := by decide +kernel
theorem dX8_many_101 : decode cX8_many 101 = .ok (.ireturn, 1) := by decide +kernel
theorem dX8_tellAsBuyer_0 : decode cX8_tellAsBuyer 0 = .ok (.aload_n 0, 1) := by decide +kernel
theorem dX8_tellAsBuyer_1 : decode cX8_tellAsBuyer 1 = .ok (.iconst 1, 1) := by decide +kernel
theorem dX8_tellAsBuyer_2 : decode cX8_tellAsBuyer 2 = .ok (.invokevirtual 314, 3) := by decide +kernel
theorem dX8_tellAsBuyer_5 : decode cX8_tellAsBuyer 5 = .ok (.aload_n 0, 1) := by decide +kernel
theorem dX8_tellAsBuyer_6 : decode cX8_tellAsBuyer 6 = .ok (.getfield 12, 3) := by decide +kernel
theorem dX8_tellAsBuyer_9 : decode cX8_tellAsBuyer 9 = .ok (.getfield 70, 3) := by decide +kernel
theorem dX8_tellAsBuyer_12 : decode cX8_tellAsBuyer 12 = .ok (.getfield 154, 3) := by decide +kernel
theorem dX8_tellAsBuyer_15 : decode cX8_tellAsBuyer 15 = .ok (.iload_n 1, 1) := by decide +kernel
theorem dX8_tellAsBuyer_16 : decode cX8_tellAsBuyer 16 = .ok (.iaload, 1) := by decide +kernel
theorem dX8_tellAsBuyer_17 : decode cX8_tellAsBuyer 17 = .ok (.ireturn, 1) := by decide +kernel
theorem dX8_tellAsChoosing_0 : decode cX8_tellAsChoosing 0 = .ok (.aload_n 0, 1) := by decide +kernel
theorem dX8_tellAsChoosing_1 : decode cX8_tellAsChoosing 1 = .ok (.iconst 2, 1) := by decide +kernel
theorem dX8_tellAsChoosing_2 : decode cX8_tellAsChoosing 2 = .ok (.invokevirtual 314, 3) := by decide +kernel
theorem dX8_tellAsChoosing_5 : decode cX8_tellAsChoosing 5 = .ok (.aload_n 0, 1) := by decide +kernel
theorem dX8_tellAsChoosing_6 : decode cX8_tellAsChoosing 6 = .ok (.iload_n 1, 1) := by decide +kernel
theorem dX8_tellAsChoosing_7 : decode cX8_tellAsChoosing 7 = .ok (.invokevirtual 311, 3) := by decide +kernel
theorem dX8_tellAsChoosing_10 : decode cX8_tellAsChoosing 10 = .ok (.bipush 100, 2) := by decide +kernel
theorem dX8_tellAsChoosing_12 : decode cX8_tellAsChoosing 12 = .ok (.iadd, 1) := by decide +kernel
theorem dX8_tellAsChoosing_13 : decode cX8_tellAsChoosing 13 = .ok (.ireturn, 1) := by decide +kernel
theorem dX8_tellAsWaiting_0 : decode cX8_tellAsWaiting 0 = .ok (.aload_n 0, 1) := by decide +kernel
theorem dX8_tellAsWaiting_1 : decode cX8_tellAsWaiting 1 = .ok (.iconst 3, 1) := by decide +kernel
theorem dX8_tellAsWaiting_2 : decode cX8_tellAsWaiting 2 = .ok (.invokevirtual 314, 3) := by decide +kernel
theorem dX8_tellAsWaiting_5 : decode cX8_tellAsWaiting 5 = .ok (.aload_n 0, 1) := by decide +kernel
theorem dX8_tellAsWaiting_6 : decode cX8_tellAsWaiting 6 = .ok (.iload_n 1, 1) := by decide +kernel
theorem dX8_tellAsWaiting_7 : decode cX8_tellAsWaiting 7 = .ok (.invokevirtual 308, 3) := by decide +kernel
theorem dX8_tellAsWaiting_10 : decode cX8_tellAsWaiting 10 = .ok (.istore_n 2, 1) := by decide +kernel
theorem dX8_tellAsWaiting_11 : decode cX8_tellAsWaiting 11 = .ok (.iload_n 2, 1) := by decide +kernel
theorem dX8_tellAsWaiting_12 : decode cX8_tellAsWaiting 12 = .ok (.aload_n 0, 1) := by decide +kernel
theorem dX8_tellAsWaiting_13 : decode cX8_tellAsWaiting 13 = .ok (.iload_n 1, 1) := by decide +kernel
theorem dX8_tellAsWaiting_14 : decode cX8_tellAsWaiting 14 = .ok (.invokevirtual 311, 3) := by decide +kernel
theorem dX8_tellAsWaiting_17 : decode cX8_tellAsWaiting 17 = .ok (.iadd, 1) := by decide +kernel
theorem dX8_tellAsWaiting_18 : decode cX8_tellAsWaiting 18 = .ok (.ireturn, 1) := by decide +kernel
theorem dX8_leaveTrace_0 : decode cX8_leaveTrace 0 = .ok (.aload_n 0, 1) := by decide +kernel
theorem dX8_leaveTrace_1 : decode cX8_leaveTrace 1 = .ok (.bipush 31, 2) := by decide +kernel
theorem dX8_leaveTrace_3 : decode cX8_leaveTrace 3 = .ok (.aload_n 0, 1) := by decide +kernel
theorem dX8_leaveTrace_4 : decode cX8_leaveTrace 4 = .ok (.getfield 318, 3) := by decide +kernel
theorem dX8_leaveTrace_7 : decode cX8_leaveTrace 7 = .ok (.imul, 1) := by decide +kernel
theorem dX8_leaveTrace_8 : decode cX8_leaveTrace 8 = .ok (.iload_n 1, 1) := by decide +kernel
theorem dX8_leaveTrace_9 : decode cX8_leaveTrace 9 = .ok (.iadd, 1) := by decide +kernel
theorem dX8_leaveTrace_10 : decode cX8_leaveTrace 10 = .ok (.putfield 318, 3) := by decide +kernel
theorem dX8_leaveTrace_13 : decode cX8_leaveTrace 13 = .ok (.return_, 1) := by decide +kernel
theorem dX8_faultOf_0 : decode cX8_faultOf 0 = .ok (.aload_n 0, 1) := by decide +kernel
theorem dX8_faultOf_1 : decode cX8_faultOf 1 = .ok (.iload_n 1, 1) := by decide +kernel
theorem dX8_faultOf_2 : decode cX8_faultOf 2 = .ok (.putfield 115, 3) := by decide +kernel
theorem dX8_faultOf_5 : decode cX8_faultOf 5 = .ok (.bipush (-10), 2) := by decide +kernel
theorem dX8_faultOf_7 : decode cX8_faultOf 7 = .ok (.iload_n 1, 1) := by decide +kernel
theorem dX8_faultOf_8 : decode cX8_faultOf 8 = .ok (.isub, 1) := by decide +kernel
theorem dX8_faultOf_9 : decode cX8_faultOf 9 = .ok (.ireturn, 1) := by decide +kernel
theorem dX8_lookAtCells_0 : decode cX8_lookAtCells 0 = .ok (.aload_n 0, 1) := by decide +kernel
theorem dX8_lookAtCells_1 : decode cX8_lookAtCells 1 = .ok (.iconst 0, 1) := by decide +kernel
theorem dX8_lookAtCells_2 : decode cX8_lookAtCells 2 = .ok (.putfield 115, 3) := by decide +kernel
theorem dX8_lookAtCells_5 : decode cX8_lookAtCells 5 = .ok (.aload_n 0, 1) := by decide +kernel
theorem dX8_lookAtCells_6 : decode cX8_lookAtCells 6 = .ok (.getfield 28, 3) := by decide +kernel
theorem dX8_lookAtCells_9 : decode cX8_lookAtCells 9 = .ok (.iload_n 1, 1) := by decide +kernel
theorem dX8_lookAtCells_10 : decode cX8_lookAtCells 10 = .ok (.invokevirtual 276, 3) := by decide +kernel
theorem dX8_lookAtCells_13 : decode cX8_lookAtCells 13 = .ok (.ifCond .ne 5, 3) := by decide +kernel
theorem dX8_lookAtCells_16 : decode cX8_lookAtCells 16 = .ok (.iconst (-1), 1) := by decide +kernel
theorem dX8_lookAtCells_17 : decode cX8_lookAtCells 17 = .ok (.ireturn, 1) := by decide +kernel
theorem dX8_lookAtCells_18 : decode cX8_lookAtCells 18 = .ok (.aload_n 0, 1) := by decide +kernel
theorem dX8_lookAtCells_19 : decode cX8_lookAtCells 19 = .ok (.getfield 28, 3) := by decide +kernel
theorem dX8_lookAtCells_22 : decode cX8_lookAtCells 22 = .ok (.iload_n 2, 1) := by decide +kernel
theorem dX8_lookAtCells_23 : decode cX8_lookAtCells 23 = .ok (.invokevirtual 279, 3) := by decide +kernel
theorem dX8_lookAtCells_26 : decode cX8_lookAtCells 26 = .ok (.ifCond .ne 6, 3) := by decide +kernel
theorem dX8_lookAtCells_29 : decode cX8_lookAtCells 29 = .ok (.bipush (-2), 2) := by decide +kernel
theorem dX8_lookAtCells_31 : decode cX8_lookAtCells 31 = .ok (.ireturn, 1) := by decide +kernel
theorem dX8_lookAtCells_32 : decode cX8_lookAtCells 32 = .ok (.aload_n 0, 1) := by decide +kernel
theorem dX8_lookAtCells_33 : decode cX8_lookAtCells 33 = .ok (.getfield 28, 3) := by decide +kernel
theorem dX8_lookAtCells_36 : decode cX8_lookAtCells 36 = .ok (.iload_n 1, 1) := by decide +kernel
theorem dX8_lookAtCells_37 : decode cX8_lookAtCells 37 = .ok (.invokevirtual 290, 3) := by decide +kernel
theorem dX8_lookAtCells_40 : decode cX8_lookAtCells 40 = .ok (.ifCond .ne 9, 3) := by decide +kernel
theorem dX8_lookAtCells_43 : decode cX8_lookAtCells 43 = .ok (.aload_n 0, 1) := by decide +kernel
theorem dX8_lookAtCells_44 : decode cX8_lookAtCells 44 = .ok (.iconst 1, 1) := by decide +kernel
theorem dX8_lookAtCells_45 : decode cX8_lookAtCells 45 = .ok (.invokevirtual 282, 3) := by decide +kernel
theorem dX8_lookAtCells_48 : decode cX8_lookAtCells 48 = .ok (.ireturn, 1) := by decide +kernel
theorem dX8_lookAtCells_49 : decode cX8_lookAtCells 49 = .ok (.aload_n 0, 1) := by decide +kernel
theorem dX8_lookAtCells_50 : decode cX8_lookAtCells 50 = .ok (.getfield 28, 3) := by decide +kernel
theorem dX8_lookAtCells_53 : decode cX8_lookAtCells 53 = .ok (.getfield 299, 3) := by decide +kernel
theorem dX8_lookAtCells_56 : decode cX8_lookAtCells 56 = .ok (.iload_n 1, 1) := by decide +kernel
theorem dX8_lookAtCells_57 : decode cX8_lookAtCells 57 = .ok (.iaload, 1) := by decide +kernel
theorem dX8_lookAtCells_58 : decode cX8_lookAtCells 58 = .ok (.iload_n 2, 1) := by decide +kernel
theorem dX8_lookAtCells_59 : decode cX8_lookAtCells 59 = .ok (.if_icmp .eq 9, 3) := by decide +kernel
theorem dX8_lookAtCells_62 : decode cX8_lookAtCells 62 = .ok (.aload_n 0, 1) := by decide +kernel
theorem dX8_lookAtCells_63 : decode cX8_lookAtCells 63 = .ok (.iconst 2, 1) := by decide +kernel
theorem dX8_lookAtCells_64 : decode cX8_lookAtCells 64 = .ok (.invokevirtual 282, 3) := by decide +kernel
theorem dX8_lookAtCells_67 : decode cX8_lookAtCells 67 = .ok (.ireturn, 1) := by decide +kernel
theorem dX8_lookAtCells_68 : decode cX8_lookAtCells 68 = .ok (.iload 4, 2) := by decide +kernel
theorem dX8_lookAtCells_70 : decode cX8_lookAtCells 70 = .ok (.ifCond .ge 9, 3) := by decide +kernel
theorem dX8_lookAtCells_73 : decode cX8_lookAtCells 73 = .ok (.aload_n 0, 1) := by decide +kernel
theorem dX8_lookAtCells_74 : decode cX8_lookAtCells 74 = .ok (.iconst 4, 1) := by decide +kernel
theorem dX8_lookAtCells_75 : decode cX8_lookAtCells 75 = .ok (.invokevirtual 282, 3) := by decide +kernel
theorem dX8_lookAtCells_78 : decode cX8_lookAtCells 78 = .ok (.ireturn, 1) := by decide +kernel
theorem dX8_lookAtCells_79 : decode cX8_lookAtCells 79 = .ok (.aload_n 0, 1) := by decide +kernel
theorem dX8_lookAtCells_80 : decode cX8_lookAtCells 80 = .ok (.getfield 28, 3) := by decide +kernel
theorem dX8_lookAtCells_83 : decode cX8_lookAtCells 83 = .ok (.iload_n 1, 1) := by decide +kernel
theorem dX8_lookAtCells_84 : decode cX8_lookAtCells 84 = .ok (.iload_n 3, 1) := by decide +kernel
theorem dX8_lookAtCells_85 : decode cX8_lookAtCells 85 = .ok (.iload 4, 2) := by decide +kernel
theorem dX8_lookAtCells_87 : decode cX8_lookAtCells 87 = .ok (.invokevirtual 296, 3) := by decide +kernel
theorem dX8_lookAtCells_90 : decode cX8_lookAtCells 90 = .ok (.ifCond .eq 7, 3) := by decide +kernel
theorem dX8_lookAtCells_93 : decode cX8_lookAtCells 93 = .ok (.iconst 0, 1) := by decide +kernel
theorem dX8_lookAtCells_94 : decode cX8_lookAtCells 94 = .ok (.goto 8, 3) := by decide +kernel
theorem dX8_lookAtCells_97 : decode cX8_lookAtCells 97 = .ok (.aload_n 0, 1) := by decide +kernel
theorem dX8_lookAtCells_98 : decode cX8_lookAtCells 98 = .ok (.iconst 3, 1) := by decide +kernel
theorem dX8_lookAtCells_99 : decode cX8_lookAtCells 99 = .ok (.invokevirtual 282, 3) := by decide +kernel
theorem dX8_lookAtCells_102 : decode cX8_lookAtCells 102 = .ok (.ireturn, 1) := by decide +kernel
theorem dX8_isWithin_0 : decode cX8_isWithin 0 = .ok (.iload_n 0, 1) := by decide +kernel
theorem dX8_isWithin_1 : decode cX8_isWithin 1 = .ok (.iload_n 1, 1) := by decide +kernel
theorem dX8_isWithin_2 : decode cX8_isWithin 2 = .ok (.if_icmp .lt 12, 3) := by decide +kernel
theorem dX8_isWithin_5 : decode cX8_isWithin 5 = .ok (.iload_n 0, 1) := by decide +kernel
theorem dX8_isWithin_6 : decode cX8_isWithin 6 = .ok (.iload_n 2, 1) := by decide +kernel
theorem dX8_isWithin_7 : decode cX8_isWithin 7 = .ok (.if_icmp .gt 7, 3) := by decide +kernel
theorem dX8_isWithin_10 : decode cX8_isWithin 10 = .ok (.iconst 1, 1) := by decide +kernel
theorem dX8_isWithin_11 : decode cX8_isWithin 11 = .ok (.goto 4, 3) := by decide +kernel
theorem dX8_isWithin_14 : decode cX8_isWithin 14 = .ok (.iconst 0, 1) := by decide +kernel
theorem dX8_isWithin_15 : decode cX8_isWithin 15 = .ok (.ireturn, 1) := by decide +kernel
theorem dX8_areMoney_0 : decode cX8_areMoney 0 = .ok (.iload_n 0, 1) := by decide +kernel
theorem dX8_areMoney_1 : decode cX8_areMoney 1 = .ok (.iconst 0, 1) := by decide +kernel
theorem dX8_areMoney_2 : decode cX8_areMoney 2 = .ok (.bipush 99, 2) := by decide +kernel
theorem dX8_areMoney_4 : decode cX8_areMoney 4 = .ok (.invokestatic 108, 3) := by decide +kernel
theorem dX8_areMoney_7 : decode cX8_areMoney 7 = .ok (.ifCond .eq 27, 3) := by decide +kernel
theorem dX8_areMoney_10 : decode cX8_areMoney 10 = .ok (.iload_n 1, 1) := by decide +kernel
theorem dX8_areMoney_11 : decode cX8_areMoney 11 = .ok (.iconst 0, 1) := by decide +kernel
theorem dX8_areMoney_12 : decode cX8_areMoney 12 = .ok (.bipush 99, 2) := by decide +kernel
theorem dX8_areMoney_14 : decode cX8_areMoney 14 = .ok (.invokestatic 108, 3) := by decide +kernel
theorem dX8_areMoney_17 : decode cX8_areMoney 17 = .ok (.ifCond .eq 17, 3) := by decide +kernel
theorem dX8_areMoney_20 : decode cX8_areMoney 20 = .ok (.iload_n 2, 1) := by decide +kernel
theorem dX8_areMoney_21 : decode cX8_areMoney 21 = .ok (.iconst 0, 1) := by decide +kernel
theorem dX8_areMoney_22 : decode cX8_areMoney 22 = .ok (.bipush 99, 2) := by decide +kernel
theorem dX8_areMoney_24 : decode cX8_areMoney 24 = .ok (.invokestatic 108, 3) := by decide +kernel
theorem dX8_areMoney_27 : decode cX8_areMoney 27 = .ok (.ifCond .eq 7, 3) := by decide +kernel
theorem dX8_areMoney_30 : decode cX8_areMoney 30 = .ok (.iconst 1, 1) := by decide +kernel
theorem dX8_areMoney_31 : decode cX8_areMoney 31 = .ok (.goto 4, 3) := by decide +kernel
theorem dX8_areMoney_34 : decode cX8_areMoney 34 = .ok (.iconst 0, 1) := by decide +kernel
theorem dX8_areMoney_35 : decode cX8_areMoney 35 = .ok (.ireturn, 1) := by decide +kernel
theorem dX8_areAllWithin_0 : decode cX8_areAllWithin 0 = .ok (.iconst 0, 1) := by decide +kernel
theorem dX8_areAllWithin_1 : decode cX8_areAllWithin 1 = .ok (.istore 5, 2) := by decide +kernel
theorem dX8_areAllWithin_3 : decode cX8_areAllWithin 3 = .ok (.iload 5, 2) := by decide +kernel
theorem dX8_areAllWithin_5 : decode cX8_areAllWithin 5 = .ok (.iload_n 2, 1) := by decide +kernel
theorem dX8_areAllWithin_6 : decode cX8_areAllWithin 6 = .ok (.if_icmp .ge 26, 3) := by decide +kernel
theorem dX8_areAllWithin_9 : decode cX8_areAllWithin 9 = .ok (.aload_n 0, 1) := by decide +kernel
theorem dX8_areAllWithin_10 : decode cX8_areAllWithin 10 = .ok (.iload_n 1, 1) := by decide +kernel
theorem dX8_areAllWithin_11 : decode cX8_areAllWithin 11 = .ok (.iload 5, 2) := by decide +kernel
theorem dX8_areAllWithin_13 : decode cX8_areAllWithin 13 = .ok (.iadd, 1) := by decide +kernel
theorem dX8_areAllWithin_14 : decode cX8_areAllWithin 14 = .ok (.iaload, 1) := by decide +kernel
theorem dX8_areAllWithin_15 : decode cX8_areAllWithin 15 = .ok (.iload_n 3, 1) := by decide +kernel
theorem dX8_areAllWithin_16 : decode cX8_areAllWithin 16 = .ok (.iload 4, 2) := by decide +kernel
theorem dX8_areAllWithin_18 : decode cX8_areAllWithin 18 = .ok (.invokestatic 108, 3) := by decide +kernel
theorem dX8_areAllWithin_21 : decode cX8_areAllWithin 21 = .ok (.ifCond .ne 5, 3) := by decide +kernel
theorem dX8_areAllWithin_24 : decode cX8_areAllWithin 24 = .ok (.iconst 0, 1) := by decide +kernel
theorem dX8_areAllWithin_25 : decode cX8_areAllWithin 25 = .ok (.ireturn, 1) := by decide +kernel
theorem dX8_areAllWithin_26 : decode cX8_areAllWithin 26 = .ok (.iinc 5 1, 3) := by decide +kernel
theorem dX8_areAllWithin_29 : decode cX8_areAllWithin 29 = .ok (.goto (-26), 3) := by decide +kernel
theorem dX8_areAllWithin_32 : decode cX8_areAllWithin 32 = .ok (.iconst 1, 1) := by decide +kernel
theorem dX8_areAllWithin_33 : decode cX8_areAllWithin 33 = .ok (.ireturn, 1) := by decide +kernel
theorem dX8_partOfShare_0 : decode cX8_partOfShare 0 = .ok (.lload_n 0, 1) := by decide +kernel
theorem dX8_partOfShare_1 : decode cX8_partOfShare 1 = .ok (.invokestatic 321, 3) := by decide +kernel
theorem dX8_partOfShare_4 : decode cX8_partOfShare 4 = .ok (.lload_n 2, 1) := by decide +kernel
theorem dX8_partOfShare_5 : decode cX8_partOfShare 5 = .ok (.invokestatic 321, 3) := by decide +kernel
theorem dX8_partOfShare_8 : decode cX8_partOfShare 8 = .ok (.invokestatic 327, 3) := by decide +kernel
theorem dX8_partOfShare_11 : decode cX8_partOfShare 11 = .ok (.lstore 5, 2) := by decide +kernel
theorem dX8_partOfShare_13 : decode cX8_partOfShare 13 = .ok (.lload 5, 2) := by decide +kernel
theorem dX8_partOfShare_15 : decode cX8_partOfShare 15 = .ok (.lconst 0, 1) := by decide +kernel
theorem dX8_partOfShare_16 : decode cX8_partOfShare 16 = .ok (.lcmp, 1) := by decide +kernel
theorem dX8_partOfShare_17 : decode cX8_partOfShare 17 = .ok (.ifCond .ne 7, 3) := by decide +kernel
theorem dX8_partOfShare_20 : decode cX8_partOfShare 20 = .ok (.ldc2_w 237, 3) := by decide +kernel
theorem dX8_partOfShare_23 : decode cX8_partOfShare 23 = .ok (.lreturn, 1) := by decide +kernel
theorem dX8_partOfShare_24 : decode cX8_partOfShare 24 = .ok (.iload 4, 2) := by decide +kernel
theorem dX8_partOfShare_26 : decode cX8_partOfShare 26 = .ok (.ifCond .ne 7, 3) := by decide +kernel
theorem dX8_partOfShare_29 : decode cX8_partOfShare 29 = .ok (.lload_n 0, 1) := by decide +kernel
theorem dX8_partOfShare_30 : decode cX8_partOfShare 30 = .ok (.goto 4, 3) := by decide +kernel
theorem dX8_partOfShare_33 : decode cX8_partOfShare 33 = .ok (.lload_n 2, 1) := by decide +kernel
theorem dX8_partOfShare_34 : decode cX8_partOfShare 34 = .ok (.lload 5, 2) := by decide +kernel
theorem dX8_partOfShare_36 : decode cX8_partOfShare 36 = .ok (.ldiv, 1) := by decide +kernel
theorem dX8_partOfShare_37 : decode cX8_partOfShare 37 = .ok (.lstore 7, 2) := by decide +kernel
theorem dX8_partOfShare_39 : decode cX8_partOfShare 39 = .ok (.lload_n 2, 1) := by decide +kernel
theorem dX8_partOfShare_40 : decode cX8_partOfShare 40 = .ok (.lconst 0, 1) := by decide +kernel
theorem dX8_partOfShare_41 : decode cX8_partOfShare 41 = .ok (.lcmp, 1) := by decide +kernel
theorem dX8_partOfShare_42 : decode cX8_partOfShare 42 = .ok (.ifCond .ge 9, 3) := by decide +kernel
theorem dX8_partOfShare_45 : decode cX8_partOfShare 45 = .ok (.lload 7, 2) := by decide +kernel
theorem dX8_partOfShare_47 : decode cX8_partOfShare 47 = .ok (.lneg, 1) := by decide +kernel
theorem dX8_partOfShare_48 : decode cX8_partOfShare 48 = .ok (.goto 5, 3) := by decide +kernel
theorem dX8_partOfShare_51 : decode cX8_partOfShare 51 = .ok (.lload 7, 2) := by decide +kernel
theorem dX8_partOfShare_53 : decode cX8_partOfShare 53 = .ok (.lreturn, 1) := by decide +kernel
theorem dX8_commonDivisor_0 : decode cX8_commonDivisor 0 = .ok (.iconst 0, 1) := by decide +kernel
theorem dX8_commonDivisor_1 : decode cX8_commonDivisor 1 = .ok (.istore 4, 2) := by decide +kernel
theorem dX8_commonDivisor_3 : decode cX8_commonDivisor 3 = .ok (.iload 4, 2) := by decide +kernel
theorem dX8_commonDivisor_5 : decode cX8_commonDivisor 5 = .ok (.bipush 100, 2) := by decide +kernel
theorem dX8_commonDivisor_7 : decode cX8_commonDivisor 7 = .ok (.if_icmp .ge 25, 3) := by decide +kernel
theorem dX8_commonDivisor_10 : decode cX8_commonDivisor 10 = .ok (.lload_n 2, 1) := by decide +kernel
theorem dX8_commonDivisor_11 : decode cX8_commonDivisor 11 = .ok (.lconst 0, 1) := by decide +kernel
theorem dX8_commonDivisor_12 : decode cX8_commonDivisor 12 = .ok (.lcmp, 1) := by decide +kernel
theorem dX8_commonDivisor_13 : decode cX8_commonDivisor 13 = .ok (.ifCond .eq 19, 3) := by decide +kernel
theorem dX8_commonDivisor_16 : decode cX8_commonDivisor 16 = .ok (.lload_n 0, 1) := by decide +kernel
theorem dX8_commonDivisor_17 : decode cX8_commonDivisor 17 = .ok (.lload_n 2, 1) := by decide +kernel
theorem dX8_commonDivisor_18 : decode cX8_commonDivisor 18 = .ok (.lrem, 1) := by decide +kernel
theorem dX8_commonDivisor_19 : decode cX8_commonDivisor 19 = .ok (.lstore 5, 2) := by decide +kernel
theorem dX8_commonDivisor_21 : decode cX8_commonDivisor 21 = .ok (.lload_n 2, 1) := by decide +kernel
theorem dX8_commonDivisor_22 : decode cX8_commonDivisor 22 = .ok (.lstore_n 0, 1) := by decide +kernel
theorem dX8_commonDivisor_23 : decode cX8_commonDivisor 23 = .ok (.lload 5, 2) := by decide +kernel
theorem dX8_commonDivisor_25 : decode cX8_commonDivisor 25 = .ok (.lstore_n 2, 1) := by decide +kernel
theorem dX8_commonDivisor_26 : decode cX8_commonDivisor 26 = .ok (.iinc 4 1, 3) := by decide +kernel
theorem dX8_commonDivisor_29 : decode cX8_commonDivisor 29 = .ok (.goto (-26), 3) := by decide +kernel
theorem dX8_commonDivisor_32 : decode cX8_commonDivisor 32 = .ok (.lload_n 0, 1) := by decide +kernel
theorem dX8_commonDivisor_33 : decode cX8_commonDivisor 33 = .ok (.lreturn, 1) := by decide +kernel
end
section
theorem dX9_init_0 : decode cX9_init 0 = .ok (.aload_n 0, 1) := by decide +kernel
theorem dX9_init_1 : decode cX9_init 1 = .ok (.invokespecial 1, 3) := by decide +kernel
theorem dX9_init_4 : decode cX9_init 4 = .ok (.aload_n 0, 1) := by decide +kernel
theorem dX9_init_5 : decode cX9_init 5 = .ok (.iconst 4, 1) := by decide +kernel
theorem dX9_init_6 : decode cX9_init 6 = .ok (.newarray .int, 2) := by decide +kernel
theorem dX9_init_8 : decode cX9_init 8 = .ok (.putfield 7, 3) := by decide +kernel
theorem dX9_init_11 : decode cX9_init 11 = .ok (.aload_n 0, 1) := by decide +kernel
theorem dX9_init_12 : decode cX9_init 12 = .ok (.iconst 4, 1) := by decide +kernel
theorem dX9_init_13 : decode cX9_init 13 = .ok (.newarray .int, 2) := by decide +kernel
theorem dX9_init_15 : decode cX9_init 15 = .ok (.putfield 13, 3) := by decide +kernel
theorem dX9_init_18 : decode cX9_init 18 = .ok (.aload_n 0, 1) := by decide +kernel
theorem dX9_init_19 : decode cX9_init 19 = .ok (.iconst 4, 1) := by decide +kernel
theorem dX9_init_20 : decode cX9_init 20 = .ok (.newarray .int, 2) := by decide +kernel
theorem dX9_init_22 : decode cX9_init 22 = .ok (.putfield 16, 3) := by decide +kernel
theorem dX9_init_25 : decode cX9_init 25 = .ok (.aload_n 0, 1) := by decide +kernel
theorem dX9_init_26 : decode cX9_init 26 = .ok (.iconst 4, 1) := by decide +kernel
theorem dX9_init_27 : decode cX9_init 27 = .ok (.newarray .int, 2) := by decide +kernel
theorem dX9_init_29 : decode cX9_init 29 = .ok (.putfield 19, 3) := by decide +kernel
theorem dX9_init_32 : decode cX9_init 32 = .ok (.aload_n 0, 1) := by decide +kernel
theorem dX9_init_33 : decode cX9_init 33 = .ok (.bipush 32, 2) := by decide +kernel
theorem dX9_init_35 : decode cX9_init 35 = .ok (.newarray .int, 2) := by decide +kernel
theorem dX9_init_37 : decode cX9_init 37 = .ok (.putfield 22, 3) := by decide +kernel
theorem dX9_init_40 : decode cX9_init 40 = .ok (.aload_n 0, 1) := by decide +kernel
theorem dX9_init_41 : decode cX9_init 41 = .ok (.bipush 16, 2) := by decide +kernel
theorem dX9_init_43 : decode cX9_init 43 = .ok (.newarray .int, 2) := by decide +kernel
theorem dX9_init_45 : decode cX9_init 45 = .ok (.putfield 25, 3) := by decide +kernel
theorem dX9_init_48 : decode cX9_init 48 = .ok (.aload_n 0, 1) := by decide +kernel
theorem dX9_init_49 : decode cX9_init 49 = .ok (.bipush 10, 2) := by decide +kernel
theorem dX9_init_51 : decode cX9_init 51 = .ok (.newarray .int, 2) := by decide +kernel
theorem dX9_init_53 : decode cX9_init 53 = .ok (.putfield 28, 3) := by decide +kernel
theorem dX9_init_56 : decode cX9_init 56 = .ok (.aload_n 0, 1) := by decide +kernel
theorem dX9_init_57 : decode cX9_init 57 = .ok (.bipush 10, 2) := by decide +kernel
theorem dX9_init_59 : decode cX9_init 59 = .ok (.newarray .int, 2) := by decide +kernel
theorem dX9_init_61 : decode cX9_init 61 = .ok (.putfield 31, 3) := by decide +kernel
theorem dX9_init_64 : decode cX9_init 64 = .ok (.aload_n 0, 1) := by decide +kernel
theorem dX9_init_65 : decode cX9_init 65 = .ok (.bipush 10, 2) := by decide +kernel
theorem dX9_init_67 : decode cX9_init 67 = .ok (.newarray .int, 2) := by decide +kernel
theorem dX9_init_69 : decode cX9_init 69 = .ok (.putfield 34, 3) := by decide +kernel
theorem dX9_init_72 : decode cX9_init 72 = .ok (.aload_n 0, 1) := by decide +kernel
theorem dX9_init_73 : decode cX9_init 73 = .ok (.bipush 10, 2) := by decide +kernel
theorem dX9_init_75 : decode cX9_init 75 = .ok (.newarray .int, 2) := by decide +kernel
theorem dX9_init_77 : decode cX9_init 77 = .ok (.putfield 37, 3) := by decide +kernel
theorem dX9_init_80 : decode cX9_init 80 = .ok (.aload_n 0, 1) := by decide +kernel
theorem dX9_init_81 : decode cX9_init 81 = .ok (.iconst 4, 1) := by decide +kernel
theorem dX9_init_82 : decode cX9_init 82 = .ok (.newarray .int, 2) := by decide +kernel
theorem dX9_init_84 : decode cX9_init 84 = .ok (.putfield 40, 3) := by decide +kernel
theorem dX9_init_87 : decode cX9_init 87 = .ok (.aload_n 0, 1) := by decide +kernel
theorem dX9_init_88 : decode cX9_init 88 = .ok (.bipush 10, 2) := by decide +kernel
theorem dX9_init_90 : decode cX9_init 90 = .ok (.newarray .int, 2) := by decide +kernel
theorem dX9_init_92 : decode cX9_init 92 = .ok (.putfield 43, 3) := by decide +kernel
theorem dX9_init_95 : decode cX9_init 95 = .ok (.aload_n 0, 1) := by decide +kernel
theorem dX9_init_96 : decode cX9_init 96 = .ok (.bipush 10, 2) := by decide +kernel
theorem dX9_init_98 : decode cX9_init 98 = .ok (.newarray .int, 2) := by decide +kernel
theorem dX9_init_100 : decode cX9_init 100 = .ok (.putfield 46, 3) := by decide +kernel
theorem dX9_init_103 : decode cX9_init 103 = .ok (.aload_n 0, 1) := by decide +kernel
theorem dX9_init_104 : decode cX9_init 104 = .ok (.bipush 10, 2) := by decide +kernel
theorem dX9_init_106 : decode cX9_init 106 = .ok (.newarray .int, 2) := by decide +kernel
theorem dX9_init_108 : decode cX9_init 108 = .ok (.putfield 49, 3) := by decide +kernel
theorem dX9_init_111 : decode cX9_init 111 = .ok (.aload_n 0, 1) := by decide +kernel
theorem dX9_init_112 : decode cX9_init 112 = .ok (.bipush 10, 2) := by decide +kernel
theorem dX9_init_114 : decode cX9_init 114 = .ok (.newarray .int, 2) := by decide +kernel
theorem dX9_init_116 : decode cX9_init 116 = .ok (.putfield 52, 3) := by decide +kernel
theorem dX9_init_119 : decode cX9_init 119 = .ok (.aload_n 0, 1) := by decide +kernel
theorem dX9_init_120 : decode cX9_init 120 = .ok (.iconst 4, 1) := by decide +kernel
theorem dX9_init_121 : decode cX9_init 121 = .ok (.newarray .int, 2) := by decide +kernel
theorem dX9_init_123 : decode cX9_init 123 = .ok (.putfield 55, 3) := by decide +kernel
theorem dX9_init_126 : decode cX9_init 126 = .ok (.aload_n 0, 1) := by decide +kernel
theorem dX9_init_127 : decode cX9_init 127 = .ok (.iconst 4, 1) := by decide +kernel
theorem dX9_init_128 : decode cX9_init 128 = .ok (.newarray .int, 2) := by decide +kernel
theorem dX9_init_130 : decode cX9_init 130 = .ok (.putfield 58, 3) := by decide +kernel
theorem dX9_init_133 : decode cX9_init 133 = .ok (.aload_n 0, 1) := by decide +kernel
theorem dX9_init_134 : decode cX9_init 134 = .ok (.bipush 32, 2) := by decide +kernel
theorem dX9_init_136 : decode cX9_init 136 = .ok (.newarray .int, 2) := by decide +kernel
theorem dX9_init_138 : decode cX9_init 138 = .ok (.putfield 61, 3) := by decide +kernel
theorem dX9_init_141 : decode cX9_init 141 = .ok (.aload_n 0, 1) := by decide +kernel
theorem dX9_init_142 : decode cX9_init 142 = .ok (.iconst 4, 1) := by decide +kernel
theorem dX9_init_143 : decode cX9_init 143 = .ok (.newarray .int, 2) := by decide +kernel
theorem dX9_init_145 : decode cX9_init 145 = .ok (.putfield 64, 3) := by decide +kernel
theorem dX9_init_148 : decode cX9_init 148 = .ok (.aload_n 0, 1) := by decide +kernel
theorem dX9_init_149 : decode cX9_init 149 = .ok (.iconst 4, 1) := by decide +kernel
theorem dX9_init_150 : decode cX9_init 150 = .ok (.newarray .int, 2) := by decide +kernel
theorem dX9_init_152 : decode cX9_init 152 = .ok (.putfield 67, 3) := by decide +kernel
theorem dX9_init_155 : decode cX9_init 155 = .ok (.aload_n 0, 1) := by decide +kernel
theorem dX9_init_156 : decode cX9_init 156 = .ok (.iconst 4, 1) := by decide +kernel
theorem dX9_init_157 : decode cX9_init 157 = .ok (.newarray .int, 2) := by decide +kernel
theorem dX9_init_159 : decode cX9_init 159 = .ok (.putfield 70, 3) := by decide +kernel
theorem dX9_init_162 : decode cX9_init 162 = .ok (.aload_n 0, 1) := by decide +kernel
theorem dX9_init_163 : decode cX9_init 163 = .ok (.iconst 4, 1) := by decide +kernel
theorem dX9_init_164 : decode cX9_init 164 = .ok (.newarray .int, 2) := by decide +kernel
theorem dX9_init_166 : decode cX9_init 166 = .ok (.putfield 73, 3) := by decide +kernel
theorem dX9_init_169 : decode cX9_init 169 = .ok (.aload_n 0, 1) := by decide +kernel
theorem dX9_init_170 : decode cX9_init 170 = .ok (.iconst 4, 1) := by decide +kernel
theorem dX9_init_171 : decode cX9_init 171 = .ok (.newarray .int, 2) := by decide +kernel
theorem dX9_init_173 : decode cX9_init 173 = .ok (.putfield 76, 3) := by decide +kernel
theorem dX9_init_176 : decode cX9_init 176 = .ok (.aload_n 0, 1) := by decide +kernel
theorem dX9_init_177 : decode cX9_init 177 = .ok (.sipush 240, 3) := by decide +kernel
theorem dX9_init_180 : decode cX9_init 180 = .ok (.newarray .int, 2) := by decide +kernel
theorem dX9_init_182 : decode cX9_init 182 = .ok (.putfield 79, 3) := by decide +kernel
theorem dX9_init_185 : decode cX9_init 185 = .ok (.aload_n 0, 1) := by decide +kernel
theorem dX9_init_186 : decode cX9_init 186 = .ok (.bipush 60, 2) := by decide +kernel
theorem dX9_init_188 : decode cX9_init 188 = .ok (.newarray .int, 2) := by decide +kernel
theorem dX9_init_190 : decode cX9_init 190 = .ok (.putfield 82, 3) := by decide +kernel
theorem dX9_init_193 : decode cX9_init 193 = .ok (.iconst 0, 1) := by decide +kernel
theorem dX9_init_194 : decode cX9_init 194 = .ok (.istore_n 1, 1) := by decide +kernel
theorem dX9_init_195 : decode cX9_init 195 = .ok (.iload_n 1, 1) := by decide +kernel
theorem dX9_init_196 : decode cX9_init 196 = .ok (.iconst 4, 1) := by decide +kernel
theorem dX9_init_197 : decode cX9_init 197 = .ok (.if_icmp .ge 16, 3) := by decide +kernel
theorem dX9_init_200 : decode cX9_init 200 = .ok (.aload_n 0, 1) := by decide +kernel
theorem dX9_init_201 : decode cX9_init 201 = .ok (.getfield 73, 3) := by decide +kernel
theorem dX9_init_204 : decode cX9_init 204 = .ok (.iload_n 1, 1) := by decide +kernel
theorem dX9_init_205 : decode cX9_init 205 = .ok (.iconst (-1), 1) := by decide +kernel
theorem dX9_init_206 : decode cX9_init 206 = .ok (.iastore, 1) := by decide +kernel
theorem dX9_init_207 : decode cX9_init 207 = .ok (.iinc 1 1, 3) := by decide +kernel
theorem dX9_init_210 : decode cX9_init 210 = .ok (.goto (-15), 3) := by decide +kernel
theorem dX9_init_213 : decode cX9_init 213 = .ok (.return_, 1) := by decide +kernel
theorem dX9_in_0 : decode cX9_in 0 = .ok (.lload_n 0, 1) := by decide +kernel
theorem dX9_in_1 : decode cX9_in 1 = .ok (.lload_n 2, 1) := by decide +kernel
theorem dX9_in_2 : decode cX9_in 2 = .ok (.lcmp, 1) := by decide +kernel
theorem dX9_in_3 : decode cX9_in 3 = .ok (.ifCond .lt 14, 3) := by decide +kernel
theorem dX9_in_6 : decode cX9_in 6 = .ok (.lload_n 0, 1) := by decide +kernel
theorem dX9_in_7 : decode cX9_in 7 = .ok (.lload 4, 2) := by decide +kernel
theorem dX9_in_9 : decode cX9_in 9 = .ok (.lcmp, 1) := by decide +kernel
theorem dX9_in_10 : decode cX9_in 10 = .ok (.ifCond .gt 7, 3) := by decide +kernel
theorem dX9_in_13 : decode cX9_in 13 = .ok (.iconst 1, 1) := by decide +kernel
theorem dX9_in_14 : decode cX9_in 14 = .ok (.goto 4, 3) := by decide +kernel
theorem dX9_in_17 : decode cX9_in 17 = .ok (.iconst 0, 1) := by decide +kernel
theorem dX9_in_18 : decode cX9_in 18 = .ok (.ireturn, 1) := by decide +kernel
theorem dX9_lost_0 : decode cX9_lost 0 = .ok (.ldc2_w 85, 3) := by decide +kernel
theorem dX9_lost_3 : decode cX9_lost 3 = .ok (.lreturn, 1) := by decide +kernel
theorem dX9_greater_0 : decode cX9_greater 0 = .ok (.iload_n 0, 1) := by decide +kernel
theorem dX9_greater_1 : decode cX9_greater 1 = .ok (.iload_n 1, 1) := by decide +kernel
theorem dX9_greater_2 : decode cX9_greater 2 = .ok (.if_icmp .le 7, 3) := by decide +kernel
theorem dX9_greater_5 : decode cX9_greater 5 = .ok (.iload_n 0, 1) := by decide +kernel
theorem dX9_greater_6 : decode cX9_greater 6 = .ok (.goto 4, 3) := by decide +kernel
theorem dX9_greater_9 : decode cX9_greater 9 = .ok (.iload_n 1, 1) := by decide +kernel
theorem dX9_greater_10 : decode cX9_greater 10 = .ok (.ireturn, 1) := by decide +kernel
theorem dX9_told_0 : decode cX9_told 0 = .ok (.lload_n 0, 1) := by decide +kernel
theorem dX9_told_1 : decode cX9_told 1 = .ok (.lconst 0, 1) := by decide +kernel
theorem dX9_told_2 : decode cX9_told 2 = .ok (.lcmp, 1) := by decide +kernel
theorem dX9_told_3 : decode cX9_told 3 = .ok (.ifCond .ge 8, 3) := by decide +kernel
theorem dX9_told_6 : decode cX9_told 6 = .ok (.lload_n 0, 1) := by decide +kernel
theorem dX9_told_7 : decode cX9_told 7 = .ok (.lneg, 1) := by decide +kernel
theorem dX9_told_8 : decode cX9_told 8 = .ok (.goto 4, 3) := by decide +kernel
theorem dX9_told_11 : decode cX9_told 11 = .ok (.lload_n 0, 1) := by decide +kernel
theorem dX9_told_12 : decode cX9_told 12 = .ok (.lstore 5, 2) := by decide +kernel
theorem dX9_told_14 : decode cX9_told 14 = .ok (.lload_n 2, 1) := by decide +kernel
theorem dX9_told_15 : decode cX9_told 15 = .ok (.lstore 7, 2) := by decide +kernel
theorem dX9_told_17 : decode cX9_told 17 = .ok (.lload 7, 2) := by decide +kernel
theorem dX9_told_19 : decode cX9_told 19 = .ok (.lconst 0, 1) := by decide +kernel
theorem dX9_told_20 : decode cX9_told 20 = .ok (.lcmp, 1) := by decide +kernel
theorem dX9_told_21 : decode cX9_told 21 = .ok (.ifCond .eq 21, 3) := by decide +kernel
theorem dX9_told_24 : decode cX9_told 24 = .ok (.lload 5, 2) := by decide +kernel
theorem dX9_told_26 : decode cX9_told 26 = .ok (.lload 7, 2) := by decide +kernel
theorem dX9_told_28 : decode cX9_told 28 = .ok (.lrem, 1) := by decide +kernel
theorem dX9_told_29 : decode cX9_told 29 = .ok (.lstore 9, 2) := by decide +kernel
theorem dX9_told_31 : decode cX9_told 31 = .ok (.lload 7, 2) := by decide +kernel
theorem dX9_told_33 : decode cX9_told 33 = .ok (.lstore 5, 2) := by decide +kernel
theorem dX9_told_35 : decode cX9_told 35 = .ok (.lload 9, 2) := by decide +kernel
theorem dX9_told_37 : decode cX9_told 37 = .ok (.lstore 7, 2) := by decide +kernel
theorem dX9_told_39 : decode cX9_told 39 = .ok (.goto (-22), 3) := by decide +kernel
theorem dX9_told_42 : decode cX9_told 42 = .ok (.iload 4, 2) := by decide +kernel
theorem dX9_told_44 : decode cX9_told 44 = .ok (.ifCond .ne 7, 3) := by decide +kernel
theorem dX9_told_47 : decode cX9_told 47 = .ok (.lload_n 0, 1) := by decide +kernel
theorem dX9_told_48 : decode cX9_told 48 = .ok (.goto 4, 3) := by decide +kernel
theorem dX9_told_51 : decode cX9_told 51 = .ok (.lload_n 2, 1) := by decide +kernel
theorem dX9_told_52 : decode cX9_told 52 = .ok (.lload 5, 2) := by decide +kernel
theorem dX9_told_54 : decode cX9_told 54 = .ok (.ldiv, 1) := by decide +kernel
theorem dX9_told_55 : decode cX9_told 55 = .ok (.lreturn, 1) := by decide +kernel
theorem dX9_isWhich_0 : decode cX9_isWhich 0 = .ok (.iload_n 0, 1) := by decide +kernel
theorem dX9_isWhich_1 : decode cX9_isWhich 1 = .ok (.i2l, 1) := by decide +kernel
theorem dX9_isWhich_2 : decode cX9_isWhich 2 = .ok (.lconst 0, 1) := by decide +kernel
theorem dX9_isWhich_3 : decode cX9_isWhich 3 = .ok (.lconst 1, 1) := by decide +kernel
theorem dX9_isWhich_4 : decode cX9_isWhich 4 = .ok (.invokestatic 87, 3) := by decide +kernel
theorem dX9_isWhich_7 : decode cX9_isWhich 7 = .ok (.ireturn, 1) := by decide +kernel
theorem dX9_refused_0 : decode cX9_refused 0 = .ok (.aload_n 0, 1) := by decide +kernel
theorem dX9_refused_1 : decode cX9_refused 1 = .ok (.iconst 0, 1) := by decide +kernel
theorem dX9_refused_2 : decode cX9_refused 2 = .ok (.putfield 91, 3) := by decide +kernel
theorem dX9_refused_5 : decode cX9_refused 5 = .ok (.iload_n 1, 1) := by decide +kernel
theorem dX9_refused_6 : decode cX9_refused 6 = .ok (.ireturn, 1) := by decide +kernel
theorem dX9_failed_0 : decode cX9_failed 0 = .ok (.aload_n 0, 1) := by decide +kernel
theorem dX9_failed_1 : decode cX9_failed 1 = .ok (.iload_n 1, 1) := by decide +kernel
theorem dX9_failed_2 : decode cX9_failed 2 = .ok (.putfield 91, 3) := by decide +kernel
theorem dX9_failed_5 : decode cX9_failed 5 = .ok (.bipush (-10), 2) := by decide +kernel
theorem dX9_failed_7 : decode cX9_failed 7 = .ok (.iload_n 1, 1) := by decide +kernel
theorem dX9_failed_8 : decode cX9_failed 8 = .ok (.isub, 1) := by decide +kernel
theorem dX9_failed_9 : decode cX9_failed 9 = .ok (.ireturn, 1) := by decide +kernel
theorem dX9_failedLong_0 : decode cX9_failedLong 0 = .ok (.aload_n 0, 1) := by decide +kernel
theorem dX9_failedLong_1 : decode cX9_failedLong 1 = .ok (.iload_n 1, 1) := by decide +kernel
theorem dX9_failedLong_2 : decode cX9_failedLong 2 = .ok (.putfield 91, 3) := by decide +kernel
theorem dX9_failedLong_5 : decode cX9_failedLong 5 = .ok (.invokestatic 95, 3) := by decide +kernel
theorem dX9_failedLong_8 : decode cX9_failedLong 8 = .ok (.lreturn, 1) := by decide +kernel
theorem dX9_barred_0 : decode cX9_barred 0 = .ok (.iload_n 1, 1) := by decide +kernel
theorem dX9_barred_1 : decode cX9_barred 1 = .ok (.invokestatic 99, 3) := by decide +kernel
theorem dX9_barred_4 : decode cX9_barred 4 = .ok (.ifCond .eq 9, 3) := by decide +kernel
theorem dX9_barred_7 : decode cX9_barred 7 = .ok (.aload_n 0, 1) := by decide +kernel
theorem dX9_barred_8 : decode cX9_barred 8 = .ok (.iconst (-1), 1) := by decide +kernel
theorem dX9_barred_9 : decode cX9_barred 9 = .ok (.invokevirtual 103, 3) := by decide +kernel
theorem dX9_barred_12 : decode cX9_barred 12 = .ok (.ireturn, 1) := by decide +kernel
theorem dX9_barred_13 : decode cX9_barred 13 = .ok (.iload_n 2, 1) := by decide +kernel
theorem dX9_barred_14 : decode cX9_barred 14 = .ok (.i2l, 1) := by decide +kernel
theorem dX9_barred_15 : decode cX9_barred 15 = .ok (.lconst 0, 1) := by decide +kernel
theorem dX9_barred_16 : decode cX9_barred 16 = .ok (.ldc2_w 107, 3) := by decide +kernel
theorem dX9_barred_19 : decode cX9_barred 19 = .ok (.invokestatic 87, 3) := by decide +kernel
theorem dX9_barred_22 : decode cX9_barred 22 = .ok (.ifCond .ne 10, 3) := by decide +kernel
theorem dX9_barred_25 : decode cX9_barred 25 = .ok (.aload_n 0, 1) := by decide +kernel
theorem dX9_barred_26 : decode cX9_barred 26 = .ok (.bipush (-2), 2) := by decide +kernel
theorem dX9_barred_28 : decode cX9_barred 28 = .ok (.invokevirtual 103, 3) := by decide +kernel
theorem dX9_barred_31 : decode cX9_barred 31 = .ok (.ireturn, 1) := by decide +kernel
theorem dX9_barred_32 : decode cX9_barred 32 = .ok (.aload_n 0, 1) := by decide +kernel
theorem dX9_barred_33 : decode cX9_barred 33 = .ok (.getfield 73, 3) := by decide +kernel
theorem dX9_barred_36 : decode cX9_barred 36 = .ok (.iload_n 1, 1) := by decide +kernel
theorem dX9_barred_37 : decode cX9_barred 37 = .ok (.iaload, 1) := by decide +kernel
theorem dX9_barred_38 : decode cX9_barred 38 = .ok (.ifCond .lt 19, 3) := by decide +kernel
theorem dX9_barred_41 : decode cX9_barred 41 = .ok (.aload_n 0, 1) := by decide +kernel
theorem dX9_barred_42 : decode cX9_barred 42 = .ok (.getfield 76, 3) := by decide +kernel
theorem dX9_barred_45 : decode cX9_barred 45 = .ok (.iload_n 1, 1) := by decide +kernel
theorem dX9_barred_46 : decode cX9_barred 46 = .ok (.iaload, 1) := by decide +kernel
theorem dX9_barred_47 : decode cX9_barred 47 = .ok (.iload_n 2, 1) := by decide +kernel
theorem dX9_barred_48 : decode cX9_barred 48 = .ok (.if_icmp .eq 9, 3) := by decide +kernel
theorem dX9_barred_51 : decode cX9_barred 51 = .ok (.aload_n 0, 1) := by decide +kernel
theorem dX9_barred_52 : decode cX9_barred 52 = .ok (.iconst 2, 1) := by decide +kernel
theorem dX9_barred_53 : decode cX9_barred 53 = .ok (.invokevirtual 109, 3) := by decide +kernel
theorem dX9_barred_56 : decode cX9_barred 56 = .ok (.ireturn, 1) := by decide +kernel
theorem dX9_barred_57 : decode cX9_barred 57 = .ok (.aload_n 0, 1) := by decide +kernel
theorem dX9_barred_58 : decode cX9_barred 58 = .ok (.getfield 73, 3) := by decide +kernel
theorem dX9_barred_61 : decode cX9_barred 61 = .ok (.iload_n 1, 1) := by decide +kernel
theorem dX9_barred_62 : decode cX9_barred 62 = .ok (.iaload, 1) := by decide +kernel
theorem dX9_barred_63 : decode cX9_barred 63 = .ok (.ifCond .ge 9, 3) := by decide +kernel
theorem dX9_barred_66 : decode cX9_barred 66 = .ok (.aload_n 0, 1) := by decide +kernel
theorem dX9_barred_67 : decode cX9_barred 67 = .ok (.iconst 1, 1) := by decide +kernel
theorem dX9_barred_68 : decode cX9_barred 68 = .ok (.invokevirtual 109, 3) := by decide +kernel
theorem dX9_barred_71 : decode cX9_barred 71 = .ok (.ireturn, 1) := by decide +kernel
theorem dX9_barred_72 : decode cX9_barred 72 = .ok (.lload 4, 2) := by decide +kernel
theorem dX9_barred_74 : decode cX9_barred 74 = .ok (.lconst 0, 1) := by decide +kernel
theorem dX9_barred_75 : decode cX9_barred 75 = .ok (.lcmp, 1) := by decide +kernel
theorem dX9_barred_76 : decode cX9_barred 76 = .ok (.ifCond .ge 9, 3) := by decide +kernel
theorem dX9_barred_79 : decode cX9_barred 79 = .ok (.aload_n 0, 1) := by decide +kernel
theorem dX9_barred_80 : decode cX9_barred 80 = .ok (.iconst 4, 1) := by decide +kernel
theorem dX9_barred_81 : decode cX9_barred 81 = .ok (.invokevirtual 109, 3) := by decide +kernel
theorem dX9_barred_84 : decode cX9_barred 84 = .ok (.ireturn, 1) := by decide +kernel
theorem dX9_barred_85 : decode cX9_barred 85 = .ok (.iload_n 3, 1) := by decide +kernel
theorem dX9_barred_86 : decode cX9_barred 86 = .ok (.lload 4, 2) := by decide +kernel
theorem dX9_barred_88 : decode cX9_barred 88 = .ok (.aload_n 0, 1) := by decide +kernel
theorem dX9_barred_89 : decode cX9_barred 89 = .ok (.getfield 73, 3) := by decide +kernel
theorem dX9_barred_92 : decode cX9_barred 92 = .ok (.iload_n 1, 1) := by decide +kernel
theorem dX9_barred_93 : decode cX9_barred 93 = .ok (.iaload, 1) := by decide +kernel
theorem dX9_barred_94 : decode cX9_barred 94 = .ok (.invokestatic 112, 3) := by decide +kernel
theorem dX9_barred_97 : decode cX9_barred 97 = .ok (.ifCond .eq 11, 3) := by decide +kernel
theorem dX9_barred_100 : decode cX9_barred 100 = .ok (.aload_n 0, 1) := by decide +kernel
theorem dX9_barred_101 : decode cX9_barred 101 = .ok (.iconst 3, 1) := by decide +kernel
theorem dX9_barred_102 : decode cX9_barred 102 = .ok (.invokevirtual 109, 3) := by decide +kernel
theorem dX9_barred_105 : decode cX9_barred 105 = .ok (.goto 4, 3) := by decide +kernel
theorem dX9_barred_108 : decode cX9_barred 108 = .ok (.iconst 0, 1) := by decide +kernel
theorem dX9_barred_109 : decode cX9_barred 109 = .ok (.ireturn, 1) := by decide +kernel
theorem dX9_noSort_0 : decode cX9_noSort 0 = .ok (.iload_n 1, 1) := by decide +kernel
theorem dX9_noSort_1 : decode cX9_noSort 1 = .ok (.i2l, 1) := by decide +kernel
theorem dX9_noSort_2 : decode cX9_noSort 2 = .ok (.lconst 0, 1) := by decide +kernel
theorem dX9_noSort_3 : decode cX9_noSort 3 = .ok (.aload_n 0, 1) := by decide +kernel
theorem dX9_noSort_4 : decode cX9_noSort 4 = .ok (.getfield 116, 3) := by decide +kernel
theorem dX9_noSort_7 : decode cX9_noSort 7 = .ok (.i2l, 1) := by decide +kernel
theorem dX9_noSort_8 : decode cX9_noSort 8 = .ok (.lconst 1, 1) := by decide +kernel
theorem dX9_noSort_9 : decode cX9_noSort 9 = .ok (.lsub, 1) := by decide +kernel
theorem dX9_noSort_10 : decode cX9_noSort 10 = .ok (.invokestatic 87, 3) := by decide +kernel
theorem dX9_noSort_13 : decode cX9_noSort 13 = .ok (.ifCond .ne 7, 3) := by decide +kernel
theorem dX9_noSort_16 : decode cX9_noSort 16 = .ok (.iconst 1, 1) := by decide +kernel
theorem dX9_noSort_17 : decode cX9_noSort 17 = .ok (.goto 4, 3) := by decide +kernel
theorem dX9_noSort_20 : decode cX9_noSort 20 = .ok (.iconst 0, 1) := by decide +kernel
theorem dX9_noSort_21 : decode cX9_noSort 21 = .ok (.ireturn, 1) := by decide +kernel
theorem dX9_noHour_0 : decode cX9_noHour 0 = .ok (.iload_n 1, 1) := by decide +kernel
theorem dX9_noHour_1 : decode cX9_noHour 1 = .ok (.i2l, 1) := by decide +kernel
theorem dX9_noHour_2 : decode cX9_noHour 2 = .ok (.lconst 0, 1) := by decide +kernel
theorem dX9_noHour_3 : decode cX9_noHour 3 = .ok (.aload_n 0, 1) := by decide +kernel
theorem dX9_noHour_4 : decode cX9_noHour 4 = .ok (.getfield 119, 3) := by decide +kernel
theorem dX9_noHour_7 : decode cX9_noHour 7 = .ok (.i2l, 1) := by decide +kernel
theorem dX9_noHour_8 : decode cX9_noHour 8 = .ok (.lconst 1, 1) := by decide +kernel
theorem dX9_noHour_9 : decode cX9_noHour 9 = .ok (.lsub, 1) := by decide +kernel
theorem dX9_noHour_10 : decode cX9_noHour 10 = .ok (.invokestatic 87, 3) := by decide +kernel
theorem dX9_noHour_13 : decode cX9_noHour 13 = .ok (.ifCond .ne 7, 3) := by decide +kernel
theorem dX9_noHour_16 : decode cX9_noHour 16 = .ok (.iconst 1, 1) := by decide +kernel
theorem dX9_noHour_17 : decode cX9_noHour 17 = .ok (.goto 4, 3) := by decide +kernel
theorem dX9_noHour_20 : decode cX9_noHour 20 = .ok (.iconst 0, 1) := by decide +kernel
theorem dX9_noHour_21 : decode cX9_noHour 21 = .ok (.ireturn, 1) := by decide +kernel
theorem dX9_takes_0 : decode cX9_takes 0 = .ok (.aload_n 0, 1) := by decide +kernel
theorem dX9_takes_1 : decode cX9_takes 1 = .ok (.getfield 122, 3) := by decide +kernel
theorem dX9_takes_4 : decode cX9_takes 4 = .ok (.iload_n 3, 1) := by decide +kernel
theorem dX9_takes_5 : decode cX9_takes 5 = .ok (.if_icmp .ge 22, 3) := by decide +kernel
theorem dX9_takes_8 : decode cX9_takes 8 = .ok (.aload_n 0, 1) := by decide +kernel
theorem dX9_takes_9 : decode cX9_takes 9 = .ok (.getfield 79, 3) := by decide +kernel
theorem dX9_takes_12 : decode cX9_takes 12 = .ok (.iload_n 2, 1) := by decide +kernel
theorem dX9_takes_13 : decode cX9_takes 13 = .ok (.aload_n 0, 1) := by decide +kernel
theorem dX9_takes_14 : decode cX9_takes 14 = .ok (.getfield 122, 3) := by decide +kernel
theorem dX9_takes_17 : decode cX9_takes 17 = .ok (.iadd, 1) := by decide +kernel
theorem dX9_takes_18 : decode cX9_takes 18 = .ok (.iaload, 1) := by decide +kernel
theorem dX9_takes_19 : decode cX9_takes 19 = .ok (.iload_n 1, 1) := by decide +kernel
theorem dX9_takes_20 : decode cX9_takes 20 = .ok (.if_icmp .ne 7, 3) := by decide +kernel
theorem dX9_takes_23 : decode cX9_takes 23 = .ok (.iconst 1, 1) := by decide +kernel
theorem dX9_takes_24 : decode cX9_takes 24 = .ok (.goto 4, 3) := by decide +kernel
theorem dX9_takes_27 : decode cX9_takes 27 = .ok (.iconst 0, 1) := by decide +kernel
theorem dX9_takes_28 : decode cX9_takes 28 = .ok (.istore 4, 2) := by decide +kernel
theorem dX9_takes_30 : decode cX9_takes 30 = .ok (.aload_n 0, 1) := by decide +kernel
theorem dX9_takes_31 : decode cX9_takes 31 = .ok (.dup, 1) := by decide +kernel
theorem dX9_takes_32 : decode cX9_takes 32 = .ok (.getfield 122, 3) := by decide +kernel
theorem dX9_takes_35 : decode cX9_takes 35 = .ok (.iload 4, 2) := by decide +kernel
theorem dX9_takes_37 : decode cX9_takes 37 = .ok (.ifCond .eq 7, 3) := by decide +kernel
theorem dX9_takes_40 : decode cX9_takes 40 = .ok (.iconst 1, 1) := by decide +kernel
theorem dX9_takes_41 : decode cX9_takes 41 = .ok (.goto 4, 3) := by decide +kernel
theorem dX9_takes_44 : decode cX9_takes 44 = .ok (.iconst 0, 1) := by decide +kernel
theorem dX9_takes_45 : decode cX9_takes 45 = .ok (.iadd, 1) := by decide +kernel
theorem dX9_takes_46 : decode cX9_takes 46 = .ok (.putfield 122, 3) := by decide +kernel
theorem dX9_takes_49 : decode cX9_takes 49 = .ok (.iload 4, 2) := by decide +kernel
theorem dX9_takes_51 : decode cX9_takes 51 = .ok (.ireturn, 1) := by decide +kernel
theorem dX9_readsFigure_0 : decode cX9_readsFigure 0 = .ok (.aload_n 0, 1) := by decide +kernel
theorem dX9_readsFigure_1 : decode cX9_readsFigure 1 = .ok (.aload_n 0, 1) := by decide +kernel
theorem dX9_readsFigure_2 : decode cX9_readsFigure 2 = .ok (.getfield 122, 3) := by decide +kernel
theorem dX9_readsFigure_5 : decode cX9_readsFigure 5 = .ok (.iload_n 2, 1) := by decide +kernel
theorem dX9_readsFigure_6 : decode cX9_readsFigure 6 = .ok (.if_icmp .ge 20, 3) := by decide +kernel
theorem dX9_readsFigure_9 : decode cX9_readsFigure 9 = .ok (.aload_n 0, 1) := by decide +kernel
theorem dX9_readsFigure_10 : decode cX9_readsFigure 10 = .ok (.getfield 79, 3) := by decide +kernel
theorem dX9_readsFigure_13 : decode cX9_readsFigure 13 = .ok (.iload_n 1, 1) := by decide +kernel
theorem dX9_readsFigure_14 : decode cX9_readsFigure 14 = .ok (.aload_n 0, 1) := by decide +kernel
theorem dX9_readsFigure_15 : decode cX9_readsFigure 15 = .ok (.getfield 122, 3) := by decide +kernel
theorem dX9_readsFigure_18 : decode cX9_readsFigure 18 = .ok (.iadd, 1) := by decide +kernel
theorem dX9_readsFigure_19 : decode cX9_readsFigure 19 = .ok (.iaload, 1) := by decide +kernel
theorem dX9_readsFigure_20 : decode cX9_readsFigure 20 = .ok (.bipush 48, 2) := by decide +kernel
theorem dX9_readsFigure_22 : decode cX9_readsFigure 22 = .ok (.isub, 1) := by decide +kernel
theorem dX9_readsFigure_23 : decode cX9_readsFigure 23 = .ok (.goto 5, 3) := by decide +kernel
theorem dX9_readsFigure_26 : decode cX9_readsFigure 26 = .ok (.bipush (-9), 2) := by decide +kernel
theorem dX9_readsFigure_28 : decode cX9_readsFigure 28 = .ok (.putfield 125, 3) := by decide +kernel
theorem dX9_readsFigure_31 : decode cX9_readsFigure 31 = .ok (.aload_n 0, 1) := by decide +kernel
theorem dX9_readsFigure_32 : decode cX9_readsFigure 32 = .ok (.getfield 125, 3) := by decide +kernel
theorem dX9_readsFigure_35 : decode cX9_readsFigure 35 = .ok (.i2l, 1) := by decide +kernel
theorem dX9_readsFigure_36 : decode cX9_readsFigure 36 = .ok (.iload_n 3, 1) := by decide +kernel
theorem dX9_readsFigure_37 : decode cX9_readsFigure 37 = .ok (.i2l, 1) := by decide +kernel
theorem dX9_readsFigure_38 : decode cX9_readsFigure 38 = .ok (.iload 4, 2) := by decide +kernel
theorem dX9_readsFigure_40 : decode cX9_readsFigure 40 = .ok (.i2l, 1) := by decide +kernel
theorem dX9_readsFigure_41 : decode cX9_readsFigure 41 = .ok (.invokestatic 87, 3) := by decide +kernel
theorem dX9_readsFigure_44 : decode cX9_readsFigure 44 = .ok (.istore 5, 2) := by decide +kernel
theorem dX9_readsFigure_46 : decode cX9_readsFigure 46 = .ok (.aload_n 0, 1) := by decide +kernel
theorem dX9_readsFigure_47 : decode cX9_readsFigure 47 = .ok (.dup, 1) := by decide +kernel
theorem dX9_readsFigure_48 : decode cX9_readsFigure 48 = .ok (.getfield 122, 3) := by decide +kernel
theorem dX9_readsFigure_51 : decode cX9_readsFigure 51 = .ok (.iload 5, 2) := by decide +kernel
theorem dX9_readsFigure_53 : decode cX9_readsFigure 53 = .ok (.ifCond .eq 7, 3) := by decide +kernel
theorem dX9_readsFigure_56 : decode cX9_readsFigure 56 = .ok (.iconst 1, 1) := by decide +kernel
theorem dX9_readsFigure_57 : decode cX9_readsFigure 57 = .ok (.goto 4, 3) := by decide +kernel
theorem dX9_readsFigure_60 : decode cX9_readsFigure 60 = .ok (.iconst 0, 1) := by decide +kernel
theorem dX9_readsFigure_61 : decode cX9_readsFigure 61 = .ok (.iadd, 1) := by decide +kernel
theorem dX9_readsFigure_62 : decode cX9_readsFigure 62 = .ok (.putfield 122, 3) := by decide +kernel
theorem dX9_readsFigure_65 : decode cX9_readsFigure 65 = .ok (.iload 5, 2) := by decide +kernel
theorem dX9_readsFigure_67 : decode cX9_readsFigure 67 = .ok (.ireturn, 1) := by decide +kernel
theorem dX9_readsSort_0 : decode cX9_readsSort 0 = .ok (.aload_n 0, 1) := by decide +kernel
theorem dX9_readsSort_1 : decode cX9_readsSort 1 = .ok (.getfield 128, 3) := by decide +kernel
theorem dX9_readsSort_4 : decode cX9_readsSort 4 = .ok (.iconst 4, 1) := by decide +kernel
theorem dX9_readsSort_5 : decode cX9_readsSort 5 = .ok (.if_icmp .ge 29, 3) := by decide +kernel
theorem dX9_readsSort_8 : decode cX9_readsSort 8 = .ok (.aload_n 0, 1) := by decide +kernel
theorem dX9_readsSort_9 : decode cX9_readsSort 9 = .ok (.bipush 59, 2) := by decide +kernel
theorem dX9_readsSort_11 : decode cX9_readsSort 11 = .ok (.iload_n 1, 1) := by decide +kernel
theorem dX9_readsSort_12 : decode cX9_readsSort 12 = .ok (.iload_n 2, 1) := by decide +kernel
theorem dX9_readsSort_13 : decode cX9_readsSort 13 = .ok (.invokevirtual 131, 3) := by decide +kernel
theorem dX9_readsSort_16 : decode cX9_readsSort 16 = .ok (.ifCond .eq 18, 3) := by decide +kernel
theorem dX9_readsSort_19 : decode cX9_readsSort 19 = .ok (.aload_n 0, 1) := by decide +kernel
theorem dX9_readsSort_20 : decode cX9_readsSort 20 = .ok (.bipush 102, 2) := by decide +kernel
theorem dX9_readsSort_22 : decode cX9_readsSort 22 = .ok (.iload_n 1, 1) := by decide +kernel
theorem dX9_readsSort_23 : decode cX9_readsSort 23 = .ok (.iload_n 2, 1) := by decide +kernel
theorem dX9_readsSort_24 : decode cX9_readsSort 24 = .ok (.invokevirtual 131, 3) := by decide +kernel
theorem dX9_readsSort_27 : decode cX9_readsSort 27 = .ok (.ifCond .eq 7, 3) := by decide +kernel
theorem dX9_readsSort_30 : decode cX9_readsSort 30 = .ok (.iconst 1, 1) := by decide +kernel
theorem dX9_readsSort_31 : decode cX9_readsSort 31 = .ok (.goto 4, 3) := by decide +kernel
theorem dX9_readsSort_34 : decode cX9_readsSort 34 = .ok (.iconst 0, 1) := by decide +kernel
theorem dX9_readsSort_35 : decode cX9_readsSort 35 = .ok (.istore_n 3, 1) := by decide +kernel
theorem dX9_readsSort_36 : decode cX9_readsSort 36 = .ok (.iconst 0, 1) := by decide +kernel
theorem dX9_readsSort_37 : decode cX9_readsSort 37 = .ok (.istore 4, 2) := by decide +kernel
theorem dX9_readsSort_39 : decode cX9_readsSort 39 = .ok (.iload 4, 2) := by decide +kernel
theorem dX9_readsSort_41 : decode cX9_readsSort 41 = .ok (.iconst 4, 1) := by decide +kernel
theorem dX9_readsSort_42 : decode cX9_readsSort 42 = .ok (.if_icmp .ge 51, 3) := by decide +kernel
theorem dX9_readsSort_45 : decode cX9_readsSort 45 = .ok (.iload_n 3, 1) := by decide +kernel
theorem dX9_readsSort_46 : decode cX9_readsSort 46 = .ok (.ifCond .eq 47, 3) := by decide +kernel
theorem dX9_readsSort_49 : decode cX9_readsSort 49 = .ok (.aload_n 0, 1) := by decide +kernel
theorem dX9_readsSort_50 : decode cX9_readsSort 50 = .ok (.iload_n 1, 1) := by decide +kernel
theorem dX9_readsSort_51 : decode cX9_readsSort 51 = .ok (.iload_n 2, 1) := by decide +kernel
theorem dX9_readsSort_52 : decode cX9_readsSort 52 = .ok (.iconst 0, 1) := by decide +kernel
theorem dX9_readsSort_53 : decode cX9_readsSort 53 = .ok (.iload 4, 2) := by decide +kernel
theorem dX9_readsSort_55 : decode cX9_readsSort 55 = .ok (.iconst 3, 1) := by decide +kernel
theorem dX9_readsSort_56 : decode cX9_readsSort 56 = .ok (.if_icmp .ne 7, 3) := by decide +kernel
theorem dX9_readsSort_59 : decode cX9_readsSort 59 = .ok (.iconst 3, 1) := by decide +kernel
theorem dX9_readsSort_60 : decode cX9_readsSort 60 = .ok (.goto 5, 3) := by decide +kernel
theorem dX9_readsSort_63 : decode cX9_readsSort 63 = .ok (.bipush 9, 2) := by decide +kernel
theorem dX9_readsSort_65 : decode cX9_readsSort 65 = .ok (.invokevirtual 135, 3) := by decide +kernel
theorem dX9_readsSort_68 : decode cX9_readsSort 68 = .ok (.istore_n 3, 1) := by decide +kernel
theorem dX9_readsSort_69 : decode cX9_readsSort 69 = .ok (.aload_n 0, 1) := by decide +kernel
theorem dX9_readsSort_70 : decode cX9_readsSort 70 = .ok (.getfield 25, 3) := by decide +kernel
theorem dX9_readsSort_73 : decode cX9_readsSort 73 = .ok (.iconst 4, 1) := by decide +kernel
theorem dX9_readsSort_74 : decode cX9_readsSort 74 = .ok (.aload_n 0, 1) := by decide +kernel
theorem dX9_readsSort_75 : decode cX9_readsSort 75 = .ok (.getfield 128, 3) := by decide +kernel
theorem dX9_readsSort_78 : decode cX9_readsSort 78 = .ok (.imul, 1) := by decide +kernel
theorem dX9_readsSort_79 : decode cX9_readsSort 79 = .ok (.iload 4, 2) := by decide +kernel
theorem dX9_readsSort_81 : decode cX9_readsSort 81 = .ok (.iadd, 1) := by decide +kernel
theorem dX9_readsSort_82 : decode cX9_readsSort 82 = .ok (.aload_n 0, 1) := by decide +kernel
theorem dX9_readsSort_83 : decode cX9_readsSort 83 = .ok (.getfield 125, 3) := by decide +kernel
theorem dX9_readsSort_86 : decode cX9_readsSort 86 = .ok (.iastore, 1) := by decide +kernel
theorem dX9_readsSort_87 : decode cX9_readsSort 87 = .ok (.iinc 4 1, 3) := by decide +kernel
theorem dX9_readsSort_90 : decode cX9_readsSort 90 = .ok (.goto (-51), 3) := by decide +kernel
theorem dX9_readsSort_93 : decode cX9_readsSort 93 = .ok (.aload_n 0, 1) := by decide +kernel
theorem dX9_readsSort_94 : decode cX9_readsSort 94 = .ok (.dup, 1) := by decide +kernel
theorem dX9_readsSort_95 : decode cX9_readsSort 95 = .ok (.getfield 128, 3) := by decide +kernel
theorem dX9_readsSort_98 : decode cX9_readsSort 98 = .ok (.iload_n 3, 1) := by decide +kernel
theorem dX9_readsSort_99 : decode cX9_readsSort 99 = .ok (.ifCond .eq 7, 3) := by decide +kernel
theorem dX9_readsSort_102 : decode cX9_readsSort 102 = .ok (.iconst 1, 1) := by decide +kernel
theorem dX9_readsSort_103 : decode cX9_readsSort 103 = .ok (.goto 4, 3) := by decide +kernel
theorem dX9_readsSort_106 : decode cX9_readsSort 106 = .ok (.iconst 0, 1) := by decide +kernel
theorem dX9_readsSort_107 : decode cX9_readsSort 107 = .ok (.iadd, 1) := by decide +kernel
theorem dX9_readsSort_108 : decode cX9_readsSort 108 = .ok (.putfield 128, 3) := by decide +kernel
theorem dX9_readsSort_111 : decode cX9_readsSort 111 = .ok (.iload_n 3, 1) := by decide +kernel
theorem dX9_readsSort_112 : decode cX9_readsSort 112 = .ok (.ireturn, 1) := by decide +kernel
theorem dX9_readsStall_0 : decode cX9_readsStall 0 = .ok (.aload_n 0, 1) := by decide +kernel
theorem dX9_readsStall_1 : decode cX9_readsStall 1 = .ok (.iconst 0, 1) := by decide +kernel
theorem dX9_readsStall_2 : decode cX9_readsStall 2 = .ok (.putfield 122, 3) := by decide +kernel
theorem dX9_readsStall_5 : decode cX9_readsStall 5 = .ok (.aload_n 0, 1) := by decide +kernel
theorem dX9_readsStall_6 : decode cX9_readsStall 6 = .ok (.iconst 0, 1) := by decide +kernel
theorem dX9_readsStall_7 : decode cX9_readsStall 7 = .ok (.putfield 128, 3) := by decide +kernel
theorem dX9_readsStall_10 : decode cX9_readsStall 10 = .ok (.aload_n 0, 1) := by decide +kernel
theorem dX9_readsStall_11 : decode cX9_readsStall 11 = .ok (.bipush 104, 2) := by decide +kernel
theorem dX9_readsStall_13 : decode cX9_readsStall 13 = .ok (.iload_n 1, 1) := by decide +kernel
theorem dX9_readsStall_14 : decode cX9_readsStall 14 = .ok (.iload_n 2, 1) := by decide +kernel
theorem dX9_readsStall_15 : decode cX9_readsStall 15 = .ok (.invokevirtual 131, 3) := by decide +kernel
theorem dX9_readsStall_18 : decode cX9_readsStall 18 = .ok (.ifCond .eq 19, 3) := by decide +kernel
theorem dX9_readsStall_21 : decode cX9_readsStall 21 = .ok (.aload_n 0, 1) := by decide +kernel
theorem dX9_readsStall_22 : decode cX9_readsStall 22 = .ok (.iload_n 1, 1) := by decide +kernel
theorem dX9_readsStall_23 : decode cX9_readsStall 23 = .ok (.iload_n 2, 1) := by decide +kernel
theorem dX9_readsStall_24 : decode cX9_readsStall 24 = .ok (.iconst 1, 1) := by decide +kernel
theorem dX9_readsStall_25 : decode cX9_readsStall 25 = .ok (.bipush 8, 2) := by decide +kernel
theorem dX9_readsStall_27 : decode cX9_readsStall 27 = .ok (.invokevirtual 135, 3) := by decide +kernel
theorem dX9_readsStall_30 : decode cX9_readsStall 30 = .ok (.ifCond .eq 7, 3) := by decide +kernel
theorem dX9_readsStall_33 : decode cX9_readsStall 33 = .ok (.iconst 1, 1) := by decide +kernel
theorem dX9_readsStall_34 : decode cX9_readsStall 34 = .ok (.goto 4, 3) := by decide +kernel
theorem dX9_readsStall_37 : decode cX9_readsStall 37 = .ok (.iconst 0, 1) := by decide +kernel
theorem dX9_readsStall_38 : decode cX9_readsStall 38 = .ok (.istore_n 3, 1) := by decide +kernel
theorem dX9_readsStall_39 : decode cX9_readsStall 39 = .ok (.aload_n 0, 1) := by decide +kernel
theorem dX9_readsStall_40 : decode cX9_readsStall 40 = .ok (.aload_n 0, 1) := by decide +kernel
theorem dX9_readsStall_41 : decode cX9_readsStall 41 = .ok (.getfield 125, 3) := by decide +kernel
theorem dX9_readsStall_44 : decode cX9_readsStall 44 = .ok (.putfield 139, 3) := by decide +kernel
theorem dX9_readsStall_47 : decode cX9_readsStall 47 = .ok (.iload_n 3, 1) := by decide +kernel
theorem dX9_readsStall_48 : decode cX9_readsStall 48 = .ok (.ifCond .eq 28, 3) := by decide +kernel
theorem dX9_readsStall_51 : decode cX9_readsStall 51 = .ok (.aload_n 0, 1) := by decide +kernel
theorem dX9_readsStall_52 : decode cX9_readsStall 52 = .ok (.getfield 128, 3) := by decide +kernel
theorem dX9_readsStall_55 : decode cX9_readsStall 55 = .ok (.ifCond .eq 11, 3) := by decide +kernel
theorem dX9_readsStall_58 : decode cX9_readsStall 58 = .ok (.aload_n 0, 1) := by decide +kernel
theorem dX9_readsStall_59 : decode cX9_readsStall 59 = .ok (.getfield 122, 3) := by decide +kernel
theorem dX9_readsStall_62 : decode cX9_readsStall 62 = .ok (.iload_n 2, 1) := by decide +kernel
theorem dX9_readsStall_63 : decode cX9_readsStall 63 = .ok (.if_icmp .ge 13, 3) := by decide +kernel
theorem dX9_readsStall_66 : decode cX9_readsStall 66 = .ok (.aload_n 0, 1) := by decide +kernel
theorem dX9_readsStall_67 : decode cX9_readsStall 67 = .ok (.iload_n 1, 1) := by decide +kernel
theorem dX9_readsStall_68 : decode cX9_readsStall 68 = .ok (.iload_n 2, 1) := by decide +kernel
theorem dX9_readsStall_69 : decode cX9_readsStall 69 = .ok (.invokevirtual 142, 3) := by decide +kernel
theorem dX9_readsStall_72 : decode cX9_readsStall 72 = .ok (.istore_n 3, 1) := by decide +kernel
theorem dX9_readsStall_73 : decode cX9_readsStall 73 = .ok (.goto (-26), 3) := by decide +kernel
theorem dX9_readsStall_76 : decode cX9_readsStall 76 = .ok (.iload_n 3, 1) := by decide +kernel
theorem dX9_readsStall_77 : decode cX9_readsStall 77 = .ok (.ireturn, 1) := by decide +kernel
theorem dX9_stall_0 : decode cX9_stall 0 = .ok (.aload_n 0, 1) := by decide +kernel
theorem dX9_stall_1 : decode cX9_stall 1 = .ok (.iload_n 1, 1) := by decide +kernel
theorem dX9_stall_2 : decode cX9_stall 2 = .ok (.iload_n 2, 1) := by decide +kernel
theorem dX9_stall_3 : decode cX9_stall 3 = .ok (.iload_n 3, 1) := by decide +kernel
theorem dX9_stall_4 : decode cX9_stall 4 = .ok (.iload 4, 2) := by decide +kernel
theorem dX9_stall_6 : decode cX9_stall 6 = .ok (.i2l, 1) := by decide +kernel
theorem dX9_stall_7 : decode cX9_stall 7 = .ok (.invokevirtual 146, 3) := by decide +kernel
theorem dX9_stall_10 : decode cX9_stall 10 = .ok (.istore 5, 2) := by decide +kernel
theorem dX9_stall_12 : decode cX9_stall 12 = .ok (.iload 5, 2) := by decide +kernel
theorem dX9_stall_14 : decode cX9_stall 14 = .ok (.ifCond .ge 6, 3) := by decide +kernel
theorem dX9_stall_17 : decode cX9_stall 17 = .ok (.iload 5, 2) := by decide +kernel
theorem dX9_stall_19 : decode cX9_stall 19 = .ok (.ireturn, 1) := by decide +kernel
theorem dX9_stall_20 : decode cX9_stall 20 = .ok (.aload_n 0, 1) := by decide +kernel
theorem dX9_stall_21 : decode cX9_stall 21 = .ok (.bipush 60, 2) := by decide +kernel
theorem dX9_stall_23 : decode cX9_stall 23 = .ok (.iload_n 1, 1) := by decide +kernel
theorem dX9_stall_24 : decode cX9_stall 24 = .ok (.imul, 1) := by decide +kernel
theorem dX9_stall_25 : decode cX9_stall 25 = .ok (.iload_n 3, 1) := by decide +kernel
theorem dX9_stall_26 : decode cX9_stall 26 = .ok (.iadd, 1) := by decide +kernel
theorem dX9_stall_27 : decode cX9_stall 27 = .ok (.iload 4, 2) := by decide +kernel
theorem dX9_stall_29 : decode cX9_stall 29 = .ok (.invokevirtual 150, 3) := by decide +kernel
theorem dX9_stall_32 : decode cX9_stall 32 = .ok (.ifCond .ne 15, 3) := by decide +kernel
theorem dX9_stall_35 : decode cX9_stall 35 = .ok (.aload_n 0, 1) := by decide +kernel
theorem dX9_stall_36 : decode cX9_stall 36 = .ok (.bipush (-100), 2) := by decide +kernel
theorem dX9_stall_38 : decode cX9_stall 38 = .ok (.aload_n 0, 1) := by decide +kernel
theorem dX9_stall_39 : decode cX9_stall 39 = .ok (.getfield 122, 3) := by decide +kernel
theorem dX9_stall_42 : decode cX9_stall 42 = .ok (.isub, 1) := by decide +kernel
theorem dX9_stall_43 : decode cX9_stall 43 = .ok (.invokevirtual 103, 3) := by decide +kernel
theorem dX9_stall_46 : decode cX9_stall 46 = .ok (.ireturn, 1) := by decide +kernel
theorem dX9_stall_47 : decode cX9_stall 47 = .ok (.aload_n 0, 1) := by decide +kernel
theorem dX9_stall_48 : decode cX9_stall 48 = .ok (.aload_n 0, 1) := by decide +kernel
theorem dX9_stall_49 : decode cX9_stall 49 = .ok (.getfield 139, 3) := by decide +kernel
theorem dX9_stall_52 : decode cX9_stall 52 = .ok (.putfield 119, 3) := by decide +kernel
theorem dX9_stall_55 : decode cX9_stall 55 = .ok (.aload_n 0, 1) := by decide +kernel
theorem dX9_stall_56 : decode cX9_stall 56 = .ok (.aload_n 0, 1) := by decide +kernel
theorem dX9_stall_57 : decode cX9_stall 57 = .ok (.getfield 128, 3) := by decide +kernel
theorem dX9_stall_60 : decode cX9_stall 60 = .ok (.putfield 116, 3) := by decide +kernel
theorem dX9_stall_63 : decode cX9_stall 63 = .ok (.iconst 0, 1) := by decide +kernel
theorem dX9_stall_64 : decode cX9_stall 64 = .ok (.istore 6, 2) := by decide +kernel
theorem dX9_stall_66 : decode cX9_stall 66 = .ok (.iload 6, 2) := by decide +kernel
theorem dX9_stall_68 : decode cX9_stall 68 = .ok (.aload_n 0, 1) := by decide +kernel
theorem dX9_stall_69 : decode cX9_stall 69 = .ok (.getfield 116, 3) := by decide +kernel
theorem dX9_stall_72 : decode cX9_stall 72 = .ok (.if_icmp .ge 79, 3) := by decide +kernel
theorem dX9_stall_75 : decode cX9_stall 75 = .ok (.aload_n 0, 1) := by decide +kernel
theorem dX9_stall_76 : decode cX9_stall 76 = .ok (.getfield 7, 3) := by decide +kernel
theorem dX9_stall_79 : decode cX9_stall 79 = .ok (.iload 6, 2) := by decide +kernel
theorem dX9_stall_81 : decode cX9_stall 81 = .ok (.aload_n 0, 1) := by decide +kernel
theorem dX9_stall_82 : decode cX9_stall 82 = .ok (.getfield 25, 3) := by decide +kernel
theorem dX9_stall_85 : decode cX9_stall 85 = .ok (.iconst 4, 1) := by decide +kernel
theorem dX9_stall_86 : decode cX9_stall 86 = .ok (.iload 6, 2) := by decide +kernel
theorem dX9_stall_88 : decode cX9_stall 88 = .ok (.imul, 1) := by decide +kernel
theorem dX9_stall_89 : decode cX9_stall 89 = .ok (.iaload, 1) := by decide +kernel
theorem dX9_stall_90 : decode cX9_stall 90 = .ok (.iastore, 1) := by decide +kernel
theorem dX9_stall_91 : decode cX9_stall 91 = .ok (.aload_n 0, 1) := by decide +kernel
theorem dX9_stall_92 : decode cX9_stall 92 = .ok (.getfield 13, 3) := by decide +kernel
theorem dX9_stall_95 : decode cX9_stall 95 = .ok (.iload 6, 2) := by decide +kernel
theorem dX9_stall_97 : decode cX9_stall 97 = .ok (.aload_n 0, 1) := by decide +kernel
theorem dX9_stall_98 : decode cX9_stall 98 = .ok (.getfield 25, 3) := by decide +kernel
theorem dX9_stall_101 : decode cX9_stall 101 = .ok (.iconst 4, 1) := by decide +kernel
theorem dX9_stall_102 : decode cX9_stall 102 = .ok (.iload 6, 2) := by decide +kernel
theorem dX9_stall_104 : decode cX9_stall 104 = .ok (.imul, 1) := by decide +kernel
theorem dX9_stall_105 : decode cX9_stall 105 = .ok (.iconst 1, 1) := by decide +kernel
theorem dX9_stall_106 : decode cX9_stall 106 = .ok (.iadd, 1) := by decide +kernel
theorem dX9_stall_107 : decode cX9_stall 107 = .ok (.iaload, 1) := by decide +kernel
theorem dX9_stall_108 : decode cX9_stall 108 = .ok (.iastore, 1) := by decide +kernel
theorem dX9_stall_109 : decode cX9_stall 109 = .ok (.aload_n 0, 1) := by decide +kernel
theorem dX9_stall_110 : decode cX9_stall 110 = .ok (.getfield 16, 3) := by decide +kernel
theorem dX9_stall_113 : decode cX9_stall 113 = .ok (.iload 6, 2) := by decide +kernel
theorem dX9_stall_115 : decode cX9_stall 115 = .ok (.aload_n 0, 1) := by decide +kernel
theorem dX9_stall_116 : decode cX9_stall 116 = .ok (.getfield 25, 3) := by decide +kernel
theorem dX9_stall_119 : decode cX9_stall 119 = .ok (.iconst 4, 1) := by decide +kernel
theorem dX9_stall_120 : decode cX9_stall 120 = .ok (.iload 6, 2) := by decide +kernel
theorem dX9_stall_122 : decode cX9_stall 122 = .ok (.imul, 1) := by decide +kernel
theorem dX9_stall_123 : decode cX9_stall 123 = .ok (.iconst 2, 1) := by decide +kernel
theorem dX9_stall_124 : decode cX9_stall 124 = .ok (.iadd, 1) := by decide +kernel
theorem dX9_stall_125 : decode cX9_stall 125 = .ok (.iaload, 1) := by decide +kernel
theorem dX9_stall_126 : decode cX9_stall 126 = .ok (.iastore, 1) := by decide +kernel
theorem dX9_stall_127 : decode cX9_stall 127 = .ok (.aload_n 0, 1) := by decide +kernel
theorem dX9_stall_128 : decode cX9_stall 128 = .ok (.getfield 19, 3) := by decide +kernel
theorem dX9_stall_131 : decode cX9_stall 131 = .ok (.iload 6, 2) := by decide +kernel
theorem dX9_stall_133 : decode cX9_stall 133 = .ok (.aload_n 0, 1) := by decide +kernel
theorem dX9_stall_134 : decode cX9_stall 134 = .ok (.getfield 25, 3) := by decide +kernel
theorem dX9_stall_137 : decode cX9_stall 137 = .ok (.iconst 4, 1) := by decide +kernel
theorem dX9_stall_138 : decode cX9_stall 138 = .ok (.iload 6, 2) := by decide +kernel
theorem dX9_stall_140 : decode cX9_stall 140 = .ok (.imul, 1) := by decide +kernel
theorem dX9_stall_141 : decode cX9_stall 141 = .ok (.iconst 3, 1) := by decide +kernel
theorem dX9_stall_142 : decode cX9_stall 142 = .ok (.iadd, 1) := by decide +kernel
theorem dX9_stall_143 : decode cX9_stall 143 = .ok (.iaload, 1) := by decide +kernel
theorem dX9_stall_144 : decode cX9_stall 144 = .ok (.iastore, 1) := by decide +kernel
theorem dX9_stall_145 : decode cX9_stall 145 = .ok (.iinc 6 1, 3) := by decide +kernel
theorem dX9_stall_148 : decode cX9_stall 148 = .ok (.goto (-82), 3) := by decide +kernel
theorem dX9_stall_151 : decode cX9_stall 151 = .ok (.iconst 0, 1) := by decide +kernel
theorem dX9_stall_152 : decode cX9_stall 152 = .ok (.istore 6, 2) := by decide +kernel
theorem dX9_stall_154 : decode cX9_stall 154 = .ok (.iload 6, 2) := by decide +kernel
theorem dX9_stall_156 : decode cX9_stall 156 = .ok (.bipush 32, 2) := by decide +kernel
theorem dX9_stall_158 : decode cX9_stall 158 = .ok (.if_icmp .ge 18, 3) := by decide +kernel
theorem dX9_stall_161 : decode cX9_stall 161 = .ok (.aload_n 0, 1) := by decide +kernel
theorem dX9_stall_162 : decode cX9_stall 162 = .ok (.getfield 22, 3) := by decide +kernel
theorem dX9_stall_165 : decode cX9_stall 165 = .ok (.iload 6, 2) := by decide +kernel
theorem dX9_stall_167 : decode cX9_stall 167 = .ok (.bipush 9, 2) := by decide +kernel
theorem dX9_stall_169 : decode cX9_stall 169 = .ok (.iastore, 1) := by decide +kernel
theorem dX9_stall_170 : decode cX9_stall 170 = .ok (.iinc 6 1, 3) := by decide +kernel
theorem dX9_stall_173 : decode cX9_stall 173 = .ok (.goto (-19), 3) := by decide +kernel
theorem dX9_stall_176 : decode cX9_stall 176 = .ok (.aload_n 0, 1) := by decide +kernel
theorem dX9_stall_177 : decode cX9_stall 177 = .ok (.iconst 0, 1) := by decide +kernel
theorem dX9_stall_178 : decode cX9_stall 178 = .ok (.putfield 153, 3) := by decide +kernel
theorem dX9_stall_181 : decode cX9_stall 181 = .ok (.aload_n 0, 1) := by decide +kernel
theorem dX9_stall_182 : decode cX9_stall 182 = .ok (.iconst 0, 1) := by decide +kernel
theorem dX9_stall_183 : decode cX9_stall 183 = .ok (.putfield 156, 3) := by decide +kernel
theorem dX9_stall_186 : decode cX9_stall 186 = .ok (.aload_n 0, 1) := by decide +kernel
theorem dX9_stall_187 : decode cX9_stall 187 = .ok (.iconst 0, 1) := by decide +kernel
theorem dX9_stall_188 : decode cX9_stall 188 = .ok (.putfield 159, 3) := by decide +kernel
theorem dX9_stall_191 : decode cX9_stall 191 = .ok (.aload_n 0, 1) := by decide +kernel
theorem dX9_stall_192 : decode cX9_stall 192 = .ok (.aload_n 0, 1) := by decide +kernel
theorem dX9_stall_193 : decode cX9_stall 193 = .ok (.getfield 116, 3) := by decide +kernel
theorem dX9_stall_196 : decode cX9_stall 196 = .ok (.invokevirtual 103, 3) := by decide +kernel
theorem dX9_stall_199 : decode cX9_stall 199 = .ok (.ireturn, 1) := by decide +kernel
theorem dX9_ofSort_0 : decode cX9_ofSort 0 = .ok (.aload_n 0, 1) := by decide +kernel
theorem dX9_ofSort_1 : decode cX9_ofSort 1 = .ok (.iload_n 1, 1) := by decide +kernel
theorem dX9_ofSort_2 : decode cX9_ofSort 2 = .ok (.invokevirtual 163, 3) := by decide +kernel
theorem dX9_ofSort_5 : decode cX9_ofSort 5 = .ok (.ifCond .eq 5, 3) := by decide +kernel
theorem dX9_ofSort_8 : decode cX9_ofSort 8 = .ok (.iconst (-1), 1) := by decide +kernel
theorem dX9_ofSort_9 : decode cX9_ofSort 9 = .ok (.ireturn, 1) := by decide +kernel
theorem dX9_ofSort_10 : decode cX9_ofSort 10 = .ok (.iload_n 2, 1) := by decide +kernel
theorem dX9_ofSort_11 : decode cX9_ofSort 11 = .ok (.tableswitch 57 0 3 #[29, 36, 43, 50], 29) := by decide +kernel
theorem dX9_ofSort_40 : decode cX9_ofSort 40 = .ok (.aload_n 0, 1) := by decide +kernel
theorem dX9_ofSort_41 : decode cX9_ofSort 41 = .ok (.getfield 7, 3) := by decide +kernel
theorem dX9_ofSort_44 : decode cX9_ofSort 44 = .ok (.iload_n 1, 1) := by decide +kernel
theorem dX9_ofSort_45 : decode cX9_ofSort 45 = .ok (.iaload, 1) := by decide +kernel
theorem dX9_ofSort_46 : decode cX9_ofSort 46 = .ok (.ireturn, 1) := by decide +kernel
theorem dX9_ofSort_47 : decode cX9_ofSort 47 = .ok (.aload_n 0, 1) := by decide +kernel
theorem dX9_ofSort_48 : decode cX9_ofSort 48 = .ok (.getfield 13, 3) := by decide +kernel
theorem dX9_ofSort_51 : decode cX9_ofSort 51 = .ok (.iload_n 1, 1) := by decide +kernel
theorem dX9_ofSort_52 : decode cX9_ofSort 52 = .ok (.iaload, 1) := by decide +kernel
theorem dX9_ofSort_53 : decode cX9_ofSort 53 = .ok (.ireturn, 1) := by decide +kernel
theorem dX9_ofSort_54 : decode cX9_ofSort 54 = .ok (.aload_n 0, 1) := by decide +kernel
theorem dX9_ofSort_55 : decode cX9_ofSort 55 = .ok (.getfield 16, 3) := by decide +kernel
theorem dX9_ofSort_58 : decode cX9_ofSort 58 = .ok (.iload_n 1, 1) := by decide +kernel
theorem dX9_ofSort_59 : decode cX9_ofSort 59 = .ok (.iaload, 1) := by decide +kernel
theorem dX9_ofSort_60 : decode cX9_ofSort 60 = .ok (.ireturn, 1) := by decide +kernel
theorem dX9_ofSort_61 : decode cX9_ofSort 61 = .ok (.aload_n 0, 1) := by decide +kernel
theorem dX9_ofSort_62 : decode cX9_ofSort 62 = .ok (.getfield 19, 3) := by decide +kernel
theorem dX9_ofSort_65 : decode cX9_ofSort 65 = .ok (.iload_n 1, 1) := by decide +kernel
theorem dX9_ofSort_66 : decode cX9_ofSort 66 = .ok (.iaload, 1) := by decide +kernel
theorem dX9_ofSort_67 : decode cX9_ofSort 67 = .ok (.ireturn, 1) := by decide +kernel
theorem dX9_ofSort_68 : decode cX9_ofSort 68 = .ok (.bipush (-2), 2) := by decide +kernel
theorem dX9_ofSort_70 : decode cX9_ofSort 70 = .ok (.ireturn, 1) := by decide +kernel
theorem dX9_freshAt_0 : decode cX9_freshAt 0 = .ok (.iconst 0, 1) := by decide +kernel
theorem dX9_freshAt_1 : decode cX9_freshAt 1 = .ok (.aload_n 0, 1) := by decide +kernel
theorem dX9_freshAt_2 : decode cX9_freshAt 2 = .ok (.getfield 16, 3) := by decide +kernel
theorem dX9_freshAt_5 : decode cX9_freshAt 5 = .ok (.iload_n 1, 1) := by decide +kernel
theorem dX9_freshAt_6 : decode cX9_freshAt 6 = .ok (.iaload, 1) := by decide +kernel
theorem dX9_freshAt_7 : decode cX9_freshAt 7 = .ok (.iload_n 2, 1) := by decide +kernel
theorem dX9_freshAt_8 : decode cX9_freshAt 8 = .ok (.aload_n 0, 1) := by decide +kernel
theorem dX9_freshAt_9 : decode cX9_freshAt 9 = .ok (.getfield 19, 3) := by decide +kernel
theorem dX9_freshAt_12 : decode cX9_freshAt 12 = .ok (.iload_n 1, 1) := by decide +kernel
theorem dX9_freshAt_13 : decode cX9_freshAt 13 = .ok (.iaload, 1) := by decide +kernel
theorem dX9_freshAt_14 : decode cX9_freshAt 14 = .ok (.imul, 1) := by decide +kernel
theorem dX9_freshAt_15 : decode cX9_freshAt 15 = .ok (.isub, 1) := by decide +kernel
theorem dX9_freshAt_16 : decode cX9_freshAt 16 = .ok (.invokestatic 166, 3) := by decide +kernel
theorem dX9_freshAt_19 : decode cX9_freshAt 19 = .ok (.ireturn, 1) := by decide +kernel
theorem dX9_fresh_0 : decode cX9_fresh 0 = .ok (.aload_n 0, 1) := by decide +kernel
theorem dX9_fresh_1 : decode cX9_fresh 1 = .ok (.iload_n 1, 1) := by decide +kernel
theorem dX9_fresh_2 : decode cX9_fresh 2 = .ok (.invokevirtual 163, 3) := by decide +kernel
theorem dX9_fresh_5 : decode cX9_fresh 5 = .ok (.ifCond .ne 11, 3) := by decide +kernel
theorem dX9_fresh_8 : decode cX9_fresh 8 = .ok (.aload_n 0, 1) := by decide +kernel
theorem dX9_fresh_9 : decode cX9_fresh 9 = .ok (.iload_n 2, 1) := by decide +kernel
theorem dX9_fresh_10 : decode cX9_fresh 10 = .ok (.invokevirtual 170, 3) := by decide +kernel
theorem dX9_fresh_13 : decode cX9_fresh 13 = .ok (.ifCond .eq 7, 3) := by decide +kernel
theorem dX9_fresh_16 : decode cX9_fresh 16 = .ok (.iconst (-1), 1) := by decide +kernel
theorem dX9_fresh_17 : decode cX9_fresh 17 = .ok (.goto 9, 3) := by decide +kernel
theorem dX9_fresh_20 : decode cX9_fresh 20 = .ok (.aload_n 0, 1) := by decide +kernel
theorem dX9_fresh_21 : decode cX9_fresh 21 = .ok (.iload_n 1, 1) := by decide +kernel
theorem dX9_fresh_22 : decode cX9_fresh 22 = .ok (.iload_n 2, 1) := by decide +kernel
theorem dX9_fresh_23 : decode cX9_fresh 23 = .ok (.invokevirtual 173, 3) := by decide +kernel
theorem dX9_fresh_26 : decode cX9_fresh 26 = .ok (.ireturn, 1) := by decide +kernel
theorem dX9_fish_0 : decode cX9_fish 0 = .ok (.aload_n 0, 1) := by decide +kernel
theorem dX9_fish_1 : decode cX9_fish 1 = .ok (.iload_n 1, 1) := by decide +kernel
theorem dX9_fish_2 : decode cX9_fish 2 = .ok (.invokevirtual 163, 3) := by decide +kernel
theorem dX9_fish_5 : decode cX9_fish 5 = .ok (.ifCond .eq 5, 3) := by decide +kernel
theorem dX9_fish_8 : decode cX9_fish 8 = .ok (.iconst (-1), 1) := by decide +kernel
theorem dX9_fish_9 : decode cX9_fish 9 = .ok (.ireturn, 1) := by decide +kernel
theorem dX9_fish_10 : decode cX9_fish 10 = .ok (.iload_n 2, 1) := by decide +kernel
theorem dX9_fish_11 : decode cX9_fish 11 = .ok (.i2l, 1) := by decide +kernel
theorem dX9_fish_12 : decode cX9_fish 12 = .ok (.lconst 0, 1) := by decide +kernel
theorem dX9_fish_13 : decode cX9_fish 13 = .ok (.ldc2_w 176, 3) := by decide +kernel
theorem dX9_fish_16 : decode cX9_fish 16 = .ok (.invokestatic 87, 3) := by decide +kernel
theorem dX9_fish_19 : decode cX9_fish 19 = .ok (.ifCond .ne 6, 3) := by decide +kernel
theorem dX9_fish_22 : decode cX9_fish 22 = .ok (.bipush (-2), 2) := by decide +kernel
theorem dX9_fish_24 : decode cX9_fish 24 = .ok (.ireturn, 1) := by decide +kernel
theorem dX9_fish_25 : decode cX9_fish 25 = .ok (.aload_n 0, 1) := by decide +kernel
theorem dX9_fish_26 : decode cX9_fish 26 = .ok (.getfield 7, 3) := by decide +kernel
theorem dX9_fish_29 : decode cX9_fish 29 = .ok (.iload_n 1, 1) := by decide +kernel
theorem dX9_fish_30 : decode cX9_fish 30 = .ok (.iaload, 1) := by decide +kernel
theorem dX9_fish_31 : decode cX9_fish 31 = .ok (.istore_n 3, 1) := by decide +kernel
theorem dX9_fish_32 : decode cX9_fish 32 = .ok (.aload_n 0, 1) := by decide +kernel
theorem dX9_fish_33 : decode cX9_fish 33 = .ok (.getfield 7, 3) := by decide +kernel
theorem dX9_fish_36 : decode cX9_fish 36 = .ok (.iload_n 1, 1) := by decide +kernel
theorem dX9_fish_37 : decode cX9_fish 37 = .ok (.iload_n 2, 1) := by decide +kernel
theorem dX9_fish_38 : decode cX9_fish 38 = .ok (.iastore, 1) := by decide +kernel
theorem dX9_fish_39 : decode cX9_fish 39 = .ok (.iload_n 3, 1) := by decide +kernel
theorem dX9_fish_40 : decode cX9_fish 40 = .ok (.ireturn, 1) := by decide +kernel
theorem dX9_priceOf_0 : decode cX9_priceOf 0 = .ok (.aload_n 0, 1) := by decide +kernel
theorem dX9_priceOf_1 : decode cX9_priceOf 1 = .ok (.getfield 22, 3) := by decide +kernel
theorem dX9_priceOf_4 : decode cX9_priceOf 4 = .ok (.bipush 8, 2) := by decide +kernel
theorem dX9_priceOf_6 : decode cX9_priceOf 6 = .ok (.iload_n 1, 1) := by decide +kernel
theorem dX9_priceOf_7 : decode cX9_priceOf 7 = .ok (.imul, 1) := by decide +kernel
theorem dX9_priceOf_8 : decode cX9_priceOf 8 = .ok (.iload_n 2, 1) := by decide +kernel
theorem dX9_priceOf_9 : decode cX9_priceOf 9 = .ok (.iadd, 1) := by decide +kernel
theorem dX9_priceOf_10 : decode cX9_priceOf 10 = .ok (.iaload, 1) := by decide +kernel
theorem dX9_priceOf_11 : decode cX9_priceOf 11 = .ok (.ireturn, 1) := by decide +kernel
theorem dX9_isPrice_0 : decode cX9_isPrice 0 = .ok (.iload_n 0, 1) := by decide +kernel
theorem dX9_isPrice_1 : decode cX9_isPrice 1 = .ok (.i2l, 1) := by decide +kernel
theorem dX9_isPrice_2 : decode cX9_isPrice 2 = .ok (.lconst 0, 1) := by decide +kernel
theorem dX9_isPrice_3 : decode cX9_isPrice 3 = .ok (.ldc2_w 178, 3) := by decide +kernel
theorem dX9_isPrice_6 : decode cX9_isPrice 6 = .ok (.invokestatic 87, 3) := by decide +kernel
theorem dX9_isPrice_9 : decode cX9_isPrice 9 = .ok (.ireturn, 1) := by decide +kernel
theorem dX9_slate_0 : decode cX9_slate 0 = .ok (.aload_n 0, 1) := by decide +kernel
theorem dX9_slate_1 : decode cX9_slate 1 = .ok (.iload_n 1, 1) := by decide +kernel
theorem dX9_slate_2 : decode cX9_slate 2 = .ok (.invokevirtual 163, 3) := by decide +kernel
theorem dX9_slate_5 : decode cX9_slate 5 = .ok (.ifCond .ne 11, 3) := by decide +kernel
theorem dX9_slate_8 : decode cX9_slate 8 = .ok (.aload_n 0, 1) := by decide +kernel
theorem dX9_slate_9 : decode cX9_slate 9 = .ok (.iload_n 2, 1) := by decide +kernel
theorem dX9_slate_10 : decode cX9_slate 10 = .ok (.invokevirtual 170, 3) := by decide +kernel
theorem dX9_slate_13 : decode cX9_slate 13 = .ok (.ifCond .eq 7, 3) := by decide +kernel
theorem dX9_slate_16 : decode cX9_slate 16 = .ok (.iconst (-1), 1) := by decide +kernel
theorem dX9_slate_17 : decode cX9_slate 17 = .ok (.goto 9, 3) := by decide +kernel
theorem dX9_slate_20 : decode cX9_slate 20 = .ok (.aload_n 0, 1) := by decide +kernel
theorem dX9_slate_21 : decode cX9_slate 21 = .ok (.iload_n 1, 1) := by decide +kernel
theorem dX9_slate_22 : decode cX9_slate 22 = .ok (.iload_n 2, 1) := by decide +kernel
theorem dX9_slate_23 : decode cX9_slate 23 = .ok (.invokevirtual 180, 3) := by decide +kernel
theorem dX9_slate_26 : decode cX9_slate 26 = .ok (.ireturn, 1) := by decide +kernel
theorem dX9_write_0 : decode cX9_write 0 = .ok (.aload_n 0, 1) := by decide +kernel
theorem dX9_write_1 : decode cX9_write 1 = .ok (.iload_n 1, 1) := by decide +kernel
theorem dX9_write_2 : decode cX9_write 2 = .ok (.invokevirtual 163, 3) := by decide +kernel
theorem dX9_write_5 : decode cX9_write 5 = .ok (.ifCond .ne 11, 3) := by decide +kernel
theorem dX9_write_8 : decode cX9_write 8 = .ok (.aload_n 0, 1) := by decide +kernel
theorem dX9_write_9 : decode cX9_write 9 = .ok (.iload_n 2, 1) := by decide +kernel
theorem dX9_write_10 : decode cX9_write 10 = .ok (.invokevirtual 170, 3) := by decide +kernel
theorem dX9_write_13 : decode cX9_write 13 = .ok (.ifCond .eq 5, 3) := by decide +kernel
theorem dX9_write_16 : decode cX9_write 16 = .ok (.iconst (-1), 1) := by decide +kernel
theorem dX9_write_17 : decode cX9_write 17 = .ok (.ireturn, 1) := by decide +kernel
theorem dX9_write_18 : decode cX9_write 18 = .ok (.iload_n 3, 1) := by decide +kernel
theorem dX9_write_19 : decode cX9_write 19 = .ok (.invokestatic 183, 3) := by decide +kernel
theorem dX9_write_22 : decode cX9_write 22 = .ok (.ifCond .ne 6, 3) := by decide +kernel
theorem dX9_write_25 : decode cX9_write 25 = .ok (.bipush (-2), 2) := by decide +kernel
theorem dX9_write_27 : decode cX9_write 27 = .ok (.ireturn, 1) := by decide +kernel
theorem dX9_write_28 : decode cX9_write 28 = .ok (.aload_n 0, 1) := by decide +kernel
theorem dX9_write_29 : decode cX9_write 29 = .ok (.iload_n 1, 1) := by decide +kernel
theorem dX9_write_30 : decode cX9_write 30 = .ok (.iload_n 2, 1) := by decide +kernel
theorem dX9_write_31 : decode cX9_write 31 = .ok (.invokevirtual 180, 3) := by decide +kernel
theorem dX9_write_34 : decode cX9_write 34 = .ok (.istore 4, 2) := by decide +kernel
theorem dX9_write_36 : decode cX9_write 36 = .ok (.aload_n 0, 1) := by decide +kernel
theorem dX9_write_37 : decode cX9_write 37 = .ok (.getfield 22, 3) := by decide +kernel
theorem dX9_write_40 : decode cX9_write 40 = .ok (.bipush 8, 2) := by decide +kernel
theorem dX9_write_42 : decode cX9_write 42 = .ok (.iload_n 1, 1) := by decide +kernel
theorem dX9_write_43 : decode cX9_write 43 = .ok (.imul, 1) := by decide +kernel
theorem dX9_write_44 : decode cX9_write 44 = .ok (.iload_n 2, 1) := by decide +kernel
theorem dX9_write_45 : decode cX9_write 45 = .ok (.iadd, 1) := by decide +kernel
theorem dX9_write_46 : decode cX9_write 46 = .ok (.iload_n 3, 1) := by decide +kernel
theorem dX9_write_47 : decode cX9_write 47 = .ok (.iastore, 1) := by decide +kernel
theorem dX9_write_48 : decode cX9_write 48 = .ok (.iload 4, 2) := by decide +kernel
theorem dX9_write_50 : decode cX9_write 50 = .ok (.ireturn, 1) := by decide +kernel
theorem dX9_copyOut_0 : decode cX9_copyOut 0 = .ok (.aload_n 0, 1) := by decide +kernel
theorem dX9_copyOut_1 : decode cX9_copyOut 1 = .ok (.iload_n 1, 1) := by decide +kernel
theorem dX9_copyOut_2 : decode cX9_copyOut 2 = .ok (.invokevirtual 163, 3) := by decide +kernel
theorem dX9_copyOut_5 : decode cX9_copyOut 5 = .ok (.ifCond .eq 9, 3) := by decide +kernel
theorem dX9_copyOut_8 : decode cX9_copyOut 8 = .ok (.aload_n 0, 1) := by decide +kernel
theorem dX9_copyOut_9 : decode cX9_copyOut 9 = .ok (.iconst (-1), 1) := by decide +kernel
theorem dX9_copyOut_10 : decode cX9_copyOut 10 = .ok (.invokevirtual 103, 3) := by decide +kernel
theorem dX9_copyOut_13 : decode cX9_copyOut 13 = .ok (.ireturn, 1) := by decide +kernel
theorem dX9_copyOut_14 : decode cX9_copyOut 14 = .ok (.aload_n 0, 1) := by decide +kernel
theorem dX9_copyOut_15 : decode cX9_copyOut 15 = .ok (.iload_n 2, 1) := by decide +kernel
theorem dX9_copyOut_16 : decode cX9_copyOut 16 = .ok (.iload_n 3, 1) := by decide +kernel
theorem dX9_copyOut_17 : decode cX9_copyOut 17 = .ok (.iload 4, 2) := by decide +kernel
theorem dX9_copyOut_19 : decode cX9_copyOut 19 = .ok (.iload 5, 2) := by decide +kernel
theorem dX9_copyOut_21 : decode cX9_copyOut 21 = .ok (.i2l, 1) := by decide +kernel
theorem dX9_copyOut_22 : decode cX9_copyOut 22 = .ok (.invokevirtual 146, 3) := by decide +kernel
theorem dX9_copyOut_25 : decode cX9_copyOut 25 = .ok (.istore 6, 2) := by decide +kernel
theorem dX9_copyOut_27 : decode cX9_copyOut 27 = .ok (.iload 6, 2) := by decide +kernel
theorem dX9_copyOut_29 : decode cX9_copyOut 29 = .ok (.ifCond .ge 6, 3) := by decide +kernel
theorem dX9_copyOut_32 : decode cX9_copyOut 32 = .ok (.iload 6, 2) := by decide +kernel
theorem dX9_copyOut_34 : decode cX9_copyOut 34 = .ok (.ireturn, 1) := by decide +kernel
theorem dX9_copyOut_35 : decode cX9_copyOut 35 = .ok (.iload 5, 2) := by decide +kernel
theorem dX9_copyOut_37 : decode cX9_copyOut 37 = .ok (.i2l, 1) := by decide +kernel
theorem dX9_copyOut_38 : decode cX9_copyOut 38 = .ok (.lconst 1, 1) := by decide +kernel
theorem dX9_copyOut_39 : decode cX9_copyOut 39 = .ok (.aload_n 0, 1) := by decide +kernel
theorem dX9_copyOut_40 : decode cX9_copyOut 40 = .ok (.getfield 119, 3) := by decide +kernel
theorem dX9_copyOut_43 : decode cX9_copyOut 43 = .ok (.i2l, 1) := by decide +kernel
theorem dX9_copyOut_44 : decode cX9_copyOut 44 = .ok (.invokestatic 87, 3) := by decide +kernel
theorem dX9_copyOut_47 : decode cX9_copyOut 47 = .ok (.istore 7, 2) := by decide +kernel
theorem dX9_copyOut_49 : decode cX9_copyOut 49 = .ok (.iconst 0, 1) := by decide +kernel
theorem dX9_copyOut_50 : decode cX9_copyOut 50 = .ok (.istore 8, 2) := by decide +kernel
theorem dX9_copyOut_52 : decode cX9_copyOut 52 = .ok (.iload 8, 2) := by decide +kernel
theorem dX9_copyOut_54 : decode cX9_copyOut 54 = .ok (.iload 5, 2) := by decide +kernel
theorem dX9_copyOut_56 : decode cX9_copyOut 56 = .ok (.if_icmp .ge 34, 3) := by decide +kernel
theorem dX9_copyOut_59 : decode cX9_copyOut 59 = .ok (.iload 7, 2) := by decide +kernel
theorem dX9_copyOut_61 : decode cX9_copyOut 61 = .ok (.ifCond .eq 29, 3) := by decide +kernel
theorem dX9_copyOut_64 : decode cX9_copyOut 64 = .ok (.aload_n 0, 1) := by decide +kernel
theorem dX9_copyOut_65 : decode cX9_copyOut 65 = .ok (.getfield 79, 3) := by decide +kernel
theorem dX9_copyOut_68 : decode cX9_copyOut 68 = .ok (.bipush 60, 2) := by decide +kernel
theorem dX9_copyOut_70 : decode cX9_copyOut 70 = .ok (.iload_n 2, 1) := by decide +kernel
theorem dX9_copyOut_71 : decode cX9_copyOut 71 = .ok (.imul, 1) := by decide +kernel
theorem dX9_copyOut_72 : decode cX9_copyOut 72 = .ok (.iload 4, 2) := by decide +kernel
theorem dX9_copyOut_74 : decode cX9_copyOut 74 = .ok (.iadd, 1) := by decide +kernel
theorem dX9_copyOut_75 : decode cX9_copyOut 75 = .ok (.iload 8, 2) := by decide +kernel
theorem dX9_copyOut_77 : decode cX9_copyOut 77 = .ok (.iadd, 1) := by decide +kernel
theorem dX9_copyOut_78 : decode cX9_copyOut 78 = .ok (.iaload, 1) := by decide +kernel
theorem dX9_copyOut_79 : decode cX9_copyOut 79 = .ok (.invokestatic 183, 3) := by decide +kernel
theorem dX9_copyOut_82 : decode cX9_copyOut 82 = .ok (.istore 7, 2) := by decide +kernel
theorem dX9_copyOut_84 : decode cX9_copyOut 84 = .ok (.iinc 8 1, 3) := by decide +kernel
theorem dX9_copyOut_87 : decode cX9_copyOut 87 = .ok (.goto (-35), 3) := by decide +kernel
theorem dX9_copyOut_90 : decode cX9_copyOut 90 = .ok (.iload 7, 2) := by decide +kernel
theorem dX9_copyOut_92 : decode cX9_copyOut 92 = .ok (.ifCond .ne 10, 3) := by decide +kernel
theorem dX9_copyOut_95 : decode cX9_copyOut 95 = .ok (.aload_n 0, 1) := by decide +kernel
theorem dX9_copyOut_96 : decode cX9_copyOut 96 = .ok (.bipush (-2), 2) := by decide +kernel
theorem dX9_copyOut_98 : decode cX9_copyOut 98 = .ok (.invokevirtual 103, 3) := by decide +kernel
theorem dX9_copyOut_101 : decode cX9_copyOut 101 = .ok (.ireturn, 1) := by decide +kernel
theorem dX9_copyOut_102 : decode cX9_copyOut 102 = .ok (.iconst 0, 1) := by decide +kernel
theorem dX9_copyOut_103 : decode cX9_copyOut 103 = .ok (.istore 8, 2) := by decide +kernel
theorem dX9_copyOut_105 : decode cX9_copyOut 105 = .ok (.iload 8, 2) := by decide +kernel
theorem dX9_copyOut_107 : decode cX9_copyOut 107 = .ok (.iload 5, 2) := by decide +kernel
theorem dX9_copyOut_109 : decode cX9_copyOut 109 = .ok (.if_icmp .ge 36, 3) := by decide +kernel
theorem dX9_copyOut_112 : decode cX9_copyOut 112 = .ok (.aload_n 0, 1) := by decide +kernel
theorem dX9_copyOut_113 : decode cX9_copyOut 113 = .ok (.getfield 22, 3) := by decide +kernel
theorem dX9_copyOut_116 : decode cX9_copyOut 116 = .ok (.bipush 8, 2) := by decide +kernel
theorem dX9_copyOut_118 : decode cX9_copyOut 118 = .ok (.iload_n 1, 1) := by decide +kernel
theorem dX9_copyOut_119 : decode cX9_copyOut 119 = .ok (.imul, 1) := by decide +kernel
theorem dX9_copyOut_120 : decode cX9_copyOut 120 = .ok (.iload 8, 2) := by decide +kernel
theorem dX9_copyOut_122 : decode cX9_copyOut 122 = .ok (.iadd, 1) := by decide +kernel
theorem dX9_copyOut_123 : decode cX9_copyOut 123 = .ok (.aload_n 0, 1) := by decide +kernel
theorem dX9_copyOut_124 : decode cX9_copyOut 124 = .ok (.getfield 79, 3) := by decide +kernel
theorem dX9_copyOut_127 : decode cX9_copyOut 127 = .ok (.bipush 60, 2) := by decide +kernel
theorem dX9_copyOut_129 : decode cX9_copyOut 129 = .ok (.iload_n 2, 1) := by decide +kernel
theorem dX9_copyOut_130 : decode cX9_copyOut 130 = .ok (.imul, 1) := by decide +kernel
theorem dX9_copyOut_131 : decode cX9_copyOut 131 = .ok (.iload 4, 2) := by decide +kernel
theorem dX9_copyOut_133 : decode cX9_copyOut 133 = .ok (.iadd, 1) := by decide +kernel
theorem dX9_copyOut_134 : decode cX9_copyOut 134 = .ok (.iload 8, 2) := by decide +kernel
theorem dX9_copyOut_136 : decode cX9_copyOut 136 = .ok (.iadd, 1) := by decide +kernel
theorem dX9_copyOut_137 : decode cX9_copyOut 137 = .ok (.iaload, 1) := by decide +kernel
theorem dX9_copyOut_138 : decode cX9_copyOut 138 = .ok (.iastore, 1) := by decide +kernel
theorem dX9_copyOut_139 : decode cX9_copyOut 139 = .ok (.iinc 8 1, 3) := by decide +kernel
theorem dX9_copyOut_142 : decode cX9_copyOut 142 = .ok (.goto (-37), 3) := by decide +kernel
theorem dX9_copyOut_145 : decode cX9_copyOut 145 = .ok (.aload_n 0, 1) := by decide +kernel
theorem dX9_copyOut_146 : decode cX9_copyOut 146 = .ok (.iload 5, 2) := by decide +kernel
theorem dX9_copyOut_148 : decode cX9_copyOut 148 = .ok (.invokevirtual 103, 3) := by decide +kernel
theorem dX9_copyOut_151 : decode cX9_copyOut 151 = .ok (.ireturn, 1) := by decide +kernel
theorem dX9_soup_0 : decode cX9_soup 0 = .ok (.iload_n 1, 1) := by decide +kernel
theorem dX9_soup_1 : decode cX9_soup 1 = .ok (.i2l, 1) := by decide +kernel
theorem dX9_soup_2 : decode cX9_soup 2 = .ok (.lconst 0, 1) := by decide +kernel
theorem dX9_soup_3 : decode cX9_soup 3 = .ok (.ldc2_w 176, 3) := by decide +kernel
theorem dX9_soup_6 : decode cX9_soup 6 = .ok (.invokestatic 87, 3) := by decide +kernel
theorem dX9_soup_9 : decode cX9_soup 9 = .ok (.ifCond .ne 6, 3) := by decide +kernel
theorem dX9_soup_12 : decode cX9_soup 12 = .ok (.bipush (-2), 2) := by decide +kernel
theorem dX9_soup_14 : decode cX9_soup 14 = .ok (.ireturn, 1) := by decide +kernel
theorem dX9_soup_15 : decode cX9_soup 15 = .ok (.aload_n 0, 1) := by decide +kernel
theorem dX9_soup_16 : decode cX9_soup 16 = .ok (.getfield 116, 3) := by decide +kernel
theorem dX9_soup_19 : decode cX9_soup 19 = .ok (.ifCond .ne 6, 3) := by decide +kernel
theorem dX9_soup_22 : decode cX9_soup 22 = .ok (.bipush (-3), 2) := by decide +kernel
theorem dX9_soup_24 : decode cX9_soup 24 = .ok (.ireturn, 1) := by decide +kernel
theorem dX9_soup_25 : decode cX9_soup 25 = .ok (.aload_n 0, 1) := by decide +kernel
theorem dX9_soup_26 : decode cX9_soup 26 = .ok (.getfield 156, 3) := by decide +kernel
theorem dX9_soup_29 : decode cX9_soup 29 = .ok (.istore_n 2, 1) := by decide +kernel
theorem dX9_soup_30 : decode cX9_soup 30 = .ok (.aload_n 0, 1) := by decide +kernel
theorem dX9_soup_31 : decode cX9_soup 31 = .ok (.iload_n 1, 1) := by decide +kernel
theorem dX9_soup_32 : decode cX9_soup 32 = .ok (.putfield 156, 3) := by decide +kernel
theorem dX9_soup_35 : decode cX9_soup 35 = .ok (.iload_n 2, 1) := by decide +kernel
theorem dX9_soup_36 : decode cX9_soup 36 = .ok (.ireturn, 1) := by decide +kernel
theorem dX9_beside_0 : decode cX9_beside 0 = .ok (.aload_n 0, 1) := by decide +kernel
theorem dX9_beside_1 : decode cX9_beside 1 = .ok (.getfield 116, 3) := by decide +kernel
theorem dX9_beside_4 : decode cX9_beside 4 = .ok (.ifCond .ne 6, 3) := by decide +kernel
theorem dX9_beside_7 : decode cX9_beside 7 = .ok (.bipush (-3), 2) := by decide +kernel
theorem dX9_beside_9 : decode cX9_beside 9 = .ok (.ireturn, 1) := by decide +kernel
theorem dX9_beside_10 : decode cX9_beside 10 = .ok (.aload_n 0, 1) := by decide +kernel
theorem dX9_beside_11 : decode cX9_beside 11 = .ok (.getfield 159, 3) := by decide +kernel
theorem dX9_beside_14 : decode cX9_beside 14 = .ok (.iload_n 1, 1) := by decide +kernel
theorem dX9_beside_15 : decode cX9_beside 15 = .ok (.if_icmp .ne 7, 3) := by decide +kernel
theorem dX9_beside_18 : decode cX9_beside 18 = .ok (.iconst 0, 1) := by decide +kernel
theorem dX9_beside_19 : decode cX9_beside 19 = .ok (.goto 4, 3) := by decide +kernel
theorem dX9_beside_22 : decode cX9_beside 22 = .ok (.iconst 1, 1) := by decide +kernel
theorem dX9_beside_23 : decode cX9_beside 23 = .ok (.istore_n 2, 1) := by decide +kernel
theorem dX9_beside_24 : decode cX9_beside 24 = .ok (.aload_n 0, 1) := by decide +kernel
theorem dX9_beside_25 : decode cX9_beside 25 = .ok (.iload_n 1, 1) := by decide +kernel
theorem dX9_beside_26 : decode cX9_beside 26 = .ok (.putfield 159, 3) := by decide +kernel
theorem dX9_beside_29 : decode cX9_beside 29 = .ok (.iload_n 2, 1) := by decide +kernel
theorem dX9_beside_30 : decode cX9_beside 30 = .ok (.ireturn, 1) := by decide +kernel
theorem dX9_noBuyer_0 : decode cX9_noBuyer 0 = .ok (.iload_n 1, 1) := by decide +kernel
theorem dX9_noBuyer_1 : decode cX9_noBuyer 1 = .ok (.i2l, 1) := by decide +kernel
theorem dX9_noBuyer_2 : decode cX9_noBuyer 2 = .ok (.lconst 0, 1) := by decide +kernel
theorem dX9_noBuyer_3 : decode cX9_noBuyer 3 = .ok (.aload_n 0, 1) := by decide +kernel
theorem dX9_noBuyer_4 : decode cX9_noBuyer 4 = .ok (.getfield 153, 3) := by decide +kernel
theorem dX9_noBuyer_7 : decode cX9_noBuyer 7 = .ok (.i2l, 1) := by decide +kernel
theorem dX9_noBuyer_8 : decode cX9_noBuyer 8 = .ok (.lconst 1, 1) := by decide +kernel
theorem dX9_noBuyer_9 : decode cX9_noBuyer 9 = .ok (.lsub, 1) := by decide +kernel
theorem dX9_noBuyer_10 : decode cX9_noBuyer 10 = .ok (.invokestatic 87, 3) := by decide +kernel
theorem dX9_noBuyer_13 : decode cX9_noBuyer 13 = .ok (.ifCond .ne 7, 3) := by decide +kernel
theorem dX9_noBuyer_16 : decode cX9_noBuyer 16 = .ok (.iconst 1, 1) := by decide +kernel
theorem dX9_noBuyer_17 : decode cX9_noBuyer 17 = .ok (.goto 4, 3) := by decide +kernel
theorem dX9_noBuyer_20 : decode cX9_noBuyer 20 = .ok (.iconst 0, 1) := by decide +kernel
theorem dX9_noBuyer_21 : decode cX9_noBuyer 21 = .ok (.ireturn, 1) := by decide +kernel
theorem dX9_buyer_0 : decode cX9_buyer 0 = .ok (.aload_n 0, 1) := by decide +kernel
theorem dX9_buyer_1 : decode cX9_buyer 1 = .ok (.iload_n 2, 1) := by decide +kernel
theorem dX9_buyer_2 : decode cX9_buyer 2 = .ok (.invokevirtual 163, 3) := by decide +kernel
theorem dX9_buyer_5 : decode cX9_buyer 5 = .ok (.ifCond .ne 12, 3) := by decide +kernel
theorem dX9_buyer_8 : decode cX9_buyer 8 = .ok (.aload_n 0, 1) := by decide +kernel
theorem dX9_buyer_9 : decode cX9_buyer 9 = .ok (.iload 4, 2) := by decide +kernel
theorem dX9_buyer_11 : decode cX9_buyer 11 = .ok (.invokevirtual 170, 3) := by decide +kernel
theorem dX9_buyer_14 : decode cX9_buyer 14 = .ok (.ifCond .eq 5, 3) := by decide +kernel
theorem dX9_buyer_17 : decode cX9_buyer 17 = .ok (.iconst (-1), 1) := by decide +kernel
theorem dX9_buyer_18 : decode cX9_buyer 18 = .ok (.ireturn, 1) := by decide +kernel
theorem dX9_buyer_19 : decode cX9_buyer 19 = .ok (.iload_n 1, 1) := by decide +kernel
theorem dX9_buyer_20 : decode cX9_buyer 20 = .ok (.i2l, 1) := by decide +kernel
theorem dX9_buyer_21 : decode cX9_buyer 21 = .ok (.lconst 0, 1) := by decide +kernel
theorem dX9_buyer_22 : decode cX9_buyer 22 = .ok (.ldc2_w 107, 3) := by decide +kernel
theorem dX9_buyer_25 : decode cX9_buyer 25 = .ok (.invokestatic 87, 3) := by decide +kernel
theorem dX9_buyer_28 : decode cX9_buyer 28 = .ok (.ifCond .eq 15, 3) := by decide +kernel
theorem dX9_buyer_31 : decode cX9_buyer 31 = .ok (.iload_n 3, 1) := by decide +kernel
theorem dX9_buyer_32 : decode cX9_buyer 32 = .ok (.i2l, 1) := by decide +kernel
theorem dX9_buyer_33 : decode cX9_buyer 33 = .ok (.lconst 0, 1) := by decide +kernel
theorem dX9_buyer_34 : decode cX9_buyer 34 = .ok (.ldc2_w 186, 3) := by decide +kernel
theorem dX9_buyer_37 : decode cX9_buyer 37 = .ok (.invokestatic 87, 3) := by decide +kernel
theorem dX9_buyer_40 : decode cX9_buyer 40 = .ok (.ifCond .ne 6, 3) := by decide +kernel
theorem dX9_buyer_43 : decode cX9_buyer 43 = .ok (.bipush (-2), 2) := by decide +kernel
theorem dX9_buyer_45 : decode cX9_buyer 45 = .ok (.ireturn, 1) := by decide +kernel
theorem dX9_buyer_46 : decode cX9_buyer 46 = .ok (.aload_n 0, 1) := by decide +kernel
theorem dX9_buyer_47 : decode cX9_buyer 47 = .ok (.getfield 153, 3) := by decide +kernel
theorem dX9_buyer_50 : decode cX9_buyer 50 = .ok (.bipush 10, 2) := by decide +kernel
theorem dX9_buyer_52 : decode cX9_buyer 52 = .ok (.if_icmp .ne 6, 3) := by decide +kernel
theorem dX9_buyer_55 : decode cX9_buyer 55 = .ok (.bipush (-4), 2) := by decide +kernel
theorem dX9_buyer_57 : decode cX9_buyer 57 = .ok (.ireturn, 1) := by decide +kernel
theorem dX9_buyer_58 : decode cX9_buyer 58 = .ok (.aload_n 0, 1) := by decide +kernel
theorem dX9_buyer_59 : decode cX9_buyer 59 = .ok (.getfield 28, 3) := by decide +kernel
theorem dX9_buyer_62 : decode cX9_buyer 62 = .ok (.aload_n 0, 1) := by decide +kernel
theorem dX9_buyer_63 : decode cX9_buyer 63 = .ok (.getfield 153, 3) := by decide +kernel
theorem dX9_buyer_66 : decode cX9_buyer 66 = .ok (.iload_n 1, 1) := by decide +kernel
theorem dX9_buyer_67 : decode cX9_buyer 67 = .ok (.iastore, 1) := by decide +kernel
theorem dX9_buyer_68 : decode cX9_buyer 68 = .ok (.aload_n 0, 1) := by decide +kernel
theorem dX9_buyer_69 : decode cX9_buyer 69 = .ok (.getfield 31, 3) := by decide +kernel
theorem dX9_buyer_72 : decode cX9_buyer 72 = .ok (.aload_n 0, 1) := by decide +kernel
theorem dX9_buyer_73 : decode cX9_buyer 73 = .ok (.getfield 153, 3) := by decide +kernel
theorem dX9_buyer_76 : decode cX9_buyer 76 = .ok (.iload_n 2, 1) := by decide +kernel
theorem dX9_buyer_77 : decode cX9_buyer 77 = .ok (.iastore, 1) := by decide +kernel
theorem dX9_buyer_78 : decode cX9_buyer 78 = .ok (.aload_n 0, 1) := by decide +kernel
theorem dX9_buyer_79 : decode cX9_buyer 79 = .ok (.getfield 34, 3) := by decide +kernel
theorem dX9_buyer_82 : decode cX9_buyer 82 = .ok (.aload_n 0, 1) := by decide +kernel
theorem dX9_buyer_83 : decode cX9_buyer 83 = .ok (.getfield 153, 3) := by decide +kernel
theorem dX9_buyer_86 : decode cX9_buyer 86 = .ok (.iload_n 3, 1) := by decide +kernel
theorem dX9_buyer_87 : decode cX9_buyer 87 = .ok (.iastore, 1) := by decide +kernel
theorem dX9_buyer_88 : decode cX9_buyer 88 = .ok (.aload_n 0, 1) := by decide +kernel
theorem dX9_buyer_89 : decode cX9_buyer 89 = .ok (.getfield 37, 3) := by decide +kernel
theorem dX9_buyer_92 : decode cX9_buyer 92 = .ok (.aload_n 0, 1) := by decide +kernel
theorem dX9_buyer_93 : decode cX9_buyer 93 = .ok (.getfield 153, 3) := by decide +kernel
theorem dX9_buyer_96 : decode cX9_buyer 96 = .ok (.iload 4, 2) := by decide +kernel
theorem dX9_buyer_98 : decode cX9_buyer 98 = .ok (.iastore, 1) := by decide +kernel
theorem dX9_buyer_99 : decode cX9_buyer 99 = .ok (.aload_n 0, 1) := by decide +kernel
theorem dX9_buyer_100 : decode cX9_buyer 100 = .ok (.dup, 1) := by decide +kernel
theorem dX9_buyer_101 : decode cX9_buyer 101 = .ok (.getfield 153, 3) := by decide +kernel
theorem dX9_buyer_104 : decode cX9_buyer 104 = .ok (.iconst 1, 1) := by decide +kernel
theorem dX9_buyer_105 : decode cX9_buyer 105 = .ok (.iadd, 1) := by decide +kernel
theorem dX9_buyer_106 : decode cX9_buyer 106 = .ok (.putfield 153, 3) := by decide +kernel
theorem dX9_buyer_109 : decode cX9_buyer 109 = .ok (.aload_n 0, 1) := by decide +kernel
theorem dX9_buyer_110 : decode cX9_buyer 110 = .ok (.getfield 153, 3) := by decide +kernel
theorem dX9_buyer_113 : decode cX9_buyer 113 = .ok (.iconst 1, 1) := by decide +kernel
theorem dX9_buyer_114 : decode cX9_buyer 114 = .ok (.isub, 1) := by decide +kernel
theorem dX9_buyer_115 : decode cX9_buyer 115 = .ok (.ireturn, 1) := by decide +kernel
theorem dX9_ofBuyer_0 : decode cX9_ofBuyer 0 = .ok (.aload_n 0, 1) := by decide +kernel
theorem dX9_ofBuyer_1 : decode cX9_ofBuyer 1 = .ok (.iload_n 1, 1) := by decide +kernel
theorem dX9_ofBuyer_2 : decode cX9_ofBuyer 2 = .ok (.invokevirtual 188, 3) := by decide +kernel
theorem dX9_ofBuyer_5 : decode cX9_ofBuyer 5 = .ok (.ifCond .eq 5, 3) := by decide +kernel
theorem dX9_ofBuyer_8 : decode cX9_ofBuyer 8 = .ok (.iconst (-1), 1) := by decide +kernel
theorem dX9_ofBuyer_9 : decode cX9_ofBuyer 9 = .ok (.ireturn, 1) := by decide +kernel
theorem dX9_ofBuyer_10 : decode cX9_ofBuyer 10 = .ok (.iload_n 2, 1) := by decide +kernel
theorem dX9_ofBuyer_11 : decode cX9_ofBuyer 11 = .ok (.tableswitch 57 0 3 #[29, 36, 43, 50], 29) := by decide +kernel
theorem dX9_ofBuyer_40 : decode cX9_ofBuyer 40 = .ok (.aload_n 0, 1) := by decide +kernel
theorem dX9_ofBuyer_41 : decode cX9_ofBuyer 41 = .ok (.getfield 28, 3) := by decide +kernel
theorem dX9_ofBuyer_44 : decode cX9_ofBuyer 44 = .ok (.iload_n 1, 1) := by decide +kernel
theorem dX9_ofBuyer_45 : decode cX9_ofBuyer 45 = .ok (.iaload, 1) := by decide +kernel
theorem dX9_ofBuyer_46 : decode cX9_ofBuyer 46 = .ok (.ireturn, 1) := by decide +kernel
theorem dX9_ofBuyer_47 : decode cX9_ofBuyer 47 = .ok (.aload_n 0, 1) := by decide +kernel
theorem dX9_ofBuyer_48 : decode cX9_ofBuyer 48 = .ok (.getfield 31, 3) := by decide +kernel
theorem dX9_ofBuyer_51 : decode cX9_ofBuyer 51 = .ok (.iload_n 1, 1) := by decide +kernel
theorem dX9_ofBuyer_52 : decode cX9_ofBuyer 52 = .ok (.iaload, 1) := by decide +kernel
theorem dX9_ofBuyer_53 : decode cX9_ofBuyer 53 = .ok (.ireturn, 1) := by decide +kernel
theorem dX9_ofBuyer_54 : decode cX9_ofBuyer 54 = .ok (.aload_n 0, 1) := by decide +kernel
theorem dX9_ofBuyer_55 : decode cX9_ofBuyer 55 = .ok (.getfield 34, 3) := by decide +kernel
theorem dX9_ofBuyer_58 : decode cX9_ofBuyer 58 = .ok (.iload_n 1, 1) := by decide +kernel
theorem dX9_ofBuyer_59 : decode cX9_ofBuyer 59 = .ok (.iaload, 1) := by decide +kernel
theorem dX9_ofBuyer_60 : decode cX9_ofBuyer 60 = .ok (.ireturn, 1) := by decide +kernel
theorem dX9_ofBuyer_61 : decode cX9_ofBuyer 61 = .ok (.aload_n 0, 1) := by decide +kernel
theorem dX9_ofBuyer_62 : decode cX9_ofBuyer 62 = .ok (.getfield 37, 3) := by decide +kernel
theorem dX9_ofBuyer_65 : decode cX9_ofBuyer 65 = .ok (.iload_n 1, 1) := by decide +kernel
theorem dX9_ofBuyer_66 : decode cX9_ofBuyer 66 = .ok (.iaload, 1) := by decide +kernel
theorem dX9_ofBuyer_67 : decode cX9_ofBuyer 67 = .ok (.ireturn, 1) := by decide +kernel
theorem dX9_ofBuyer_68 : decode cX9_ofBuyer 68 = .ok (.bipush (-2), 2) := by decide +kernel
theorem dX9_ofBuyer_70 : decode cX9_ofBuyer 70 = .ok (.ireturn, 1) := by decide +kernel
theorem dX9_layAll_0 : decode cX9_layAll 0 = .ok (.iconst 0, 1) := by decide +kernel
theorem dX9_layAll_1 : decode cX9_layAll 1 = .ok (.istore_n 1, 1) := by decide +kernel
theorem dX9_layAll_2 : decode cX9_layAll 2 = .ok (.iload_n 1, 1) := by decide +kernel
theorem dX9_layAll_3 : decode cX9_layAll 3 = .ok (.aload_n 0, 1) := by decide +kernel
theorem dX9_layAll_4 : decode cX9_layAll 4 = .ok (.getfield 116, 3) := by decide +kernel
theorem dX9_layAll_7 : decode cX9_layAll 7 = .ok (.if_icmp .ge 21, 3) := by decide +kernel
theorem dX9_layAll_10 : decode cX9_layAll 10 = .ok (.aload_n 0, 1) := by decide +kernel
theorem dX9_layAll_11 : decode cX9_layAll 11 = .ok (.getfield 40, 3) := by decide +kernel
theorem dX9_layAll_14 : decode cX9_layAll 14 = .ok (.iload_n 1, 1) := by decide +kernel
theorem dX9_layAll_15 : decode cX9_layAll 15 = .ok (.aload_n 0, 1) := by decide +kernel
theorem dX9_layAll_16 : decode cX9_layAll 16 = .ok (.getfield 7, 3) := by decide +kernel
theorem dX9_layAll_19 : decode cX9_layAll 19 = .ok (.iload_n 1, 1) := by decide +kernel
theorem dX9_layAll_20 : decode cX9_layAll 20 = .ok (.iaload, 1) := by decide +kernel
theorem dX9_layAll_21 : decode cX9_layAll 21 = .ok (.iastore, 1) := by decide +kernel
theorem dX9_layAll_22 : decode cX9_layAll 22 = .ok (.iinc 1 1, 3) := by decide +kernel
theorem dX9_layAll_25 : decode cX9_layAll 25 = .ok (.goto (-23), 3) := by decide +kernel
theorem dX9_layAll_28 : decode cX9_layAll 28 = .ok (.return_, 1) := by decide +kernel
theorem dX9_hasDearer_0 : decode cX9_hasDearer 0 = .ok (.iconst 0, 1) := by decide +kernel
theorem dX9_hasDearer_1 : decode cX9_hasDearer 1 = .ok (.istore_n 3, 1) := by decide +kernel
theorem dX9_hasDearer_2 : decode cX9_hasDearer 2 = .ok (.iconst 0, 1) := by decide +kernel
theorem dX9_hasDearer_3 : decode cX9_hasDearer 3 = .ok (.istore 4, 2) := by decide +kernel
theorem dX9_hasDearer_5 : decode cX9_hasDearer 5 = .ok (.iload 4, 2) := by decide +kernel
theorem dX9_hasDearer_7 : decode cX9_hasDearer 7 = .ok (.aload_n 0, 1) := by decide +kernel
theorem dX9_hasDearer_8 : decode cX9_hasDearer 8 = .ok (.getfield 116, 3) := by decide +kernel
theorem dX9_hasDearer_11 : decode cX9_hasDearer 11 = .ok (.if_icmp .ge 45, 3) := by decide +kernel
theorem dX9_hasDearer_14 : decode cX9_hasDearer 14 = .ok (.iload_n 3, 1) := by decide +kernel
theorem dX9_hasDearer_15 : decode cX9_hasDearer 15 = .ok (.ifCond .ne 29, 3) := by decide +kernel
theorem dX9_hasDearer_18 : decode cX9_hasDearer 18 = .ok (.aload_n 0, 1) := by decide +kernel
theorem dX9_hasDearer_19 : decode cX9_hasDearer 19 = .ok (.getfield 40, 3) := by decide +kernel
theorem dX9_hasDearer_22 : decode cX9_hasDearer 22 = .ok (.iload 4, 2) := by decide +kernel
theorem dX9_hasDearer_24 : decode cX9_hasDearer 24 = .ok (.iaload, 1) := by decide +kernel
theorem dX9_hasDearer_25 : decode cX9_hasDearer 25 = .ok (.ifCond .le 23, 3) := by decide +kernel
theorem dX9_hasDearer_28 : decode cX9_hasDearer 28 = .ok (.aload_n 0, 1) := by decide +kernel
theorem dX9_hasDearer_29 : decode cX9_hasDearer 29 = .ok (.iload 4, 2) := by decide +kernel
theorem dX9_hasDearer_31 : decode cX9_hasDearer 31 = .ok (.iload_n 2, 1) := by decide +kernel
theorem dX9_hasDearer_32 : decode cX9_hasDearer 32 = .ok (.invokevirtual 180, 3) := by decide +kernel
theorem dX9_hasDearer_35 : decode cX9_hasDearer 35 = .ok (.aload_n 0, 1) := by decide +kernel
theorem dX9_hasDearer_36 : decode cX9_hasDearer 36 = .ok (.iload_n 1, 1) := by decide +kernel
theorem dX9_hasDearer_37 : decode cX9_hasDearer 37 = .ok (.iload_n 2, 1) := by decide +kernel
theorem dX9_hasDearer_38 : decode cX9_hasDearer 38 = .ok (.invokevirtual 180, 3) := by decide +kernel
theorem dX9_hasDearer_41 : decode cX9_hasDearer 41 = .ok (.if_icmp .le 7, 3) := by decide +kernel
theorem dX9_hasDearer_44 : decode cX9_hasDearer 44 = .ok (.iconst 1, 1) := by decide +kernel
theorem dX9_hasDearer_45 : decode cX9_hasDearer 45 = .ok (.goto 4, 3) := by decide +kernel
theorem dX9_hasDearer_48 : decode cX9_hasDearer 48 = .ok (.iconst 0, 1) := by decide +kernel
theorem dX9_hasDearer_49 : decode cX9_hasDearer 49 = .ok (.istore_n 3, 1) := by decide +kernel
theorem dX9_hasDearer_50 : decode cX9_hasDearer 50 = .ok (.iinc 4 1, 3) := by decide +kernel
theorem dX9_hasDearer_53 : decode cX9_hasDearer 53 = .ok (.goto (-48), 3) := by decide +kernel
theorem dX9_hasDearer_56 : decode cX9_hasDearer 56 = .ok (.iload_n 3, 1) := by decide +kernel
theorem dX9_hasDearer_57 : decode cX9_hasDearer 57 = .ok (.ireturn, 1) := by decide +kernel
theorem dX9_worthOf_0 : decode cX9_worthOf 0 = .ok (.aload_n 0, 1) := by decide +kernel
theorem dX9_worthOf_1 : decode cX9_worthOf 1 = .ok (.getfield 34, 3) := by decide +kernel
theorem dX9_worthOf_4 : decode cX9_worthOf 4 = .ok (.iload_n 1, 1) := by decide +kernel
theorem dX9_worthOf_5 : decode cX9_worthOf 5 = .ok (.iaload, 1) := by decide +kernel
theorem dX9_worthOf_6 : decode cX9_worthOf 6 = .ok (.bipush 9, 2) := by decide +kernel
theorem dX9_worthOf_8 : decode cX9_worthOf 8 = .ok (.isub, 1) := by decide +kernel
theorem dX9_worthOf_9 : decode cX9_worthOf 9 = .ok (.aload_n 0, 1) := by decide +kernel
theorem dX9_worthOf_10 : decode cX9_worthOf 10 = .ok (.iload_n 2, 1) := by decide +kernel
theorem dX9_worthOf_11 : decode cX9_worthOf 11 = .ok (.iload_n 3, 1) := by decide +kernel
theorem dX9_worthOf_12 : decode cX9_worthOf 12 = .ok (.invokevirtual 173, 3) := by decide +kernel
theorem dX9_worthOf_15 : decode cX9_worthOf 15 = .ok (.iadd, 1) := by decide +kernel
theorem dX9_worthOf_16 : decode cX9_worthOf 16 = .ok (.iload_n 2, 1) := by decide +kernel
theorem dX9_worthOf_17 : decode cX9_worthOf 17 = .ok (.aload_n 0, 1) := by decide +kernel
theorem dX9_worthOf_18 : decode cX9_worthOf 18 = .ok (.getfield 31, 3) := by decide +kernel
theorem dX9_worthOf_21 : decode cX9_worthOf 21 = .ok (.iload_n 1, 1) := by decide +kernel
theorem dX9_worthOf_22 : decode cX9_worthOf 22 = .ok (.iaload, 1) := by decide +kernel
theorem dX9_worthOf_23 : decode cX9_worthOf 23 = .ok (.if_icmp .ne 7, 3) := by decide +kernel
theorem dX9_worthOf_26 : decode cX9_worthOf 26 = .ok (.iconst 0, 1) := by decide +kernel
theorem dX9_worthOf_27 : decode cX9_worthOf 27 = .ok (.goto 4, 3) := by decide +kernel
theorem dX9_worthOf_30 : decode cX9_worthOf 30 = .ok (.iconst 2, 1) := by decide +kernel
theorem dX9_worthOf_31 : decode cX9_worthOf 31 = .ok (.isub, 1) := by decide +kernel
theorem dX9_worthOf_32 : decode cX9_worthOf 32 = .ok (.istore 4, 2) := by decide +kernel
theorem dX9_worthOf_34 : decode cX9_worthOf 34 = .ok (.aload_n 0, 1) := by decide +kernel
theorem dX9_worthOf_35 : decode cX9_worthOf 35 = .ok (.getfield 159, 3) := by decide +kernel
theorem dX9_worthOf_38 : decode cX9_worthOf 38 = .ok (.ifCond .eq 19, 3) := by decide +kernel
theorem dX9_worthOf_41 : decode cX9_worthOf 41 = .ok (.aload_n 0, 1) := by decide +kernel
theorem dX9_worthOf_42 : decode cX9_worthOf 42 = .ok (.iload_n 2, 1) := by decide +kernel
theorem dX9_worthOf_43 : decode cX9_worthOf 43 = .ok (.iload_n 3, 1) := by decide +kernel
theorem dX9_worthOf_44 : decode cX9_worthOf 44 = .ok (.invokevirtual 191, 3) := by decide +kernel
theorem dX9_worthOf_47 : decode cX9_worthOf 47 = .ok (.ifCond .eq 10, 3) := by decide +kernel
theorem dX9_worthOf_50 : decode cX9_worthOf 50 = .ok (.iload 4, 2) := by decide +kernel
theorem dX9_worthOf_52 : decode cX9_worthOf 52 = .ok (.iconst 1, 1) := by decide +kernel
theorem dX9_worthOf_53 : decode cX9_worthOf 53 = .ok (.iadd, 1) := by decide +kernel
theorem dX9_worthOf_54 : decode cX9_worthOf 54 = .ok (.goto 5, 3) := by decide +kernel
theorem dX9_worthOf_57 : decode cX9_worthOf 57 = .ok (.iload 4, 2) := by decide +kernel
theorem dX9_worthOf_59 : decode cX9_worthOf 59 = .ok (.ireturn, 1) := by decide +kernel
theorem dX9_worth_0 : decode cX9_worth 0 = .ok (.aload_n 0, 1) := by decide +kernel
theorem dX9_worth_1 : decode cX9_worth 1 = .ok (.iload_n 1, 1) := by decide +kernel
theorem dX9_worth_2 : decode cX9_worth 2 = .ok (.invokevirtual 188, 3) := by decide +kernel
theorem dX9_worth_5 : decode cX9_worth 5 = .ok (.ifCond .ne 19, 3) := by decide +kernel
theorem dX9_worth_8 : decode cX9_worth 8 = .ok (.aload_n 0, 1) := by decide +kernel
theorem dX9_worth_9 : decode cX9_worth 9 = .ok (.iload_n 2, 1) := by decide +kernel
theorem dX9_worth_10 : decode cX9_worth 10 = .ok (.invokevirtual 163, 3) := by decide +kernel
theorem dX9_worth_13 : decode cX9_worth 13 = .ok (.ifCond .ne 11, 3) := by decide +kernel
theorem dX9_worth_16 : decode cX9_worth 16 = .ok (.aload_n 0, 1) := by decide +kernel
theorem dX9_worth_17 : decode cX9_worth 17 = .ok (.iload_n 3, 1) := by decide +kernel
theorem dX9_worth_18 : decode cX9_worth 18 = .ok (.invokevirtual 170, 3) := by decide +kernel
theorem dX9_worth_21 : decode cX9_worth 21 = .ok (.ifCond .eq 5, 3) := by decide +kernel
theorem dX9_worth_24 : decode cX9_worth 24 = .ok (.iconst (-1), 1) := by decide +kernel
theorem dX9_worth_25 : decode cX9_worth 25 = .ok (.ireturn, 1) := by decide +kernel
theorem dX9_worth_26 : decode cX9_worth 26 = .ok (.aload_n 0, 1) := by decide +kernel
theorem dX9_worth_27 : decode cX9_worth 27 = .ok (.invokevirtual 194, 3) := by decide +kernel
theorem dX9_worth_30 : decode cX9_worth 30 = .ok (.aload_n 0, 1) := by decide +kernel
theorem dX9_worth_31 : decode cX9_worth 31 = .ok (.iload_n 1, 1) := by decide +kernel
theorem dX9_worth_32 : decode cX9_worth 32 = .ok (.iload_n 2, 1) := by decide +kernel
theorem dX9_worth_33 : decode cX9_worth 33 = .ok (.iload_n 3, 1) := by decide +kernel
theorem dX9_worth_34 : decode cX9_worth 34 = .ok (.invokevirtual 197, 3) := by decide +kernel
theorem dX9_worth_37 : decode cX9_worth 37 = .ok (.ireturn, 1) := by decide +kernel
theorem dX9_gainOf_0 : decode cX9_gainOf 0 = .ok (.aload_n 0, 1) := by decide +kernel
theorem dX9_gainOf_1 : decode cX9_gainOf 1 = .ok (.iload_n 1, 1) := by decide +kernel
theorem dX9_gainOf_2 : decode cX9_gainOf 2 = .ok (.iload_n 2, 1) := by decide +kernel
theorem dX9_gainOf_3 : decode cX9_gainOf 3 = .ok (.iload_n 3, 1) := by decide +kernel
theorem dX9_gainOf_4 : decode cX9_gainOf 4 = .ok (.invokevirtual 197, 3) := by decide +kernel
theorem dX9_gainOf_7 : decode cX9_gainOf 7 = .ok (.aload_n 0, 1) := by decide +kernel
theorem dX9_gainOf_8 : decode cX9_gainOf 8 = .ok (.iload_n 2, 1) := by decide +kernel
theorem dX9_gainOf_9 : decode cX9_gainOf 9 = .ok (.iload_n 3, 1) := by decide +kernel
theorem dX9_gainOf_10 : decode cX9_gainOf 10 = .ok (.invokevirtual 180, 3) := by decide +kernel
theorem dX9_gainOf_13 : decode cX9_gainOf 13 = .ok (.isub, 1) := by decide +kernel
theorem dX9_gainOf_14 : decode cX9_gainOf 14 = .ok (.istore 4, 2) := by decide +kernel
theorem dX9_gainOf_16 : decode cX9_gainOf 16 = .ok (.aload_n 0, 1) := by decide +kernel
theorem dX9_gainOf_17 : decode cX9_gainOf 17 = .ok (.getfield 40, 3) := by decide +kernel
theorem dX9_gainOf_20 : decode cX9_gainOf 20 = .ok (.iload_n 2, 1) := by decide +kernel
theorem dX9_gainOf_21 : decode cX9_gainOf 21 = .ok (.iaload, 1) := by decide +kernel
theorem dX9_gainOf_22 : decode cX9_gainOf 22 = .ok (.ifCond .le 13, 3) := by decide +kernel
theorem dX9_gainOf_25 : decode cX9_gainOf 25 = .ok (.iload 4, 2) := by decide +kernel
theorem dX9_gainOf_27 : decode cX9_gainOf 27 = .ok (.ifCond .lt 8, 3) := by decide +kernel
theorem dX9_gainOf_30 : decode cX9_gainOf 30 = .ok (.iload 4, 2) := by decide +kernel
theorem dX9_gainOf_32 : decode cX9_gainOf 32 = .ok (.goto 5, 3) := by decide +kernel
theorem dX9_gainOf_35 : decode cX9_gainOf 35 = .ok (.bipush (-9), 2) := by decide +kernel
theorem dX9_gainOf_37 : decode cX9_gainOf 37 = .ok (.ireturn, 1) := by decide +kernel
theorem dX9_isCheaperNext_0 : decode cX9_isCheaperNext 0 = .ok (.iload_n 2, 1) := by decide +kernel
theorem dX9_isCheaperNext_1 : decode cX9_isCheaperNext 1 = .ok (.iconst 1, 1) := by decide +kernel
theorem dX9_isCheaperNext_2 : decode cX9_isCheaperNext 2 = .ok (.iadd, 1) := by decide +kernel
theorem dX9_isCheaperNext_3 : decode cX9_isCheaperNext 3 = .ok (.aload_n 0, 1) := by decide +kernel
theorem dX9_isCheaperNext_4 : decode cX9_isCheaperNext 4 = .ok (.getfield 119, 3) := by decide +kernel
theorem dX9_isCheaperNext_7 : decode cX9_isCheaperNext 7 = .ok (.if_icmp .ge 24, 3) := by decide +kernel
theorem dX9_isCheaperNext_10 : decode cX9_isCheaperNext 10 = .ok (.aload_n 0, 1) := by decide +kernel
theorem dX9_isCheaperNext_11 : decode cX9_isCheaperNext 11 = .ok (.iload_n 1, 1) := by decide +kernel
theorem dX9_isCheaperNext_12 : decode cX9_isCheaperNext 12 = .ok (.iload_n 2, 1) := by decide +kernel
theorem dX9_isCheaperNext_13 : decode cX9_isCheaperNext 13 = .ok (.iconst 1, 1) := by decide +kernel
theorem dX9_isCheaperNext_14 : decode cX9_isCheaperNext 14 = .ok (.iadd, 1) := by decide +kernel
theorem dX9_isCheaperNext_15 : decode cX9_isCheaperNext 15 = .ok (.invokevirtual 180, 3) := by decide +kernel
theorem dX9_isCheaperNext_18 : decode cX9_isCheaperNext 18 = .ok (.aload_n 0, 1) := by decide +kernel
theorem dX9_isCheaperNext_19 : decode cX9_isCheaperNext 19 = .ok (.iload_n 1, 1) := by decide +kernel
theorem dX9_isCheaperNext_20 : decode cX9_isCheaperNext 20 = .ok (.iload_n 2, 1) := by decide +kernel
theorem dX9_isCheaperNext_21 : decode cX9_isCheaperNext 21 = .ok (.invokevirtual 180, 3) := by decide +kernel
theorem dX9_isCheaperNext_24 : decode cX9_isCheaperNext 24 = .ok (.if_icmp .ge 7, 3) := by decide +kernel
theorem dX9_isCheaperNext_27 : decode cX9_isCheaperNext 27 = .ok (.iconst 1, 1) := by decide +kernel
theorem dX9_isCheaperNext_28 : decode cX9_isCheaperNext 28 = .ok (.goto 4, 3) := by decide +kernel
theorem dX9_isCheaperNext_31 : decode cX9_isCheaperNext 31 = .ok (.iconst 0, 1) := by decide +kernel
theorem dX9_isCheaperNext_32 : decode cX9_isCheaperNext 32 = .ok (.ireturn, 1) := by decide +kernel
theorem dX9_wanted_0 : decode cX9_wanted 0 = .ok (.aload_n 0, 1) := by decide +kernel
theorem dX9_wanted_1 : decode cX9_wanted 1 = .ok (.getfield 31, 3) := by decide +kernel
theorem dX9_wanted_4 : decode cX9_wanted 4 = .ok (.iload_n 1, 1) := by decide +kernel
theorem dX9_wanted_5 : decode cX9_wanted 5 = .ok (.iaload, 1) := by decide +kernel
theorem dX9_wanted_6 : decode cX9_wanted 6 = .ok (.istore_n 3, 1) := by decide +kernel
theorem dX9_wanted_7 : decode cX9_wanted 7 = .ok (.aload_n 0, 1) := by decide +kernel
theorem dX9_wanted_8 : decode cX9_wanted 8 = .ok (.getfield 28, 3) := by decide +kernel
theorem dX9_wanted_11 : decode cX9_wanted 11 = .ok (.iload_n 1, 1) := by decide +kernel
theorem dX9_wanted_12 : decode cX9_wanted 12 = .ok (.iaload, 1) := by decide +kernel
theorem dX9_wanted_13 : decode cX9_wanted 13 = .ok (.iconst 2, 1) := by decide +kernel
theorem dX9_wanted_14 : decode cX9_wanted 14 = .ok (.if_icmp .ne 15, 3) := by decide +kernel
theorem dX9_wanted_17 : decode cX9_wanted 17 = .ok (.aload_n 0, 1) := by decide +kernel
theorem dX9_wanted_18 : decode cX9_wanted 18 = .ok (.iload_n 3, 1) := by decide +kernel
theorem dX9_wanted_19 : decode cX9_wanted 19 = .ok (.iload_n 2, 1) := by decide +kernel
theorem dX9_wanted_20 : decode cX9_wanted 20 = .ok (.invokevirtual 201, 3) := by decide +kernel
theorem dX9_wanted_23 : decode cX9_wanted 23 = .ok (.ifCond .eq 6, 3) := by decide +kernel
theorem dX9_wanted_26 : decode cX9_wanted 26 = .ok (.bipush (-9), 2) := by decide +kernel
theorem dX9_wanted_28 : decode cX9_wanted 28 = .ok (.ireturn, 1) := by decide +kernel
theorem dX9_wanted_29 : decode cX9_wanted 29 = .ok (.aload_n 0, 1) := by decide +kernel
theorem dX9_wanted_30 : decode cX9_wanted 30 = .ok (.iload_n 1, 1) := by decide +kernel
theorem dX9_wanted_31 : decode cX9_wanted 31 = .ok (.iload_n 3, 1) := by decide +kernel
theorem dX9_wanted_32 : decode cX9_wanted 32 = .ok (.iload_n 2, 1) := by decide +kernel
theorem dX9_wanted_33 : decode cX9_wanted 33 = .ok (.invokevirtual 204, 3) := by decide +kernel
theorem dX9_wanted_36 : decode cX9_wanted 36 = .ok (.ifCond .lt 5, 3) := by decide +kernel
theorem dX9_wanted_39 : decode cX9_wanted 39 = .ok (.iload_n 3, 1) := by decide +kernel
theorem dX9_wanted_40 : decode cX9_wanted 40 = .ok (.ireturn, 1) := by decide +kernel
theorem dX9_wanted_41 : decode cX9_wanted 41 = .ok (.bipush (-9), 2) := by decide +kernel
theorem dX9_wanted_43 : decode cX9_wanted 43 = .ok (.istore 4, 2) := by decide +kernel
theorem dX9_wanted_45 : decode cX9_wanted 45 = .ok (.bipush (-9), 2) := by decide +kernel
theorem dX9_wanted_47 : decode cX9_wanted 47 = .ok (.istore 5, 2) := by decide +kernel
theorem dX9_wanted_49 : decode cX9_wanted 49 = .ok (.iconst 0, 1) := by decide +kernel
theorem dX9_wanted_50 : decode cX9_wanted 50 = .ok (.istore 6, 2) := by decide +kernel
theorem dX9_wanted_52 : decode cX9_wanted 52 = .ok (.iload 6, 2) := by decide +kernel
theorem dX9_wanted_54 : decode cX9_wanted 54 = .ok (.aload_n 0, 1) := by decide +kernel
theorem dX9_wanted_55 : decode cX9_wanted 55 = .ok (.getfield 116, 3) := by decide +kernel
theorem dX9_wanted_58 : decode cX9_wanted 58 = .ok (.if_icmp .ge 64, 3) := by decide +kernel
theorem dX9_wanted_61 : decode cX9_wanted 61 = .ok (.aload_n 0, 1) := by decide +kernel
theorem dX9_wanted_62 : decode cX9_wanted 62 = .ok (.getfield 28, 3) := by decide +kernel
theorem dX9_wanted_65 : decode cX9_wanted 65 = .ok (.iload_n 1, 1) := by decide +kernel
theorem dX9_wanted_66 : decode cX9_wanted 66 = .ok (.iaload, 1) := by decide +kernel
theorem dX9_wanted_67 : decode cX9_wanted 67 = .ok (.ifCond .le 55, 3) := by decide +kernel
theorem dX9_wanted_70 : decode cX9_wanted 70 = .ok (.iload 6, 2) := by decide +kernel
theorem dX9_wanted_72 : decode cX9_wanted 72 = .ok (.iload_n 3, 1) := by decide +kernel
theorem dX9_wanted_73 : decode cX9_wanted 73 = .ok (.if_icmp .ne 8, 3) := by decide +kernel
theorem dX9_wanted_76 : decode cX9_wanted 76 = .ok (.bipush (-9), 2) := by decide +kernel
theorem dX9_wanted_78 : decode cX9_wanted 78 = .ok (.goto 11, 3) := by decide +kernel
theorem dX9_wanted_81 : decode cX9_wanted 81 = .ok (.aload_n 0, 1) := by decide +kernel
theorem dX9_wanted_82 : decode cX9_wanted 82 = .ok (.iload_n 1, 1) := by decide +kernel
theorem dX9_wanted_83 : decode cX9_wanted 83 = .ok (.iload 6, 2) := by decide +kernel
theorem dX9_wanted_85 : decode cX9_wanted 85 = .ok (.iload_n 2, 1) := by decide +kernel
theorem dX9_wanted_86 : decode cX9_wanted 86 = .ok (.invokevirtual 204, 3) := by decide +kernel
theorem dX9_wanted_89 : decode cX9_wanted 89 = .ok (.istore 7, 2) := by decide +kernel
theorem dX9_wanted_91 : decode cX9_wanted 91 = .ok (.iload 7, 2) := by decide +kernel
theorem dX9_wanted_93 : decode cX9_wanted 93 = .ok (.iload 5, 2) := by decide +kernel
theorem dX9_wanted_95 : decode cX9_wanted 95 = .ok (.if_icmp .le 8, 3) := by decide +kernel
theorem dX9_wanted_98 : decode cX9_wanted 98 = .ok (.iload 6, 2) := by decide +kernel
theorem dX9_wanted_100 : decode cX9_wanted 100 = .ok (.goto 5, 3) := by decide +kernel
theorem dX9_wanted_103 : decode cX9_wanted 103 = .ok (.iload 4, 2) := by decide +kernel
theorem dX9_wanted_105 : decode cX9_wanted 105 = .ok (.istore 4, 2) := by decide +kernel
theorem dX9_wanted_107 : decode cX9_wanted 107 = .ok (.iload 5, 2) := by decide +kernel
theorem dX9_wanted_109 : decode cX9_wanted 109 = .ok (.iload 7, 2) := by decide +kernel
theorem dX9_wanted_111 : decode cX9_wanted 111 = .ok (.invokestatic 166, 3) := by decide +kernel
theorem dX9_wanted_114 : decode cX9_wanted 114 = .ok (.istore 5, 2) := by decide +kernel
theorem dX9_wanted_116 : decode cX9_wanted 116 = .ok (.iinc 6 1, 3) := by decide +kernel
theorem dX9_wanted_119 : decode cX9_wanted 119 = .ok (.goto (-67), 3) := by decide +kernel
theorem dX9_wanted_122 : decode cX9_wanted 122 = .ok (.iload 4, 2) := by decide +kernel
theorem dX9_wanted_124 : decode cX9_wanted 124 = .ok (.ireturn, 1) := by decide +kernel
theorem dX9_sell_0 : decode cX9_sell 0 = .ok (.aload_n 0, 1) := by decide +kernel
theorem dX9_sell_1 : decode cX9_sell 1 = .ok (.getfield 40, 3) := by decide +kernel
theorem dX9_sell_4 : decode cX9_sell 4 = .ok (.iload_n 1, 1) := by decide +kernel
theorem dX9_sell_5 : decode cX9_sell 5 = .ok (.dup2, 1) := by decide +kernel
theorem dX9_sell_6 : decode cX9_sell 6 = .ok (.iaload, 1) := by decide +kernel
theorem dX9_sell_7 : decode cX9_sell 7 = .ok (.iconst 1, 1) := by decide +kernel
theorem dX9_sell_8 : decode cX9_sell 8 = .ok (.isub, 1) := by decide +kernel
theorem dX9_sell_9 : decode cX9_sell 9 = .ok (.iastore, 1) := by decide +kernel
theorem dX9_sell_10 : decode cX9_sell 10 = .ok (.aload_n 0, 1) := by decide +kernel
theorem dX9_sell_11 : decode cX9_sell 11 = .ok (.dup, 1) := by decide +kernel
theorem dX9_sell_12 : decode cX9_sell 12 = .ok (.getfield 207, 3) := by decide +kernel
theorem dX9_sell_15 : decode cX9_sell 15 = .ok (.iload_n 3, 1) := by decide +kernel
theorem dX9_sell_16 : decode cX9_sell 16 = .ok (.iadd, 1) := by decide +kernel
theorem dX9_sell_17 : decode cX9_sell 17 = .ok (.putfield 207, 3) := by decide +kernel
theorem dX9_sell_20 : decode cX9_sell 20 = .ok (.aload_n 0, 1) := by decide +kernel
theorem dX9_sell_21 : decode cX9_sell 21 = .ok (.getfield 58, 3) := by decide +kernel
theorem dX9_sell_24 : decode cX9_sell 24 = .ok (.iload_n 1, 1) := by decide +kernel
theorem dX9_sell_25 : decode cX9_sell 25 = .ok (.dup2, 1) := by decide +kernel
theorem dX9_sell_26 : decode cX9_sell 26 = .ok (.iaload, 1) := by decide +kernel
theorem dX9_sell_27 : decode cX9_sell 27 = .ok (.iload_n 3, 1) := by decide +kernel
theorem dX9_sell_28 : decode cX9_sell 28 = .ok (.iadd, 1) := by decide +kernel
theorem dX9_sell_29 : decode cX9_sell 29 = .ok (.iastore, 1) := by decide +kernel
theorem dX9_sell_30 : decode cX9_sell 30 = .ok (.aload_n 0, 1) := by decide +kernel
theorem dX9_sell_31 : decode cX9_sell 31 = .ok (.getfield 55, 3) := by decide +kernel
theorem dX9_sell_34 : decode cX9_sell 34 = .ok (.iload_n 1, 1) := by decide +kernel
theorem dX9_sell_35 : decode cX9_sell 35 = .ok (.aload_n 0, 1) := by decide +kernel
theorem dX9_sell_36 : decode cX9_sell 36 = .ok (.getfield 40, 3) := by decide +kernel
theorem dX9_sell_39 : decode cX9_sell 39 = .ok (.iload_n 1, 1) := by decide +kernel
theorem dX9_sell_40 : decode cX9_sell 40 = .ok (.iaload, 1) := by decide +kernel
theorem dX9_sell_41 : decode cX9_sell 41 = .ok (.ifCond .ne 7, 3) := by decide +kernel
theorem dX9_sell_44 : decode cX9_sell 44 = .ok (.iload_n 2, 1) := by decide +kernel
theorem dX9_sell_45 : decode cX9_sell 45 = .ok (.goto 9, 3) := by decide +kernel
theorem dX9_sell_48 : decode cX9_sell 48 = .ok (.aload_n 0, 1) := by decide +kernel
theorem dX9_sell_49 : decode cX9_sell 49 = .ok (.getfield 55, 3) := by decide +kernel
theorem dX9_sell_52 : decode cX9_sell 52 = .ok (.iload_n 1, 1) := by decide +kernel
theorem dX9_sell_53 : decode cX9_sell 53 = .ok (.iaload, 1) := by decide +kernel
theorem dX9_sell_54 : decode cX9_sell 54 = .ok (.iastore, 1) := by decide +kernel
theorem dX9_sell_55 : decode cX9_sell 55 = .ok (.return_, 1) := by decide +kernel
theorem dX9_comes_0 : decode cX9_comes 0 = .ok (.aload_n 0, 1) := by decide +kernel
theorem dX9_comes_1 : decode cX9_comes 1 = .ok (.getfield 52, 3) := by decide +kernel
theorem dX9_comes_4 : decode cX9_comes 4 = .ok (.iload_n 1, 1) := by decide +kernel
theorem dX9_comes_5 : decode cX9_comes 5 = .ok (.dup2, 1) := by decide +kernel
theorem dX9_comes_6 : decode cX9_comes 6 = .ok (.iaload, 1) := by decide +kernel
theorem dX9_comes_7 : decode cX9_comes 7 = .ok (.iconst 1, 1) := by decide +kernel
theorem dX9_comes_8 : decode cX9_comes 8 = .ok (.iadd, 1) := by decide +kernel
theorem dX9_comes_9 : decode cX9_comes 9 = .ok (.iastore, 1) := by decide +kernel
theorem dX9_comes_10 : decode cX9_comes 10 = .ok (.aload_n 0, 1) := by decide +kernel
theorem dX9_comes_11 : decode cX9_comes 11 = .ok (.iload_n 1, 1) := by decide +kernel
theorem dX9_comes_12 : decode cX9_comes 12 = .ok (.iload_n 2, 1) := by decide +kernel
theorem dX9_comes_13 : decode cX9_comes 13 = .ok (.invokevirtual 210, 3) := by decide +kernel
theorem dX9_comes_16 : decode cX9_comes 16 = .ok (.istore_n 3, 1) := by decide +kernel
theorem dX9_comes_17 : decode cX9_comes 17 = .ok (.iload_n 3, 1) := by decide +kernel
theorem dX9_comes_18 : decode cX9_comes 18 = .ok (.ifCond .lt 41, 3) := by decide +kernel
theorem dX9_comes_21 : decode cX9_comes 21 = .ok (.aload_n 0, 1) := by decide +kernel
theorem dX9_comes_22 : decode cX9_comes 22 = .ok (.getfield 43, 3) := by decide +kernel
theorem dX9_comes_25 : decode cX9_comes 25 = .ok (.iload_n 1, 1) := by decide +kernel
theorem dX9_comes_26 : decode cX9_comes 26 = .ok (.iload_n 3, 1) := by decide +kernel
theorem dX9_comes_27 : decode cX9_comes 27 = .ok (.iastore, 1) := by decide +kernel
theorem dX9_comes_28 : decode cX9_comes 28 = .ok (.aload_n 0, 1) := by decide +kernel
theorem dX9_comes_29 : decode cX9_comes 29 = .ok (.getfield 46, 3) := by decide +kernel
theorem dX9_comes_32 : decode cX9_comes 32 = .ok (.iload_n 1, 1) := by decide +kernel
theorem dX9_comes_33 : decode cX9_comes 33 = .ok (.iload_n 2, 1) := by decide +kernel
theorem dX9_comes_34 : decode cX9_comes 34 = .ok (.iastore, 1) := by decide +kernel
theorem dX9_comes_35 : decode cX9_comes 35 = .ok (.aload_n 0, 1) := by decide +kernel
theorem dX9_comes_36 : decode cX9_comes 36 = .ok (.getfield 49, 3) := by decide +kernel
theorem dX9_comes_39 : decode cX9_comes 39 = .ok (.iload_n 1, 1) := by decide +kernel
theorem dX9_comes_40 : decode cX9_comes 40 = .ok (.aload_n 0, 1) := by decide +kernel
theorem dX9_comes_41 : decode cX9_comes 41 = .ok (.iload_n 3, 1) := by decide +kernel
theorem dX9_comes_42 : decode cX9_comes 42 = .ok (.iload_n 2, 1) := by decide +kernel
theorem dX9_comes_43 : decode cX9_comes 43 = .ok (.invokevirtual 180, 3) := by decide +kernel
theorem dX9_comes_46 : decode cX9_comes 46 = .ok (.iastore, 1) := by decide +kernel
theorem dX9_comes_47 : decode cX9_comes 47 = .ok (.aload_n 0, 1) := by decide +kernel
theorem dX9_comes_48 : decode cX9_comes 48 = .ok (.iload_n 3, 1) := by decide +kernel
theorem dX9_comes_49 : decode cX9_comes 49 = .ok (.iload_n 2, 1) := by decide +kernel
theorem dX9_comes_50 : decode cX9_comes 50 = .ok (.aload_n 0, 1) := by decide +kernel
theorem dX9_comes_51 : decode cX9_comes 51 = .ok (.iload_n 3, 1) := by decide +kernel
theorem dX9_comes_52 : decode cX9_comes 52 = .ok (.iload_n 2, 1) := by decide +kernel
theorem dX9_comes_53 : decode cX9_comes 53 = .ok (.invokevirtual 180, 3) := by decide +kernel
theorem dX9_comes_56 : decode cX9_comes 56 = .ok (.invokevirtual 213, 3) := by decide +kernel
theorem dX9_comes_59 : decode cX9_comes 59 = .ok (.return_, 1) := by decide +kernel
theorem dX9_goThrough_0 : decode cX9_goThrough 0 = .ok (.aload_n 0, 1) := by decide +kernel
theorem dX9_goThrough_1 : decode cX9_goThrough 1 = .ok (.invokevirtual 194, 3) := by decide +kernel
theorem dX9_goThrough_4 : decode cX9_goThrough 4 = .ok (.aload_n 0, 1) := by decide +kernel
theorem dX9_goThrough_5 : decode cX9_goThrough 5 = .ok (.iconst 0, 1) := by decide +kernel
theorem dX9_goThrough_6 : decode cX9_goThrough 6 = .ok (.putfield 207, 3) := by decide +kernel
theorem dX9_goThrough_9 : decode cX9_goThrough 9 = .ok (.iconst 0, 1) := by decide +kernel
theorem dX9_goThrough_10 : decode cX9_goThrough 10 = .ok (.istore 4, 2) := by decide +kernel
theorem dX9_goThrough_12 : decode cX9_goThrough 12 = .ok (.iload 4, 2) := by decide +kernel
theorem dX9_goThrough_14 : decode cX9_goThrough 14 = .ok (.aload_n 0, 1) := by decide +kernel
theorem dX9_goThrough_15 : decode cX9_goThrough 15 = .ok (.getfield 116, 3) := by decide +kernel
theorem dX9_goThrough_18 : decode cX9_goThrough 18 = .ok (.if_icmp .ge 26, 3) := by decide +kernel
theorem dX9_goThrough_21 : decode cX9_goThrough 21 = .ok (.aload_n 0, 1) := by decide +kernel
theorem dX9_goThrough_22 : decode cX9_goThrough 22 = .ok (.getfield 55, 3) := by decide +kernel
theorem dX9_goThrough_25 : decode cX9_goThrough 25 = .ok (.iload 4, 2) := by decide +kernel
theorem dX9_goThrough_27 : decode cX9_goThrough 27 = .ok (.bipush (-9), 2) := by decide +kernel
theorem dX9_goThrough_29 : decode cX9_goThrough 29 = .ok (.iastore, 1) := by decide +kernel
theorem dX9_goThrough_30 : decode cX9_goThrough 30 = .ok (.aload_n 0, 1) := by decide +kernel
theorem dX9_goThrough_31 : decode cX9_goThrough 31 = .ok (.getfield 58, 3) := by decide +kernel
theorem dX9_goThrough_34 : decode cX9_goThrough 34 = .ok (.iload 4, 2) := by decide +kernel
theorem dX9_goThrough_36 : decode cX9_goThrough 36 = .ok (.iconst 0, 1) := by decide +kernel
theorem dX9_goThrough_37 : decode cX9_goThrough 37 = .ok (.iastore, 1) := by decide +kernel
theorem dX9_goThrough_38 : decode cX9_goThrough 38 = .ok (.iinc 4 1, 3) := by decide +kernel
theorem dX9_goThrough_41 : decode cX9_goThrough 41 = .ok (.goto (-29), 3) := by decide +kernel
theorem dX9_goThrough_44 : decode cX9_goThrough 44 = .ok (.iconst 0, 1) := by decide +kernel
theorem dX9_goThrough_45 : decode cX9_goThrough 45 = .ok (.istore 4, 2) := by decide +kernel
theorem dX9_goThrough_47 : decode cX9_goThrough 47 = .ok (.iload 4, 2) := by decide +kernel
theorem dX9_goThrough_49 : decode cX9_goThrough 49 = .ok (.aload_n 0, 1) := by decide +kernel
theorem dX9_goThrough_50 : decode cX9_goThrough 50 = .ok (.getfield 153, 3) := by decide +kernel
theorem dX9_goThrough_53 : decode cX9_goThrough 53 = .ok (.if_icmp .ge 44, 3) := by decide +kernel
theorem dX9_goThrough_56 : decode cX9_goThrough 56 = .ok (.aload_n 0, 1) := by decide +kernel
theorem dX9_goThrough_57 : decode cX9_goThrough 57 = .ok (.getfield 43, 3) := by decide +kernel
theorem dX9_goThrough_60 : decode cX9_goThrough 60 = .ok (.iload 4, 2) := by decide +kernel
theorem dX9_goThrough_62 : decode cX9_goThrough 62 = .ok (.bipush (-9), 2) := by decide +kernel
theorem dX9_goThrough_64 : decode cX9_goThrough 64 = .ok (.iastore, 1) := by decide +kernel
theorem dX9_goThrough_65 : decode cX9_goThrough 65 = .ok (.aload_n 0, 1) := by decide +kernel
theorem dX9_goThrough_66 : decode cX9_goThrough 66 = .ok (.getfield 46, 3) := by decide +kernel
theorem dX9_goThrough_69 : decode cX9_goThrough 69 = .ok (.iload 4, 2) := by decide +kernel
theorem dX9_goThrough_71 : decode cX9_goThrough 71 = .ok (.bipush (-9), 2) := by decide +kernel
theorem dX9_goThrough_73 : decode cX9_goThrough 73 = .ok (.iastore, 1) := by decide +kernel
theorem dX9_goThrough_74 : decode cX9_goThrough 74 = .ok (.aload_n 0, 1) := by decide +kernel
theorem dX9_goThrough_75 : decode cX9_goThrough 75 = .ok (.getfield 49, 3) := by decide +kernel
theorem dX9_goThrough_78 : decode cX9_goThrough 78 = .ok (.iload 4, 2) := by decide +kernel
theorem dX9_goThrough_80 : decode cX9_goThrough 80 = .ok (.bipush (-9), 2) := by decide +kernel
theorem dX9_goThrough_82 : decode cX9_goThrough 82 = .ok (.iastore, 1) := by decide +kernel
theorem dX9_goThrough_83 : decode cX9_goThrough 83 = .ok (.aload_n 0, 1) := by decide +kernel
theorem dX9_goThrough_84 : decode cX9_goThrough 84 = .ok (.getfield 52, 3) := by decide +kernel
theorem dX9_goThrough_87 : decode cX9_goThrough 87 = .ok (.iload 4, 2) := by decide +kernel
theorem dX9_goThrough_89 : decode cX9_goThrough 89 = .ok (.iconst 0, 1) := by decide +kernel
theorem dX9_goThrough_90 : decode cX9_goThrough 90 = .ok (.iastore, 1) := by decide +kernel
theorem dX9_goThrough_91 : decode cX9_goThrough 91 = .ok (.iinc 4 1, 3) := by decide +kernel
theorem dX9_goThrough_94 : decode cX9_goThrough 94 = .ok (.goto (-47), 3) := by decide +kernel
theorem dX9_goThrough_97 : decode cX9_goThrough 97 = .ok (.iconst 0, 1) := by decide +kernel
theorem dX9_goThrough_98 : decode cX9_goThrough 98 = .ok (.istore 4, 2) := by decide +kernel
theorem dX9_goThrough_100 : decode cX9_goThrough 100 = .ok (.iload 4, 2) := by decide +kernel
theorem dX9_goThrough_102 : decode cX9_goThrough 102 = .ok (.aload_n 0, 1) := by decide +kernel
theorem dX9_goThrough_103 : decode cX9_goThrough 103 = .ok (.getfield 119, 3) := by decide +kernel
theorem dX9_goThrough_106 : decode cX9_goThrough 106 = .ok (.if_icmp .ge 118, 3) := by decide +kernel
theorem dX9_goThrough_109 : decode cX9_goThrough 109 = .ok (.iload 4, 2) := by decide +kernel
theorem dX9_goThrough_111 : decode cX9_goThrough 111 = .ok (.iload_n 2, 1) := by decide +kernel
theorem dX9_goThrough_112 : decode cX9_goThrough 112 = .ok (.if_icmp .ne 23, 3) := by decide +kernel
theorem dX9_goThrough_115 : decode cX9_goThrough 115 = .ok (.aload_n 0, 1) := by decide +kernel
theorem dX9_goThrough_116 : decode cX9_goThrough 116 = .ok (.getfield 40, 3) := by decide +kernel
theorem dX9_goThrough_119 : decode cX9_goThrough 119 = .ok (.iload_n 1, 1) := by decide +kernel
theorem dX9_goThrough_120 : decode cX9_goThrough 120 = .ok (.iaload, 1) := by decide +kernel
theorem dX9_goThrough_121 : decode cX9_goThrough 121 = .ok (.ifCond .le 14, 3) := by decide +kernel
theorem dX9_goThrough_124 : decode cX9_goThrough 124 = .ok (.aload_n 0, 1) := by decide +kernel
theorem dX9_goThrough_125 : decode cX9_goThrough 125 = .ok (.iload_n 1, 1) := by decide +kernel
theorem dX9_goThrough_126 : decode cX9_goThrough 126 = .ok (.iload 4, 2) := by decide +kernel
theorem dX9_goThrough_128 : decode cX9_goThrough 128 = .ok (.iload_n 3, 1) := by decide +kernel
theorem dX9_goThrough_129 : decode cX9_goThrough 129 = .ok (.invokevirtual 213, 3) := by decide +kernel
theorem dX9_goThrough_132 : decode cX9_goThrough 132 = .ok (.goto (-23), 3) := by decide +kernel
theorem dX9_goThrough_135 : decode cX9_goThrough 135 = .ok (.iconst 0, 1) := by decide +kernel
theorem dX9_goThrough_136 : decode cX9_goThrough 136 = .ok (.istore 5, 2) := by decide +kernel
theorem dX9_goThrough_138 : decode cX9_goThrough 138 = .ok (.iload 5, 2) := by decide +kernel
theorem dX9_goThrough_140 : decode cX9_goThrough 140 = .ok (.aload_n 0, 1) := by decide +kernel
theorem dX9_goThrough_141 : decode cX9_goThrough 141 = .ok (.getfield 153, 3) := by decide +kernel
theorem dX9_goThrough_144 : decode cX9_goThrough 144 = .ok (.if_icmp .ge 74, 3) := by decide +kernel
theorem dX9_goThrough_147 : decode cX9_goThrough 147 = .ok (.aload_n 0, 1) := by decide +kernel
theorem dX9_goThrough_148 : decode cX9_goThrough 148 = .ok (.getfield 28, 3) := by decide +kernel
theorem dX9_goThrough_151 : decode cX9_goThrough 151 = .ok (.iload 5, 2) := by decide +kernel
theorem dX9_goThrough_153 : decode cX9_goThrough 153 = .ok (.iaload, 1) := by decide +kernel
theorem dX9_goThrough_154 : decode cX9_goThrough 154 = .ok (.iconst 2, 1) := by decide +kernel
theorem dX9_goThrough_155 : decode cX9_goThrough 155 = .ok (.if_icmp .ne 29, 3) := by decide +kernel
theorem dX9_goThrough_158 : decode cX9_goThrough 158 = .ok (.iload 4, 2) := by decide +kernel
theorem dX9_goThrough_160 : decode cX9_goThrough 160 = .ok (.aload_n 0, 1) := by decide +kernel
theorem dX9_goThrough_161 : decode cX9_goThrough 161 = .ok (.getfield 37, 3) := by decide +kernel
theorem dX9_goThrough_164 : decode cX9_goThrough 164 = .ok (.iload 5, 2) := by decide +kernel
theorem dX9_goThrough_166 : decode cX9_goThrough 166 = .ok (.iaload, 1) := by decide +kernel
theorem dX9_goThrough_167 : decode cX9_goThrough 167 = .ok (.if_icmp .le 17, 3) := by decide +kernel
theorem dX9_goThrough_170 : decode cX9_goThrough 170 = .ok (.aload_n 0, 1) := by decide +kernel
theorem dX9_goThrough_171 : decode cX9_goThrough 171 = .ok (.getfield 43, 3) := by decide +kernel
theorem dX9_goThrough_174 : decode cX9_goThrough 174 = .ok (.iload 5, 2) := by decide +kernel
theorem dX9_goThrough_176 : decode cX9_goThrough 176 = .ok (.iaload, 1) := by decide +kernel
theorem dX9_goThrough_177 : decode cX9_goThrough 177 = .ok (.ifCond .ge 7, 3) := by decide +kernel
theorem dX9_goThrough_180 : decode cX9_goThrough 180 = .ok (.iconst 1, 1) := by decide +kernel
theorem dX9_goThrough_181 : decode cX9_goThrough 181 = .ok (.goto 4, 3) := by decide +kernel
theorem dX9_goThrough_184 : decode cX9_goThrough 184 = .ok (.iconst 0, 1) := by decide +kernel
theorem dX9_goThrough_185 : decode cX9_goThrough 185 = .ok (.istore 6, 2) := by decide +kernel
theorem dX9_goThrough_187 : decode cX9_goThrough 187 = .ok (.iload 4, 2) := by decide +kernel
theorem dX9_goThrough_189 : decode cX9_goThrough 189 = .ok (.aload_n 0, 1) := by decide +kernel
theorem dX9_goThrough_190 : decode cX9_goThrough 190 = .ok (.getfield 37, 3) := by decide +kernel
theorem dX9_goThrough_193 : decode cX9_goThrough 193 = .ok (.iload 5, 2) := by decide +kernel
theorem dX9_goThrough_195 : decode cX9_goThrough 195 = .ok (.iaload, 1) := by decide +kernel
theorem dX9_goThrough_196 : decode cX9_goThrough 196 = .ok (.if_icmp .eq 8, 3) := by decide +kernel
theorem dX9_goThrough_199 : decode cX9_goThrough 199 = .ok (.iload 6, 2) := by decide +kernel
theorem dX9_goThrough_201 : decode cX9_goThrough 201 = .ok (.ifCond .eq 11, 3) := by decide +kernel
theorem dX9_goThrough_204 : decode cX9_goThrough 204 = .ok (.aload_n 0, 1) := by decide +kernel
theorem dX9_goThrough_205 : decode cX9_goThrough 205 = .ok (.iload 5, 2) := by decide +kernel
theorem dX9_goThrough_207 : decode cX9_goThrough 207 = .ok (.iload 4, 2) := by decide +kernel
theorem dX9_goThrough_209 : decode cX9_goThrough 209 = .ok (.invokevirtual 217, 3) := by decide +kernel
theorem dX9_goThrough_212 : decode cX9_goThrough 212 = .ok (.iinc 5 1, 3) := by decide +kernel
theorem dX9_goThrough_215 : decode cX9_goThrough 215 = .ok (.goto (-77), 3) := by decide +kernel
theorem dX9_goThrough_218 : decode cX9_goThrough 218 = .ok (.iinc 4 1, 3) := by decide +kernel
theorem dX9_goThrough_221 : decode cX9_goThrough 221 = .ok (.goto (-121), 3) := by decide +kernel
theorem dX9_goThrough_224 : decode cX9_goThrough 224 = .ok (.return_, 1) := by decide +kernel
theorem dX9_left_0 : decode cX9_left 0 = .ok (.iconst 0, 1) := by decide +kernel
theorem dX9_left_1 : decode cX9_left 1 = .ok (.istore_n 1, 1) := by decide +kernel
theorem dX9_left_2 : decode cX9_left 2 = .ok (.iconst 0, 1) := by decide +kernel
theorem dX9_left_3 : decode cX9_left 3 = .ok (.istore_n 2, 1) := by decide +kernel
theorem dX9_left_4 : decode cX9_left 4 = .ok (.iload_n 2, 1) := by decide +kernel
theorem dX9_left_5 : decode cX9_left 5 = .ok (.aload_n 0, 1) := by decide +kernel
theorem dX9_left_6 : decode cX9_left 6 = .ok (.getfield 116, 3) := by decide +kernel
theorem dX9_left_9 : decode cX9_left 9 = .ok (.if_icmp .ge 18, 3) := by decide +kernel
theorem dX9_left_12 : decode cX9_left 12 = .ok (.iload_n 1, 1) := by decide +kernel
theorem dX9_left_13 : decode cX9_left 13 = .ok (.aload_n 0, 1) := by decide +kernel
theorem dX9_left_14 : decode cX9_left 14 = .ok (.getfield 40, 3) := by decide +kernel
theorem dX9_left_17 : decode cX9_left 17 = .ok (.iload_n 2, 1) := by decide +kernel
theorem dX9_left_18 : decode cX9_left 18 = .ok (.iaload, 1) := by decide +kernel
theorem dX9_left_19 : decode cX9_left 19 = .ok (.iadd, 1) := by decide +kernel
theorem dX9_left_20 : decode cX9_left 20 = .ok (.istore_n 1, 1) := by decide +kernel
theorem dX9_left_21 : decode cX9_left 21 = .ok (.iinc 2 1, 3) := by decide +kernel
theorem dX9_left_24 : decode cX9_left 24 = .ok (.goto (-20), 3) := by decide +kernel
theorem dX9_left_27 : decode cX9_left 27 = .ok (.iload_n 1, 1) := by decide +kernel
theorem dX9_left_28 : decode cX9_left 28 = .ok (.ireturn, 1) := by decide +kernel
theorem dX9_allFish_0 : decode cX9_allFish 0 = .ok (.iconst 0, 1) := by decide +kernel
theorem dX9_allFish_1 : decode cX9_allFish 1 = .ok (.istore_n 1, 1) := by decide +kernel
theorem dX9_allFish_2 : decode cX9_allFish 2 = .ok (.iconst 0, 1) := by decide +kernel
theorem dX9_allFish_3 : decode cX9_allFish 3 = .ok (.istore_n 2, 1) := by decide +kernel
theorem dX9_allFish_4 : decode cX9_allFish 4 = .ok (.iload_n 2, 1) := by decide +kernel
theorem dX9_allFish_5 : decode cX9_allFish 5 = .ok (.aload_n 0, 1) := by decide +kernel
theorem dX9_allFish_6 : decode cX9_allFish 6 = .ok (.getfield 116, 3) := by decide +kernel
theorem dX9_allFish_9 : decode cX9_allFish 9 = .ok (.if_icmp .ge 18, 3) := by decide +kernel
theorem dX9_allFish_12 : decode cX9_allFish 12 = .ok (.iload_n 1, 1) := by decide +kernel
theorem dX9_allFish_13 : decode cX9_allFish 13 = .ok (.aload_n 0, 1) := by decide +kernel
theorem dX9_allFish_14 : decode cX9_allFish 14 = .ok (.getfield 7, 3) := by decide +kernel
theorem dX9_allFish_17 : decode cX9_allFish 17 = .ok (.iload_n 2, 1) := by decide +kernel
theorem dX9_allFish_18 : decode cX9_allFish 18 = .ok (.iaload, 1) := by decide +kernel
theorem dX9_allFish_19 : decode cX9_allFish 19 = .ok (.iadd, 1) := by decide +kernel
theorem dX9_allFish_20 : decode cX9_allFish 20 = .ok (.istore_n 1, 1) := by decide +kernel
theorem dX9_allFish_21 : decode cX9_allFish 21 = .ok (.iinc 2 1, 3) := by decide +kernel
theorem dX9_allFish_24 : decode cX9_allFish 24 = .ok (.goto (-20), 3) := by decide +kernel
theorem dX9_allFish_27 : decode cX9_allFish 27 = .ok (.iload_n 1, 1) := by decide +kernel
theorem dX9_allFish_28 : decode cX9_allFish 28 = .ok (.ireturn, 1) := by decide +kernel
theorem dX9_profitOf_0 : decode cX9_profitOf 0 = .ok (.aload_n 0, 1) := by decide +kernel
theorem dX9_profitOf_1 : decode cX9_profitOf 1 = .ok (.getfield 207, 3) := by decide +kernel
theorem dX9_profitOf_4 : decode cX9_profitOf 4 = .ok (.aload_n 0, 1) := by decide +kernel
theorem dX9_profitOf_5 : decode cX9_profitOf 5 = .ok (.getfield 156, 3) := by decide +kernel
theorem dX9_profitOf_8 : decode cX9_profitOf 8 = .ok (.aload_n 0, 1) := by decide +kernel
theorem dX9_profitOf_9 : decode cX9_profitOf 9 = .ok (.invokevirtual 221, 3) := by decide +kernel
theorem dX9_profitOf_12 : decode cX9_profitOf 12 = .ok (.imul, 1) := by decide +kernel
theorem dX9_profitOf_13 : decode cX9_profitOf 13 = .ok (.iadd, 1) := by decide +kernel
theorem dX9_profitOf_14 : decode cX9_profitOf 14 = .ok (.istore_n 1, 1) := by decide +kernel
theorem dX9_profitOf_15 : decode cX9_profitOf 15 = .ok (.iconst 0, 1) := by decide +kernel
theorem dX9_profitOf_16 : decode cX9_profitOf 16 = .ok (.istore_n 2, 1) := by decide +kernel
theorem dX9_profitOf_17 : decode cX9_profitOf 17 = .ok (.iload_n 2, 1) := by decide +kernel
theorem dX9_profitOf_18 : decode cX9_profitOf 18 = .ok (.aload_n 0, 1) := by decide +kernel
theorem dX9_profitOf_19 : decode cX9_profitOf 19 = .ok (.getfield 116, 3) := by decide +kernel
theorem dX9_profitOf_22 : decode cX9_profitOf 22 = .ok (.if_icmp .ge 25, 3) := by decide +kernel
theorem dX9_profitOf_25 : decode cX9_profitOf 25 = .ok (.iload_n 1, 1) := by decide +kernel
theorem dX9_profitOf_26 : decode cX9_profitOf 26 = .ok (.aload_n 0, 1) := by decide +kernel
theorem dX9_profitOf_27 : decode cX9_profitOf 27 = .ok (.getfield 13, 3) := by decide +kernel
theorem dX9_profitOf_30 : decode cX9_profitOf 30 = .ok (.iload_n 2, 1) := by decide +kernel
theorem dX9_profitOf_31 : decode cX9_profitOf 31 = .ok (.iaload, 1) := by decide +kernel
theorem dX9_profitOf_32 : decode cX9_profitOf 32 = .ok (.aload_n 0, 1) := by decide +kernel
theorem dX9_profitOf_33 : decode cX9_profitOf 33 = .ok (.getfield 7, 3) := by decide +kernel
theorem dX9_profitOf_36 : decode cX9_profitOf 36 = .ok (.iload_n 2, 1) := by decide +kernel
theorem dX9_profitOf_37 : decode cX9_profitOf 37 = .ok (.iaload, 1) := by decide +kernel
theorem dX9_profitOf_38 : decode cX9_profitOf 38 = .ok (.imul, 1) := by decide +kernel
theorem dX9_profitOf_39 : decode cX9_profitOf 39 = .ok (.isub, 1) := by decide +kernel
theorem dX9_profitOf_40 : decode cX9_profitOf 40 = .ok (.istore_n 1, 1) := by decide +kernel
theorem dX9_profitOf_41 : decode cX9_profitOf 41 = .ok (.iinc 2 1, 3) := by decide +kernel
theorem dX9_profitOf_44 : decode cX9_profitOf 44 = .ok (.goto (-27), 3) := by decide +kernel
theorem dX9_profitOf_47 : decode cX9_profitOf 47 = .ok (.iload_n 1, 1) := by decide +kernel
theorem dX9_profitOf_48 : decode cX9_profitOf 48 = .ok (.ireturn, 1) := by decide +kernel
theorem dX9_profit_0 : decode cX9_profit 0 = .ok (.aload_n 0, 1) := by decide +kernel
theorem dX9_profit_1 : decode cX9_profit 1 = .ok (.iconst 0, 1) := by decide +kernel
theorem dX9_profit_2 : decode cX9_profit 2 = .ok (.bipush (-9), 2) := by decide +kernel
theorem dX9_profit_4 : decode cX9_profit 4 = .ok (.iconst 0, 1) := by decide +kernel
theorem dX9_profit_5 : decode cX9_profit 5 = .ok (.invokevirtual 225, 3) := by decide +kernel
theorem dX9_profit_8 : decode cX9_profit 8 = .ok (.aload_n 0, 1) := by decide +kernel
theorem dX9_profit_9 : decode cX9_profit 9 = .ok (.invokevirtual 228, 3) := by decide +kernel
theorem dX9_profit_12 : decode cX9_profit 12 = .ok (.ireturn, 1) := by decide +kernel
theorem dX9_day_0 : decode cX9_day 0 = .ok (.iload_n 1, 1) := by decide +kernel
theorem dX9_day_1 : decode cX9_day 1 = .ok (.i2l, 1) := by decide +kernel
theorem dX9_day_2 : decode cX9_day 2 = .ok (.lconst 0, 1) := by decide +kernel
theorem dX9_day_3 : decode cX9_day 3 = .ok (.ldc2_w 231, 3) := by decide +kernel
theorem dX9_day_6 : decode cX9_day 6 = .ok (.invokestatic 87, 3) := by decide +kernel
theorem dX9_day_9 : decode cX9_day 9 = .ok (.ifCond .ne 6, 3) := by decide +kernel
theorem dX9_day_12 : decode cX9_day 12 = .ok (.bipush (-2), 2) := by decide +kernel
theorem dX9_day_14 : decode cX9_day 14 = .ok (.ireturn, 1) := by decide +kernel
theorem dX9_day_15 : decode cX9_day 15 = .ok (.aload_n 0, 1) := by decide +kernel
theorem dX9_day_16 : decode cX9_day 16 = .ok (.getfield 116, 3) := by decide +kernel
theorem dX9_day_19 : decode cX9_day 19 = .ok (.ifCond .ne 6, 3) := by decide +kernel
theorem dX9_day_22 : decode cX9_day 22 = .ok (.bipush (-3), 2) := by decide +kernel
theorem dX9_day_24 : decode cX9_day 24 = .ok (.ireturn, 1) := by decide +kernel
theorem dX9_day_25 : decode cX9_day 25 = .ok (.aload_n 0, 1) := by decide +kernel
theorem dX9_day_26 : decode cX9_day 26 = .ok (.iconst 0, 1) := by decide +kernel
theorem dX9_day_27 : decode cX9_day 27 = .ok (.bipush (-9), 2) := by decide +kernel
theorem dX9_day_29 : decode cX9_day 29 = .ok (.iconst 0, 1) := by decide +kernel
theorem dX9_day_30 : decode cX9_day 30 = .ok (.invokevirtual 225, 3) := by decide +kernel
theorem dX9_day_33 : decode cX9_day 33 = .ok (.iload_n 1, 1) := by decide +kernel
theorem dX9_day_34 : decode cX9_day 34 = .ok (.ifCond .ne 10, 3) := by decide +kernel
theorem dX9_day_37 : decode cX9_day 37 = .ok (.aload_n 0, 1) := by decide +kernel
theorem dX9_day_38 : decode cX9_day 38 = .ok (.getfield 207, 3) := by decide +kernel
theorem dX9_day_41 : decode cX9_day 41 = .ok (.goto 36, 3) := by decide +kernel
theorem dX9_day_44 : decode cX9_day 44 = .ok (.iload_n 1, 1) := by decide +kernel
theorem dX9_day_45 : decode cX9_day 45 = .ok (.iconst 1, 1) := by decide +kernel
theorem dX9_day_46 : decode cX9_day 46 = .ok (.if_icmp .ne 15, 3) := by decide +kernel
theorem dX9_day_49 : decode cX9_day 49 = .ok (.aload_n 0, 1) := by decide +kernel
theorem dX9_day_50 : decode cX9_day 50 = .ok (.invokevirtual 233, 3) := by decide +kernel
theorem dX9_day_53 : decode cX9_day 53 = .ok (.aload_n 0, 1) := by decide +kernel
theorem dX9_day_54 : decode cX9_day 54 = .ok (.invokevirtual 221, 3) := by decide +kernel
theorem dX9_day_57 : decode cX9_day 57 = .ok (.isub, 1) := by decide +kernel
theorem dX9_day_58 : decode cX9_day 58 = .ok (.goto 19, 3) := by decide +kernel
theorem dX9_day_61 : decode cX9_day 61 = .ok (.iload_n 1, 1) := by decide +kernel
theorem dX9_day_62 : decode cX9_day 62 = .ok (.iconst 2, 1) := by decide +kernel
theorem dX9_day_63 : decode cX9_day 63 = .ok (.if_icmp .ne 10, 3) := by decide +kernel
theorem dX9_day_66 : decode cX9_day 66 = .ok (.aload_n 0, 1) := by decide +kernel
theorem dX9_day_67 : decode cX9_day 67 = .ok (.invokevirtual 221, 3) := by decide +kernel
theorem dX9_day_70 : decode cX9_day 70 = .ok (.goto 7, 3) := by decide +kernel
theorem dX9_day_73 : decode cX9_day 73 = .ok (.aload_n 0, 1) := by decide +kernel
theorem dX9_day_74 : decode cX9_day 74 = .ok (.invokevirtual 228, 3) := by decide +kernel
theorem dX9_day_77 : decode cX9_day 77 = .ok (.ireturn, 1) := by decide +kernel
theorem dX9_bought_0 : decode cX9_bought 0 = .ok (.aload_n 0, 1) := by decide +kernel
theorem dX9_bought_1 : decode cX9_bought 1 = .ok (.iload_n 1, 1) := by decide +kernel
theorem dX9_bought_2 : decode cX9_bought 2 = .ok (.invokevirtual 188, 3) := by decide +kernel
theorem dX9_bought_5 : decode cX9_bought 5 = .ok (.ifCond .eq 5, 3) := by decide +kernel
theorem dX9_bought_8 : decode cX9_bought 8 = .ok (.iconst (-1), 1) := by decide +kernel
theorem dX9_bought_9 : decode cX9_bought 9 = .ok (.ireturn, 1) := by decide +kernel
theorem dX9_bought_10 : decode cX9_bought 10 = .ok (.aload_n 0, 1) := by decide +kernel
theorem dX9_bought_11 : decode cX9_bought 11 = .ok (.iconst 0, 1) := by decide +kernel
theorem dX9_bought_12 : decode cX9_bought 12 = .ok (.bipush (-9), 2) := by decide +kernel
theorem dX9_bought_14 : decode cX9_bought 14 = .ok (.iconst 0, 1) := by decide +kernel
theorem dX9_bought_15 : decode cX9_bought 15 = .ok (.invokevirtual 225, 3) := by decide +kernel
theorem dX9_bought_18 : decode cX9_bought 18 = .ok (.iload_n 2, 1) := by decide +kernel
theorem dX9_bought_19 : decode cX9_bought 19 = .ok (.tableswitch 57 0 3 #[29, 36, 43, 50], 29) := by decide +kernel
theorem dX9_bought_48 : decode cX9_bought 48 = .ok (.aload_n 0, 1) := by decide +kernel
theorem dX9_bought_49 : decode cX9_bought 49 = .ok (.getfield 43, 3) := by decide +kernel
theorem dX9_bought_52 : decode cX9_bought 52 = .ok (.iload_n 1, 1) := by decide +kernel
theorem dX9_bought_53 : decode cX9_bought 53 = .ok (.iaload, 1) := by decide +kernel
theorem dX9_bought_54 : decode cX9_bought 54 = .ok (.ireturn, 1) := by decide +kernel
theorem dX9_bought_55 : decode cX9_bought 55 = .ok (.aload_n 0, 1) := by decide +kernel
theorem dX9_bought_56 : decode cX9_bought 56 = .ok (.getfield 46, 3) := by decide +kernel
theorem dX9_bought_59 : decode cX9_bought 59 = .ok (.iload_n 1, 1) := by decide +kernel
theorem dX9_bought_60 : decode cX9_bought 60 = .ok (.iaload, 1) := by decide +kernel
theorem dX9_bought_61 : decode cX9_bought 61 = .ok (.ireturn, 1) := by decide +kernel
theorem dX9_bought_62 : decode cX9_bought 62 = .ok (.aload_n 0, 1) := by decide +kernel
theorem dX9_bought_63 : decode cX9_bought 63 = .ok (.getfield 49, 3) := by decide +kernel
theorem dX9_bought_66 : decode cX9_bought 66 = .ok (.iload_n 1, 1) := by decide +kernel
theorem dX9_bought_67 : decode cX9_bought 67 = .ok (.iaload, 1) := by decide +kernel
theorem dX9_bought_68 : decode cX9_bought 68 = .ok (.ireturn, 1) := by decide +kernel
theorem dX9_bought_69 : decode cX9_bought 69 = .ok (.aload_n 0, 1) := by decide +kernel
theorem dX9_bought_70 : decode cX9_bought 70 = .ok (.getfield 52, 3) := by decide +kernel
theorem dX9_bought_73 : decode cX9_bought 73 = .ok (.iload_n 1, 1) := by decide +kernel
theorem dX9_bought_74 : decode cX9_bought 74 = .ok (.iaload, 1) := by decide +kernel
theorem dX9_bought_75 : decode cX9_bought 75 = .ok (.ireturn, 1) := by decide +kernel
theorem dX9_bought_76 : decode cX9_bought 76 = .ok (.bipush (-2), 2) := by decide +kernel
theorem dX9_bought_78 : decode cX9_bought 78 = .ok (.ireturn, 1) := by decide +kernel
theorem dX9_sold_0 : decode cX9_sold 0 = .ok (.aload_n 0, 1) := by decide +kernel
theorem dX9_sold_1 : decode cX9_sold 1 = .ok (.iload_n 1, 1) := by decide +kernel
theorem dX9_sold_2 : decode cX9_sold 2 = .ok (.invokevirtual 163, 3) := by decide +kernel
theorem dX9_sold_5 : decode cX9_sold 5 = .ok (.ifCond .eq 5, 3) := by decide +kernel
theorem dX9_sold_8 : decode cX9_sold 8 = .ok (.iconst (-1), 1) := by decide +kernel
theorem dX9_sold_9 : decode cX9_sold 9 = .ok (.ireturn, 1) := by decide +kernel
theorem dX9_sold_10 : decode cX9_sold 10 = .ok (.aload_n 0, 1) := by decide +kernel
theorem dX9_sold_11 : decode cX9_sold 11 = .ok (.iconst 0, 1) := by decide +kernel
theorem dX9_sold_12 : decode cX9_sold 12 = .ok (.bipush (-9), 2) := by decide +kernel
theorem dX9_sold_14 : decode cX9_sold 14 = .ok (.iconst 0, 1) := by decide +kernel
theorem dX9_sold_15 : decode cX9_sold 15 = .ok (.invokevirtual 225, 3) := by decide +kernel
theorem dX9_sold_18 : decode cX9_sold 18 = .ok (.iload_n 2, 1) := by decide +kernel
theorem dX9_sold_19 : decode cX9_sold 19 = .ok (.ifCond .ne 12, 3) := by decide +kernel
theorem dX9_sold_22 : decode cX9_sold 22 = .ok (.aload_n 0, 1) := by decide +kernel
theorem dX9_sold_23 : decode cX9_sold 23 = .ok (.getfield 40, 3) := by decide +kernel
theorem dX9_sold_26 : decode cX9_sold 26 = .ok (.iload_n 1, 1) := by decide +kernel
theorem dX9_sold_27 : decode cX9_sold 27 = .ok (.iaload, 1) := by decide +kernel
theorem dX9_sold_28 : decode cX9_sold 28 = .ok (.goto 33, 3) := by decide +kernel
theorem dX9_sold_31 : decode cX9_sold 31 = .ok (.iload_n 2, 1) := by decide +kernel
theorem dX9_sold_32 : decode cX9_sold 32 = .ok (.iconst 1, 1) := by decide +kernel
theorem dX9_sold_33 : decode cX9_sold 33 = .ok (.if_icmp .ne 12, 3) := by decide +kernel
theorem dX9_sold_36 : decode cX9_sold 36 = .ok (.aload_n 0, 1) := by decide +kernel
theorem dX9_sold_37 : decode cX9_sold 37 = .ok (.getfield 55, 3) := by decide +kernel
theorem dX9_sold_40 : decode cX9_sold 40 = .ok (.iload_n 1, 1) := by decide +kernel
theorem dX9_sold_41 : decode cX9_sold 41 = .ok (.iaload, 1) := by decide +kernel
theorem dX9_sold_42 : decode cX9_sold 42 = .ok (.goto 19, 3) := by decide +kernel
theorem dX9_sold_45 : decode cX9_sold 45 = .ok (.iload_n 2, 1) := by decide +kernel
theorem dX9_sold_46 : decode cX9_sold 46 = .ok (.iconst 2, 1) := by decide +kernel
theorem dX9_sold_47 : decode cX9_sold 47 = .ok (.if_icmp .ne 12, 3) := by decide +kernel
theorem dX9_sold_50 : decode cX9_sold 50 = .ok (.aload_n 0, 1) := by decide +kernel
theorem dX9_sold_51 : decode cX9_sold 51 = .ok (.getfield 58, 3) := by decide +kernel
theorem dX9_sold_54 : decode cX9_sold 54 = .ok (.iload_n 1, 1) := by decide +kernel
theorem dX9_sold_55 : decode cX9_sold 55 = .ok (.iaload, 1) := by decide +kernel
theorem dX9_sold_56 : decode cX9_sold 56 = .ok (.goto 5, 3) := by decide +kernel
theorem dX9_sold_59 : decode cX9_sold 59 = .ok (.bipush (-2), 2) := by decide +kernel
theorem dX9_sold_61 : decode cX9_sold 61 = .ok (.ireturn, 1) := by decide +kernel
theorem dX9_best_0 : decode cX9_best 0 = .ok (.aload_n 0, 1) := by decide +kernel
theorem dX9_best_1 : decode cX9_best 1 = .ok (.iload_n 1, 1) := by decide +kernel
theorem dX9_best_2 : decode cX9_best 2 = .ok (.invokevirtual 163, 3) := by decide +kernel
theorem dX9_best_5 : decode cX9_best 5 = .ok (.ifCond .ne 11, 3) := by decide +kernel
theorem dX9_best_8 : decode cX9_best 8 = .ok (.aload_n 0, 1) := by decide +kernel
theorem dX9_best_9 : decode cX9_best 9 = .ok (.iload_n 2, 1) := by decide +kernel
theorem dX9_best_10 : decode cX9_best 10 = .ok (.invokevirtual 170, 3) := by decide +kernel
theorem dX9_best_13 : decode cX9_best 13 = .ok (.ifCond .eq 5, 3) := by decide +kernel
theorem dX9_best_16 : decode cX9_best 16 = .ok (.iconst (-1), 1) := by decide +kernel
theorem dX9_best_17 : decode cX9_best 17 = .ok (.ireturn, 1) := by decide +kernel
theorem dX9_best_18 : decode cX9_best 18 = .ok (.iload_n 3, 1) := by decide +kernel
theorem dX9_best_19 : decode cX9_best 19 = .ok (.i2l, 1) := by decide +kernel
theorem dX9_best_20 : decode cX9_best 20 = .ok (.lconst 0, 1) := by decide +kernel
theorem dX9_best_21 : decode cX9_best 21 = .ok (.lconst 1, 1) := by decide +kernel
theorem dX9_best_22 : decode cX9_best 22 = .ok (.invokestatic 87, 3) := by decide +kernel
theorem dX9_best_25 : decode cX9_best 25 = .ok (.ifCond .ne 6, 3) := by decide +kernel
theorem dX9_best_28 : decode cX9_best 28 = .ok (.bipush (-2), 2) := by decide +kernel
theorem dX9_best_30 : decode cX9_best 30 = .ok (.ireturn, 1) := by decide +kernel
theorem dX9_best_31 : decode cX9_best 31 = .ok (.aload_n 0, 1) := by decide +kernel
theorem dX9_best_32 : decode cX9_best 32 = .ok (.iload_n 1, 1) := by decide +kernel
theorem dX9_best_33 : decode cX9_best 33 = .ok (.iload_n 2, 1) := by decide +kernel
theorem dX9_best_34 : decode cX9_best 34 = .ok (.invokevirtual 180, 3) := by decide +kernel
theorem dX9_best_37 : decode cX9_best 37 = .ok (.istore 4, 2) := by decide +kernel
theorem dX9_best_39 : decode cX9_best 39 = .ok (.bipush (-9), 2) := by decide +kernel
theorem dX9_best_41 : decode cX9_best 41 = .ok (.istore 5, 2) := by decide +kernel
theorem dX9_best_43 : decode cX9_best 43 = .ok (.iconst 0, 1) := by decide +kernel
theorem dX9_best_44 : decode cX9_best 44 = .ok (.istore 6, 2) := by decide +kernel
theorem dX9_best_46 : decode cX9_best 46 = .ok (.iconst 0, 1) := by decide +kernel
theorem dX9_best_47 : decode cX9_best 47 = .ok (.istore 7, 2) := by decide +kernel
theorem dX9_best_49 : decode cX9_best 49 = .ok (.iload 7, 2) := by decide +kernel
theorem dX9_best_51 : decode cX9_best 51 = .ok (.bipush 30, 2) := by decide +kernel
theorem dX9_best_53 : decode cX9_best 53 = .ok (.if_icmp .gt 48, 3) := by decide +kernel
theorem dX9_best_56 : decode cX9_best 56 = .ok (.aload_n 0, 1) := by decide +kernel
theorem dX9_best_57 : decode cX9_best 57 = .ok (.getfield 22, 3) := by decide +kernel
theorem dX9_best_60 : decode cX9_best 60 = .ok (.bipush 8, 2) := by decide +kernel
theorem dX9_best_62 : decode cX9_best 62 = .ok (.iload_n 1, 1) := by decide +kernel
theorem dX9_best_63 : decode cX9_best 63 = .ok (.imul, 1) := by decide +kernel
theorem dX9_best_64 : decode cX9_best 64 = .ok (.iload_n 2, 1) := by decide +kernel
theorem dX9_best_65 : decode cX9_best 65 = .ok (.iadd, 1) := by decide +kernel
theorem dX9_best_66 : decode cX9_best 66 = .ok (.iload 7, 2) := by decide +kernel
theorem dX9_best_68 : decode cX9_best 68 = .ok (.iastore, 1) := by decide +kernel
theorem dX9_best_69 : decode cX9_best 69 = .ok (.aload_n 0, 1) := by decide +kernel
theorem dX9_best_70 : decode cX9_best 70 = .ok (.invokevirtual 236, 3) := by decide +kernel
theorem dX9_best_73 : decode cX9_best 73 = .ok (.istore 8, 2) := by decide +kernel
theorem dX9_best_75 : decode cX9_best 75 = .ok (.iload 5, 2) := by decide +kernel
theorem dX9_best_77 : decode cX9_best 77 = .ok (.ifCond .lt 10, 3) := by decide +kernel
theorem dX9_best_80 : decode cX9_best 80 = .ok (.iload 8, 2) := by decide +kernel
theorem dX9_best_82 : decode cX9_best 82 = .ok (.iload 6, 2) := by decide +kernel
theorem dX9_best_84 : decode cX9_best 84 = .ok (.if_icmp .le 11, 3) := by decide +kernel
theorem dX9_best_87 : decode cX9_best 87 = .ok (.iload 7, 2) := by decide +kernel
theorem dX9_best_89 : decode cX9_best 89 = .ok (.istore 5, 2) := by decide +kernel
theorem dX9_best_91 : decode cX9_best 91 = .ok (.iload 8, 2) := by decide +kernel
theorem dX9_best_93 : decode cX9_best 93 = .ok (.istore 6, 2) := by decide +kernel
theorem dX9_best_95 : decode cX9_best 95 = .ok (.iinc 7 1, 3) := by decide +kernel
theorem dX9_best_98 : decode cX9_best 98 = .ok (.goto (-49), 3) := by decide +kernel
theorem dX9_best_101 : decode cX9_best 101 = .ok (.aload_n 0, 1) := by decide +kernel
theorem dX9_best_102 : decode cX9_best 102 = .ok (.getfield 22, 3) := by decide +kernel
theorem dX9_best_105 : decode cX9_best 105 = .ok (.bipush 8, 2) := by decide +kernel
theorem dX9_best_107 : decode cX9_best 107 = .ok (.iload_n 1, 1) := by decide +kernel
theorem dX9_best_108 : decode cX9_best 108 = .ok (.imul, 1) := by decide +kernel
theorem dX9_best_109 : decode cX9_best 109 = .ok (.iload_n 2, 1) := by decide +kernel
theorem dX9_best_110 : decode cX9_best 110 = .ok (.iadd, 1) := by decide +kernel
theorem dX9_best_111 : decode cX9_best 111 = .ok (.iload 4, 2) := by decide +kernel
theorem dX9_best_113 : decode cX9_best 113 = .ok (.iastore, 1) := by decide +kernel
theorem dX9_best_114 : decode cX9_best 114 = .ok (.iload_n 3, 1) := by decide +kernel
theorem dX9_best_115 : decode cX9_best 115 = .ok (.ifCond .ne 8, 3) := by decide +kernel
theorem dX9_best_118 : decode cX9_best 118 = .ok (.iload 5, 2) := by decide +kernel
theorem dX9_best_120 : decode cX9_best 120 = .ok (.goto 5, 3) := by decide +kernel
theorem dX9_best_123 : decode cX9_best 123 = .ok (.iload 6, 2) := by decide +kernel
theorem dX9_best_125 : decode cX9_best 125 = .ok (.ireturn, 1) := by decide +kernel
theorem dX9_takeOff_0 : decode cX9_takeOff 0 = .ok (.iload_n 1, 1) := by decide +kernel
theorem dX9_takeOff_1 : decode cX9_takeOff 1 = .ok (.i2l, 1) := by decide +kernel
theorem dX9_takeOff_2 : decode cX9_takeOff 2 = .ok (.lconst 0, 1) := by decide +kernel
theorem dX9_takeOff_3 : decode cX9_takeOff 3 = .ok (.ldc2_w 107, 3) := by decide +kernel
theorem dX9_takeOff_6 : decode cX9_takeOff 6 = .ok (.invokestatic 87, 3) := by decide +kernel
theorem dX9_takeOff_9 : decode cX9_takeOff 9 = .ok (.ifCond .ne 6, 3) := by decide +kernel
theorem dX9_takeOff_12 : decode cX9_takeOff 12 = .ok (.bipush (-2), 2) := by decide +kernel
theorem dX9_takeOff_14 : decode cX9_takeOff 14 = .ok (.ireturn, 1) := by decide +kernel
theorem dX9_takeOff_15 : decode cX9_takeOff 15 = .ok (.aload_n 0, 1) := by decide +kernel
theorem dX9_takeOff_16 : decode cX9_takeOff 16 = .ok (.getfield 116, 3) := by decide +kernel
theorem dX9_takeOff_19 : decode cX9_takeOff 19 = .ok (.ifCond .ne 6, 3) := by decide +kernel
theorem dX9_takeOff_22 : decode cX9_takeOff 22 = .ok (.bipush (-3), 2) := by decide +kernel
theorem dX9_takeOff_24 : decode cX9_takeOff 24 = .ok (.ireturn, 1) := by decide +kernel
theorem dX9_takeOff_25 : decode cX9_takeOff 25 = .ok (.iconst 0, 1) := by decide +kernel
theorem dX9_takeOff_26 : decode cX9_takeOff 26 = .ok (.istore_n 2, 1) := by decide +kernel
theorem dX9_takeOff_27 : decode cX9_takeOff 27 = .ok (.iload_n 2, 1) := by decide +kernel
theorem dX9_takeOff_28 : decode cX9_takeOff 28 = .ok (.bipush 32, 2) := by decide +kernel
theorem dX9_takeOff_30 : decode cX9_takeOff 30 = .ok (.if_icmp .ge 21, 3) := by decide +kernel
theorem dX9_takeOff_33 : decode cX9_takeOff 33 = .ok (.aload_n 0, 1) := by decide +kernel
theorem dX9_takeOff_34 : decode cX9_takeOff 34 = .ok (.getfield 61, 3) := by decide +kernel
theorem dX9_takeOff_37 : decode cX9_takeOff 37 = .ok (.iload_n 2, 1) := by decide +kernel
theorem dX9_takeOff_38 : decode cX9_takeOff 38 = .ok (.aload_n 0, 1) := by decide +kernel
theorem dX9_takeOff_39 : decode cX9_takeOff 39 = .ok (.getfield 22, 3) := by decide +kernel
theorem dX9_takeOff_42 : decode cX9_takeOff 42 = .ok (.iload_n 2, 1) := by decide +kernel
theorem dX9_takeOff_43 : decode cX9_takeOff 43 = .ok (.iaload, 1) := by decide +kernel
theorem dX9_takeOff_44 : decode cX9_takeOff 44 = .ok (.iastore, 1) := by decide +kernel
theorem dX9_takeOff_45 : decode cX9_takeOff 45 = .ok (.iinc 2 1, 3) := by decide +kernel
theorem dX9_takeOff_48 : decode cX9_takeOff 48 = .ok (.goto (-21), 3) := by decide +kernel
theorem dX9_takeOff_51 : decode cX9_takeOff 51 = .ok (.aload_n 0, 1) := by decide +kernel
theorem dX9_takeOff_52 : decode cX9_takeOff 52 = .ok (.invokevirtual 236, 3) := by decide +kernel
theorem dX9_takeOff_55 : decode cX9_takeOff 55 = .ok (.istore_n 2, 1) := by decide +kernel
theorem dX9_takeOff_56 : decode cX9_takeOff 56 = .ok (.bipush (-9), 2) := by decide +kernel
theorem dX9_takeOff_58 : decode cX9_takeOff 58 = .ok (.istore_n 3, 1) := by decide +kernel
theorem dX9_takeOff_59 : decode cX9_takeOff 59 = .ok (.iconst 0, 1) := by decide +kernel
theorem dX9_takeOff_60 : decode cX9_takeOff 60 = .ok (.istore 4, 2) := by decide +kernel
theorem dX9_takeOff_62 : decode cX9_takeOff 62 = .ok (.iconst 0, 1) := by decide +kernel
theorem dX9_takeOff_63 : decode cX9_takeOff 63 = .ok (.istore 5, 2) := by decide +kernel
theorem dX9_takeOff_65 : decode cX9_takeOff 65 = .ok (.iload 5, 2) := by decide +kernel
theorem dX9_takeOff_67 : decode cX9_takeOff 67 = .ok (.aload_n 0, 1) := by decide +kernel
theorem dX9_takeOff_68 : decode cX9_takeOff 68 = .ok (.getfield 119, 3) := by decide +kernel
theorem dX9_takeOff_71 : decode cX9_takeOff 71 = .ok (.if_icmp .ge 104, 3) := by decide +kernel
theorem dX9_takeOff_74 : decode cX9_takeOff 74 = .ok (.iconst 1, 1) := by decide +kernel
theorem dX9_takeOff_75 : decode cX9_takeOff 75 = .ok (.istore 6, 2) := by decide +kernel
theorem dX9_takeOff_77 : decode cX9_takeOff 77 = .ok (.iload 6, 2) := by decide +kernel
theorem dX9_takeOff_79 : decode cX9_takeOff 79 = .ok (.bipush 30, 2) := by decide +kernel
theorem dX9_takeOff_81 : decode cX9_takeOff 81 = .ok (.if_icmp .gt 88, 3) := by decide +kernel
theorem dX9_takeOff_84 : decode cX9_takeOff 84 = .ok (.iconst 0, 1) := by decide +kernel
theorem dX9_takeOff_85 : decode cX9_takeOff 85 = .ok (.istore 7, 2) := by decide +kernel
theorem dX9_takeOff_87 : decode cX9_takeOff 87 = .ok (.iload 7, 2) := by decide +kernel
theorem dX9_takeOff_89 : decode cX9_takeOff 89 = .ok (.bipush 32, 2) := by decide +kernel
theorem dX9_takeOff_91 : decode cX9_takeOff 91 = .ok (.if_icmp .ge 50, 3) := by decide +kernel
theorem dX9_takeOff_94 : decode cX9_takeOff 94 = .ok (.aload_n 0, 1) := by decide +kernel
theorem dX9_takeOff_95 : decode cX9_takeOff 95 = .ok (.getfield 22, 3) := by decide +kernel
theorem dX9_takeOff_98 : decode cX9_takeOff 98 = .ok (.iload 7, 2) := by decide +kernel
theorem dX9_takeOff_100 : decode cX9_takeOff 100 = .ok (.iload 7, 2) := by decide +kernel
theorem dX9_takeOff_102 : decode cX9_takeOff 102 = .ok (.bipush 8, 2) := by decide +kernel
theorem dX9_takeOff_104 : decode cX9_takeOff 104 = .ok (.irem, 1) := by decide +kernel
theorem dX9_takeOff_105 : decode cX9_takeOff 105 = .ok (.iload 5, 2) := by decide +kernel
theorem dX9_takeOff_107 : decode cX9_takeOff 107 = .ok (.if_icmp .lt 20, 3) := by decide +kernel
theorem dX9_takeOff_110 : decode cX9_takeOff 110 = .ok (.iconst 0, 1) := by decide +kernel
theorem dX9_takeOff_111 : decode cX9_takeOff 111 = .ok (.aload_n 0, 1) := by decide +kernel
theorem dX9_takeOff_112 : decode cX9_takeOff 112 = .ok (.getfield 61, 3) := by decide +kernel
theorem dX9_takeOff_115 : decode cX9_takeOff 115 = .ok (.iload 7, 2) := by decide +kernel
theorem dX9_takeOff_117 : decode cX9_takeOff 117 = .ok (.iaload, 1) := by decide +kernel
theorem dX9_takeOff_118 : decode cX9_takeOff 118 = .ok (.iload 6, 2) := by decide +kernel
theorem dX9_takeOff_120 : decode cX9_takeOff 120 = .ok (.isub, 1) := by decide +kernel
theorem dX9_takeOff_121 : decode cX9_takeOff 121 = .ok (.invokestatic 166, 3) := by decide +kernel
theorem dX9_takeOff_124 : decode cX9_takeOff 124 = .ok (.goto 10, 3) := by decide +kernel
theorem dX9_takeOff_127 : decode cX9_takeOff 127 = .ok (.aload_n 0, 1) := by decide +kernel
theorem dX9_takeOff_128 : decode cX9_takeOff 128 = .ok (.getfield 61, 3) := by decide +kernel
theorem dX9_takeOff_131 : decode cX9_takeOff 131 = .ok (.iload 7, 2) := by decide +kernel
theorem dX9_takeOff_133 : decode cX9_takeOff 133 = .ok (.iaload, 1) := by decide +kernel
theorem dX9_takeOff_134 : decode cX9_takeOff 134 = .ok (.iastore, 1) := by decide +kernel
theorem dX9_takeOff_135 : decode cX9_takeOff 135 = .ok (.iinc 7 1, 3) := by decide +kernel
theorem dX9_takeOff_138 : decode cX9_takeOff 138 = .ok (.goto (-51), 3) := by decide +kernel
theorem dX9_takeOff_141 : decode cX9_takeOff 141 = .ok (.aload_n 0, 1) := by decide +kernel
theorem dX9_takeOff_142 : decode cX9_takeOff 142 = .ok (.invokevirtual 236, 3) := by decide +kernel
theorem dX9_takeOff_145 : decode cX9_takeOff 145 = .ok (.istore 7, 2) := by decide +kernel
theorem dX9_takeOff_147 : decode cX9_takeOff 147 = .ok (.iload 7, 2) := by decide +kernel
theorem dX9_takeOff_149 : decode cX9_takeOff 149 = .ok (.iload_n 2, 1) := by decide +kernel
theorem dX9_takeOff_150 : decode cX9_takeOff 150 = .ok (.if_icmp .le 13, 3) := by decide +kernel
theorem dX9_takeOff_153 : decode cX9_takeOff 153 = .ok (.iload 7, 2) := by decide +kernel
theorem dX9_takeOff_155 : decode cX9_takeOff 155 = .ok (.istore_n 2, 1) := by decide +kernel
theorem dX9_takeOff_156 : decode cX9_takeOff 156 = .ok (.iload 5, 2) := by decide +kernel
theorem dX9_takeOff_158 : decode cX9_takeOff 158 = .ok (.istore_n 3, 1) := by decide +kernel
theorem dX9_takeOff_159 : decode cX9_takeOff 159 = .ok (.iload 6, 2) := by decide +kernel
theorem dX9_takeOff_161 : decode cX9_takeOff 161 = .ok (.istore 4, 2) := by decide +kernel
theorem dX9_takeOff_163 : decode cX9_takeOff 163 = .ok (.iinc 6 1, 3) := by decide +kernel
theorem dX9_takeOff_166 : decode cX9_takeOff 166 = .ok (.goto (-89), 3) := by decide +kernel
theorem dX9_takeOff_169 : decode cX9_takeOff 169 = .ok (.iinc 5 1, 3) := by decide +kernel
theorem dX9_takeOff_172 : decode cX9_takeOff 172 = .ok (.goto (-107), 3) := by decide +kernel
theorem dX9_takeOff_175 : decode cX9_takeOff 175 = .ok (.iconst 0, 1) := by decide +kernel
theorem dX9_takeOff_176 : decode cX9_takeOff 176 = .ok (.istore 5, 2) := by decide +kernel
theorem dX9_takeOff_178 : decode cX9_takeOff 178 = .ok (.iload 5, 2) := by decide +kernel
theorem dX9_takeOff_180 : decode cX9_takeOff 180 = .ok (.bipush 32, 2) := by decide +kernel
theorem dX9_takeOff_182 : decode cX9_takeOff 182 = .ok (.if_icmp .ge 23, 3) := by decide +kernel
theorem dX9_takeOff_185 : decode cX9_takeOff 185 = .ok (.aload_n 0, 1) := by decide +kernel
theorem dX9_takeOff_186 : decode cX9_takeOff 186 = .ok (.getfield 22, 3) := by decide +kernel
theorem dX9_takeOff_189 : decode cX9_takeOff 189 = .ok (.iload 5, 2) := by decide +kernel
theorem dX9_takeOff_191 : decode cX9_takeOff 191 = .ok (.aload_n 0, 1) := by decide +kernel
theorem dX9_takeOff_192 : decode cX9_takeOff 192 = .ok (.getfield 61, 3) := by decide +kernel
theorem dX9_takeOff_195 : decode cX9_takeOff 195 = .ok (.iload 5, 2) := by decide +kernel
theorem dX9_takeOff_197 : decode cX9_takeOff 197 = .ok (.iaload, 1) := by decide +kernel
theorem dX9_takeOff_198 : decode cX9_takeOff 198 = .ok (.iastore, 1) := by decide +kernel
theorem dX9_takeOff_199 : decode cX9_takeOff 199 = .ok (.iinc 5 1, 3) := by decide +kernel
theorem dX9_takeOff_202 : decode cX9_takeOff 202 = .ok (.goto (-24), 3) := by decide +kernel
theorem dX9_takeOff_205 : decode cX9_takeOff 205 = .ok (.iload_n 1, 1) := by decide +kernel
theorem dX9_takeOff_206 : decode cX9_takeOff 206 = .ok (.ifCond .ne 7, 3) := by decide +kernel
theorem dX9_takeOff_209 : decode cX9_takeOff 209 = .ok (.iload_n 2, 1) := by decide +kernel
theorem dX9_takeOff_210 : decode cX9_takeOff 210 = .ok (.goto 14, 3) := by decide +kernel
theorem dX9_takeOff_213 : decode cX9_takeOff 213 = .ok (.iload_n 1, 1) := by decide +kernel
theorem dX9_takeOff_214 : decode cX9_takeOff 214 = .ok (.iconst 1, 1) := by decide +kernel
theorem dX9_takeOff_215 : decode cX9_takeOff 215 = .ok (.if_icmp .ne 7, 3) := by decide +kernel
theorem dX9_takeOff_218 : decode cX9_takeOff 218 = .ok (.iload_n 3, 1) := by decide +kernel
theorem dX9_takeOff_219 : decode cX9_takeOff 219 = .ok (.goto 5, 3) := by decide +kernel
theorem dX9_takeOff_222 : decode cX9_takeOff 222 = .ok (.iload 4, 2) := by decide +kernel
theorem dX9_takeOff_224 : decode cX9_takeOff 224 = .ok (.ireturn, 1) := by decide +kernel
theorem dX9_layFish_0 : decode cX9_layFish 0 = .ok (.iload_n 1, 1) := by decide +kernel
theorem dX9_layFish_1 : decode cX9_layFish 1 = .ok (.istore_n 2, 1) := by decide +kernel
theorem dX9_layFish_2 : decode cX9_layFish 2 = .ok (.aload_n 0, 1) := by decide +kernel
theorem dX9_layFish_3 : decode cX9_layFish 3 = .ok (.getfield 116, 3) := by decide +kernel
theorem dX9_layFish_6 : decode cX9_layFish 6 = .ok (.iconst 1, 1) := by decide +kernel
theorem dX9_layFish_7 : decode cX9_layFish 7 = .ok (.isub, 1) := by decide +kernel
theorem dX9_layFish_8 : decode cX9_layFish 8 = .ok (.istore_n 3, 1) := by decide +kernel
theorem dX9_layFish_9 : decode cX9_layFish 9 = .ok (.iload_n 3, 1) := by decide +kernel
theorem dX9_layFish_10 : decode cX9_layFish 10 = .ok (.ifCond .lt 24, 3) := by decide +kernel
theorem dX9_layFish_13 : decode cX9_layFish 13 = .ok (.aload_n 0, 1) := by decide +kernel
theorem dX9_layFish_14 : decode cX9_layFish 14 = .ok (.getfield 7, 3) := by decide +kernel
theorem dX9_layFish_17 : decode cX9_layFish 17 = .ok (.iload_n 3, 1) := by decide +kernel
theorem dX9_layFish_18 : decode cX9_layFish 18 = .ok (.iload_n 2, 1) := by decide +kernel
theorem dX9_layFish_19 : decode cX9_layFish 19 = .ok (.bipush 10, 2) := by decide +kernel
theorem dX9_layFish_21 : decode cX9_layFish 21 = .ok (.irem, 1) := by decide +kernel
theorem dX9_layFish_22 : decode cX9_layFish 22 = .ok (.iastore, 1) := by decide +kernel
theorem dX9_layFish_23 : decode cX9_layFish 23 = .ok (.iload_n 2, 1) := by decide +kernel
theorem dX9_layFish_24 : decode cX9_layFish 24 = .ok (.bipush 10, 2) := by decide +kernel
theorem dX9_layFish_26 : decode cX9_layFish 26 = .ok (.idiv, 1) := by decide +kernel
theorem dX9_layFish_27 : decode cX9_layFish 27 = .ok (.istore_n 2, 1) := by decide +kernel
theorem dX9_layFish_28 : decode cX9_layFish 28 = .ok (.iinc 3 (-1), 3) := by decide +kernel
theorem dX9_layFish_31 : decode cX9_layFish 31 = .ok (.goto (-22), 3) := by decide +kernel
theorem dX9_layFish_34 : decode cX9_layFish 34 = .ok (.return_, 1) := by decide +kernel
theorem dX9_fetch_0 : decode cX9_fetch 0 = .ok (.iload_n 1, 1) := by decide +kernel
theorem dX9_fetch_1 : decode cX9_fetch 1 = .ok (.i2l, 1) := by decide +kernel
theorem dX9_fetch_2 : decode cX9_fetch 2 = .ok (.ldc2_w 239, 3) := by decide +kernel
theorem dX9_fetch_5 : decode cX9_fetch 5 = .ok (.ldc2_w 231, 3) := by decide +kernel
theorem dX9_fetch_8 : decode cX9_fetch 8 = .ok (.invokestatic 87, 3) := by decide +kernel
theorem dX9_fetch_11 : decode cX9_fetch 11 = .ok (.ifCond .ne 5, 3) := by decide +kernel
theorem dX9_fetch_14 : decode cX9_fetch 14 = .ok (.iconst (-1), 1) := by decide +kernel
theorem dX9_fetch_15 : decode cX9_fetch 15 = .ok (.ireturn, 1) := by decide +kernel
theorem dX9_fetch_16 : decode cX9_fetch 16 = .ok (.aload_n 0, 1) := by decide +kernel
theorem dX9_fetch_17 : decode cX9_fetch 17 = .ok (.getfield 116, 3) := by decide +kernel
theorem dX9_fetch_20 : decode cX9_fetch 20 = .ok (.ifCond .ne 6, 3) := by decide +kernel
theorem dX9_fetch_23 : decode cX9_fetch 23 = .ok (.bipush (-3), 2) := by decide +kernel
theorem dX9_fetch_25 : decode cX9_fetch 25 = .ok (.ireturn, 1) := by decide +kernel
theorem dX9_fetch_26 : decode cX9_fetch 26 = .ok (.iconst 1, 1) := by decide +kernel
theorem dX9_fetch_27 : decode cX9_fetch 27 = .ok (.istore_n 2, 1) := by decide +kernel
theorem dX9_fetch_28 : decode cX9_fetch 28 = .ok (.iconst 0, 1) := by decide +kernel
theorem dX9_fetch_29 : decode cX9_fetch 29 = .ok (.istore_n 3, 1) := by decide +kernel
theorem dX9_fetch_30 : decode cX9_fetch 30 = .ok (.iload_n 3, 1) := by decide +kernel
theorem dX9_fetch_31 : decode cX9_fetch 31 = .ok (.aload_n 0, 1) := by decide +kernel
theorem dX9_fetch_32 : decode cX9_fetch 32 = .ok (.getfield 116, 3) := by decide +kernel
theorem dX9_fetch_35 : decode cX9_fetch 35 = .ok (.if_icmp .ge 26, 3) := by decide +kernel
theorem dX9_fetch_38 : decode cX9_fetch 38 = .ok (.aload_n 0, 1) := by decide +kernel
theorem dX9_fetch_39 : decode cX9_fetch 39 = .ok (.getfield 64, 3) := by decide +kernel
theorem dX9_fetch_42 : decode cX9_fetch 42 = .ok (.iload_n 3, 1) := by decide +kernel
theorem dX9_fetch_43 : decode cX9_fetch 43 = .ok (.aload_n 0, 1) := by decide +kernel
theorem dX9_fetch_44 : decode cX9_fetch 44 = .ok (.getfield 7, 3) := by decide +kernel
theorem dX9_fetch_47 : decode cX9_fetch 47 = .ok (.iload_n 3, 1) := by decide +kernel
theorem dX9_fetch_48 : decode cX9_fetch 48 = .ok (.iaload, 1) := by decide +kernel
theorem dX9_fetch_49 : decode cX9_fetch 49 = .ok (.iastore, 1) := by decide +kernel
theorem dX9_fetch_50 : decode cX9_fetch 50 = .ok (.iload_n 2, 1) := by decide +kernel
theorem dX9_fetch_51 : decode cX9_fetch 51 = .ok (.bipush 10, 2) := by decide +kernel
theorem dX9_fetch_53 : decode cX9_fetch 53 = .ok (.imul, 1) := by decide +kernel
theorem dX9_fetch_54 : decode cX9_fetch 54 = .ok (.istore_n 2, 1) := by decide +kernel
theorem dX9_fetch_55 : decode cX9_fetch 55 = .ok (.iinc 3 1, 3) := by decide +kernel
theorem dX9_fetch_58 : decode cX9_fetch 58 = .ok (.goto (-28), 3) := by decide +kernel
theorem dX9_fetch_61 : decode cX9_fetch 61 = .ok (.bipush (-9), 2) := by decide +kernel
theorem dX9_fetch_63 : decode cX9_fetch 63 = .ok (.istore_n 3, 1) := by decide +kernel
theorem dX9_fetch_64 : decode cX9_fetch 64 = .ok (.iconst 0, 1) := by decide +kernel
theorem dX9_fetch_65 : decode cX9_fetch 65 = .ok (.istore 4, 2) := by decide +kernel
theorem dX9_fetch_67 : decode cX9_fetch 67 = .ok (.iconst 0, 1) := by decide +kernel
theorem dX9_fetch_68 : decode cX9_fetch 68 = .ok (.istore 5, 2) := by decide +kernel
theorem dX9_fetch_70 : decode cX9_fetch 70 = .ok (.iload 5, 2) := by decide +kernel
theorem dX9_fetch_72 : decode cX9_fetch 72 = .ok (.iload_n 2, 1) := by decide +kernel
theorem dX9_fetch_73 : decode cX9_fetch 73 = .ok (.if_icmp .ge 39, 3) := by decide +kernel
theorem dX9_fetch_76 : decode cX9_fetch 76 = .ok (.aload_n 0, 1) := by decide +kernel
theorem dX9_fetch_77 : decode cX9_fetch 77 = .ok (.iload 5, 2) := by decide +kernel
theorem dX9_fetch_79 : decode cX9_fetch 79 = .ok (.invokevirtual 241, 3) := by decide +kernel
theorem dX9_fetch_82 : decode cX9_fetch 82 = .ok (.aload_n 0, 1) := by decide +kernel
theorem dX9_fetch_83 : decode cX9_fetch 83 = .ok (.invokevirtual 236, 3) := by decide +kernel
theorem dX9_fetch_86 : decode cX9_fetch 86 = .ok (.istore 6, 2) := by decide +kernel
theorem dX9_fetch_88 : decode cX9_fetch 88 = .ok (.iload_n 3, 1) := by decide +kernel
theorem dX9_fetch_89 : decode cX9_fetch 89 = .ok (.ifCond .lt 10, 3) := by decide +kernel
theorem dX9_fetch_92 : decode cX9_fetch 92 = .ok (.iload 6, 2) := by decide +kernel
theorem dX9_fetch_94 : decode cX9_fetch 94 = .ok (.iload 4, 2) := by decide +kernel
theorem dX9_fetch_96 : decode cX9_fetch 96 = .ok (.if_icmp .le 10, 3) := by decide +kernel
theorem dX9_fetch_99 : decode cX9_fetch 99 = .ok (.iload 5, 2) := by decide +kernel
theorem dX9_fetch_101 : decode cX9_fetch 101 = .ok (.istore_n 3, 1) := by decide +kernel
theorem dX9_fetch_102 : decode cX9_fetch 102 = .ok (.iload 6, 2) := by decide +kernel
theorem dX9_fetch_104 : decode cX9_fetch 104 = .ok (.istore 4, 2) := by decide +kernel
theorem dX9_fetch_106 : decode cX9_fetch 106 = .ok (.iinc 5 1, 3) := by decide +kernel
theorem dX9_fetch_109 : decode cX9_fetch 109 = .ok (.goto (-39), 3) := by decide +kernel
theorem dX9_fetch_112 : decode cX9_fetch 112 = .ok (.aload_n 0, 1) := by decide +kernel
theorem dX9_fetch_113 : decode cX9_fetch 113 = .ok (.iload_n 3, 1) := by decide +kernel
theorem dX9_fetch_114 : decode cX9_fetch 114 = .ok (.invokevirtual 241, 3) := by decide +kernel
theorem dX9_fetch_117 : decode cX9_fetch 117 = .ok (.iload_n 1, 1) := by decide +kernel
theorem dX9_fetch_118 : decode cX9_fetch 118 = .ok (.ifCond .ge 8, 3) := by decide +kernel
theorem dX9_fetch_121 : decode cX9_fetch 121 = .ok (.iload 4, 2) := by decide +kernel
theorem dX9_fetch_123 : decode cX9_fetch 123 = .ok (.goto 22, 3) := by decide +kernel
theorem dX9_fetch_126 : decode cX9_fetch 126 = .ok (.iload_n 1, 1) := by decide +kernel
theorem dX9_fetch_127 : decode cX9_fetch 127 = .ok (.aload_n 0, 1) := by decide +kernel
theorem dX9_fetch_128 : decode cX9_fetch 128 = .ok (.getfield 116, 3) := by decide +kernel
theorem dX9_fetch_131 : decode cX9_fetch 131 = .ok (.if_icmp .ge 12, 3) := by decide +kernel
theorem dX9_fetch_134 : decode cX9_fetch 134 = .ok (.aload_n 0, 1) := by decide +kernel
theorem dX9_fetch_135 : decode cX9_fetch 135 = .ok (.getfield 7, 3) := by decide +kernel
theorem dX9_fetch_138 : decode cX9_fetch 138 = .ok (.iload_n 1, 1) := by decide +kernel
theorem dX9_fetch_139 : decode cX9_fetch 139 = .ok (.iaload, 1) := by decide +kernel
theorem dX9_fetch_140 : decode cX9_fetch 140 = .ok (.goto 5, 3) := by decide +kernel
theorem dX9_fetch_143 : decode cX9_fetch 143 = .ok (.bipush (-9), 2) := by decide +kernel
theorem dX9_fetch_145 : decode cX9_fetch 145 = .ok (.istore 5, 2) := by decide +kernel
theorem dX9_fetch_147 : decode cX9_fetch 147 = .ok (.iconst 0, 1) := by decide +kernel
theorem dX9_fetch_148 : decode cX9_fetch 148 = .ok (.istore 6, 2) := by decide +kernel
theorem dX9_fetch_150 : decode cX9_fetch 150 = .ok (.iload 6, 2) := by decide +kernel
theorem dX9_fetch_152 : decode cX9_fetch 152 = .ok (.aload_n 0, 1) := by decide +kernel
theorem dX9_fetch_153 : decode cX9_fetch 153 = .ok (.getfield 116, 3) := by decide +kernel
theorem dX9_fetch_156 : decode cX9_fetch 156 = .ok (.if_icmp .ge 23, 3) := by decide +kernel
theorem dX9_fetch_159 : decode cX9_fetch 159 = .ok (.aload_n 0, 1) := by decide +kernel
theorem dX9_fetch_160 : decode cX9_fetch 160 = .ok (.getfield 7, 3) := by decide +kernel
theorem dX9_fetch_163 : decode cX9_fetch 163 = .ok (.iload 6, 2) := by decide +kernel
theorem dX9_fetch_165 : decode cX9_fetch 165 = .ok (.aload_n 0, 1) := by decide +kernel
theorem dX9_fetch_166 : decode cX9_fetch 166 = .ok (.getfield 64, 3) := by decide +kernel
theorem dX9_fetch_169 : decode cX9_fetch 169 = .ok (.iload 6, 2) := by decide +kernel
theorem dX9_fetch_171 : decode cX9_fetch 171 = .ok (.iaload, 1) := by decide +kernel
theorem dX9_fetch_172 : decode cX9_fetch 172 = .ok (.iastore, 1) := by decide +kernel
theorem dX9_fetch_173 : decode cX9_fetch 173 = .ok (.iinc 6 1, 3) := by decide +kernel
theorem dX9_fetch_176 : decode cX9_fetch 176 = .ok (.goto (-26), 3) := by decide +kernel
theorem dX9_fetch_179 : decode cX9_fetch 179 = .ok (.iload 5, 2) := by decide +kernel
theorem dX9_fetch_181 : decode cX9_fetch 181 = .ok (.ireturn, 1) := by decide +kernel
theorem dX9_carried_0 : decode cX9_carried 0 = .ok (.aload_n 0, 1) := by decide +kernel
theorem dX9_carried_1 : decode cX9_carried 1 = .ok (.iload_n 1, 1) := by decide +kernel
theorem dX9_carried_2 : decode cX9_carried 2 = .ok (.invokevirtual 163, 3) := by decide +kernel
theorem dX9_carried_5 : decode cX9_carried 5 = .ok (.ifCond .eq 5, 3) := by decide +kernel
theorem dX9_carried_8 : decode cX9_carried 8 = .ok (.iconst (-1), 1) := by decide +kernel
theorem dX9_carried_9 : decode cX9_carried 9 = .ok (.ireturn, 1) := by decide +kernel
theorem dX9_carried_10 : decode cX9_carried 10 = .ok (.aload_n 0, 1) := by decide +kernel
theorem dX9_carried_11 : decode cX9_carried 11 = .ok (.getfield 7, 3) := by decide +kernel
theorem dX9_carried_14 : decode cX9_carried 14 = .ok (.iload_n 1, 1) := by decide +kernel
theorem dX9_carried_15 : decode cX9_carried 15 = .ok (.iaload, 1) := by decide +kernel
theorem dX9_carried_16 : decode cX9_carried 16 = .ok (.istore_n 2, 1) := by decide +kernel
theorem dX9_carried_17 : decode cX9_carried 17 = .ok (.aload_n 0, 1) := by decide +kernel
theorem dX9_carried_18 : decode cX9_carried 18 = .ok (.invokevirtual 236, 3) := by decide +kernel
theorem dX9_carried_21 : decode cX9_carried 21 = .ok (.istore_n 3, 1) := by decide +kernel
theorem dX9_carried_22 : decode cX9_carried 22 = .ok (.aload_n 0, 1) := by decide +kernel
theorem dX9_carried_23 : decode cX9_carried 23 = .ok (.getfield 7, 3) := by decide +kernel
theorem dX9_carried_26 : decode cX9_carried 26 = .ok (.iload_n 1, 1) := by decide +kernel
theorem dX9_carried_27 : decode cX9_carried 27 = .ok (.iconst 0, 1) := by decide +kernel
theorem dX9_carried_28 : decode cX9_carried 28 = .ok (.iastore, 1) := by decide +kernel
theorem dX9_carried_29 : decode cX9_carried 29 = .ok (.aload_n 0, 1) := by decide +kernel
theorem dX9_carried_30 : decode cX9_carried 30 = .ok (.invokevirtual 236, 3) := by decide +kernel
theorem dX9_carried_33 : decode cX9_carried 33 = .ok (.istore 4, 2) := by decide +kernel
theorem dX9_carried_35 : decode cX9_carried 35 = .ok (.aload_n 0, 1) := by decide +kernel
theorem dX9_carried_36 : decode cX9_carried 36 = .ok (.getfield 7, 3) := by decide +kernel
theorem dX9_carried_39 : decode cX9_carried 39 = .ok (.iload_n 1, 1) := by decide +kernel
theorem dX9_carried_40 : decode cX9_carried 40 = .ok (.iload_n 2, 1) := by decide +kernel
theorem dX9_carried_41 : decode cX9_carried 41 = .ok (.iastore, 1) := by decide +kernel
theorem dX9_carried_42 : decode cX9_carried 42 = .ok (.iload_n 3, 1) := by decide +kernel
theorem dX9_carried_43 : decode cX9_carried 43 = .ok (.iload 4, 2) := by decide +kernel
theorem dX9_carried_45 : decode cX9_carried 45 = .ok (.isub, 1) := by decide +kernel
theorem dX9_carried_46 : decode cX9_carried 46 = .ok (.ireturn, 1) := by decide +kernel
theorem dX9_cook_0 : decode cX9_cook 0 = .ok (.aload_n 0, 1) := by decide +kernel
theorem dX9_cook_1 : decode cX9_cook 1 = .ok (.iload_n 1, 1) := by decide +kernel
theorem dX9_cook_2 : decode cX9_cook 2 = .ok (.invokevirtual 163, 3) := by decide +kernel
theorem dX9_cook_5 : decode cX9_cook 5 = .ok (.ifCond .ne 11, 3) := by decide +kernel
theorem dX9_cook_8 : decode cX9_cook 8 = .ok (.aload_n 0, 1) := by decide +kernel
theorem dX9_cook_9 : decode cX9_cook 9 = .ok (.iload_n 2, 1) := by decide +kernel
theorem dX9_cook_10 : decode cX9_cook 10 = .ok (.invokevirtual 170, 3) := by decide +kernel
theorem dX9_cook_13 : decode cX9_cook 13 = .ok (.ifCond .eq 5, 3) := by decide +kernel
theorem dX9_cook_16 : decode cX9_cook 16 = .ok (.iconst (-1), 1) := by decide +kernel
theorem dX9_cook_17 : decode cX9_cook 17 = .ok (.ireturn, 1) := by decide +kernel
theorem dX9_cook_18 : decode cX9_cook 18 = .ok (.iload_n 3, 1) := by decide +kernel
theorem dX9_cook_19 : decode cX9_cook 19 = .ok (.invokestatic 183, 3) := by decide +kernel
theorem dX9_cook_22 : decode cX9_cook 22 = .ok (.ifCond .ne 6, 3) := by decide +kernel
theorem dX9_cook_25 : decode cX9_cook 25 = .ok (.bipush (-2), 2) := by decide +kernel
theorem dX9_cook_27 : decode cX9_cook 27 = .ok (.ireturn, 1) := by decide +kernel
theorem dX9_cook_28 : decode cX9_cook 28 = .ok (.aload_n 0, 1) := by decide +kernel
theorem dX9_cook_29 : decode cX9_cook 29 = .ok (.invokevirtual 236, 3) := by decide +kernel
theorem dX9_cook_32 : decode cX9_cook 32 = .ok (.istore 4, 2) := by decide +kernel
theorem dX9_cook_34 : decode cX9_cook 34 = .ok (.aload_n 0, 1) := by decide +kernel
theorem dX9_cook_35 : decode cX9_cook 35 = .ok (.iload_n 1, 1) := by decide +kernel
theorem dX9_cook_36 : decode cX9_cook 36 = .ok (.iload_n 2, 1) := by decide +kernel
theorem dX9_cook_37 : decode cX9_cook 37 = .ok (.iload_n 3, 1) := by decide +kernel
theorem dX9_cook_38 : decode cX9_cook 38 = .ok (.invokevirtual 225, 3) := by decide +kernel
theorem dX9_cook_41 : decode cX9_cook 41 = .ok (.aload_n 0, 1) := by decide +kernel
theorem dX9_cook_42 : decode cX9_cook 42 = .ok (.invokevirtual 228, 3) := by decide +kernel
theorem dX9_cook_45 : decode cX9_cook 45 = .ok (.iload 4, 2) := by decide +kernel
theorem dX9_cook_47 : decode cX9_cook 47 = .ok (.isub, 1) := by decide +kernel
theorem dX9_cook_48 : decode cX9_cook 48 = .ok (.ireturn, 1) := by decide +kernel
theorem dX9_isMoney_0 : decode cX9_isMoney 0 = .ok (.iload_n 0, 1) := by decide +kernel
theorem dX9_isMoney_1 : decode cX9_isMoney 1 = .ok (.i2l, 1) := by decide +kernel
theorem dX9_isMoney_2 : decode cX9_isMoney 2 = .ok (.lconst 0, 1) := by decide +kernel
theorem dX9_isMoney_3 : decode cX9_isMoney 3 = .ok (.ldc2_w 245, 3) := by decide +kernel
theorem dX9_isMoney_6 : decode cX9_isMoney 6 = .ok (.invokestatic 87, 3) := by decide +kernel
theorem dX9_isMoney_9 : decode cX9_isMoney 9 = .ok (.ifCond .eq 31, 3) := by decide +kernel
theorem dX9_isMoney_12 : decode cX9_isMoney 12 = .ok (.iload_n 1, 1) := by decide +kernel
theorem dX9_isMoney_13 : decode cX9_isMoney 13 = .ok (.i2l, 1) := by decide +kernel
theorem dX9_isMoney_14 : decode cX9_isMoney 14 = .ok (.lconst 0, 1) := by decide +kernel
theorem dX9_isMoney_15 : decode cX9_isMoney 15 = .ok (.ldc2_w 245, 3) := by decide +kernel
theorem dX9_isMoney_18 : decode cX9_isMoney 18 = .ok (.invokestatic 87, 3) := by decide +kernel
theorem dX9_isMoney_21 : decode cX9_isMoney 21 = .ok (.ifCond .eq 19, 3) := by decide +kernel
theorem dX9_isMoney_24 : decode cX9_isMoney 24 = .ok (.iload_n 2, 1) := by decide +kernel
theorem dX9_isMoney_25 : decode cX9_isMoney 25 = .ok (.i2l, 1) := by decide +kernel
theorem dX9_isMoney_26 : decode cX9_isMoney 26 = .ok (.lconst 0, 1) := by decide +kernel
theorem dX9_isMoney_27 : decode cX9_isMoney 27 = .ok (.ldc2_w 245, 3) := by decide +kernel
theorem dX9_isMoney_30 : decode cX9_isMoney 30 = .ok (.invokestatic 87, 3) := by decide +kernel
theorem dX9_isMoney_33 : decode cX9_isMoney 33 = .ok (.ifCond .eq 7, 3) := by decide +kernel
theorem dX9_isMoney_36 : decode cX9_isMoney 36 = .ok (.iconst 1, 1) := by decide +kernel
theorem dX9_isMoney_37 : decode cX9_isMoney 37 = .ok (.goto 4, 3) := by decide +kernel
theorem dX9_isMoney_40 : decode cX9_isMoney 40 = .ok (.iconst 0, 1) := by decide +kernel
theorem dX9_isMoney_41 : decode cX9_isMoney 41 = .ok (.ireturn, 1) := by decide +kernel
theorem dX9_weightsOf_0 : decode cX9_weightsOf 0 = .ok (.iconst 0, 1) := by decide +kernel
theorem dX9_weightsOf_1 : decode cX9_weightsOf 1 = .ok (.istore_n 3, 1) := by decide +kernel
theorem dX9_weightsOf_2 : decode cX9_weightsOf 2 = .ok (.iconst 0, 1) := by decide +kernel
theorem dX9_weightsOf_3 : decode cX9_weightsOf 3 = .ok (.istore 4, 2) := by decide +kernel
theorem dX9_weightsOf_5 : decode cX9_weightsOf 5 = .ok (.iload 4, 2) := by decide +kernel
theorem dX9_weightsOf_7 : decode cX9_weightsOf 7 = .ok (.iload_n 2, 1) := by decide +kernel
theorem dX9_weightsOf_8 : decode cX9_weightsOf 8 = .ok (.if_icmp .ge 43, 3) := by decide +kernel
theorem dX9_weightsOf_11 : decode cX9_weightsOf 11 = .ok (.aload_n 0, 1) := by decide +kernel
theorem dX9_weightsOf_12 : decode cX9_weightsOf 12 = .ok (.getfield 79, 3) := by decide +kernel
theorem dX9_weightsOf_15 : decode cX9_weightsOf 15 = .ok (.iload_n 1, 1) := by decide +kernel
theorem dX9_weightsOf_16 : decode cX9_weightsOf 16 = .ok (.iload 4, 2) := by decide +kernel
theorem dX9_weightsOf_18 : decode cX9_weightsOf 18 = .ok (.iadd, 1) := by decide +kernel
theorem dX9_weightsOf_19 : decode cX9_weightsOf 19 = .ok (.iaload, 1) := by decide +kernel
theorem dX9_weightsOf_20 : decode cX9_weightsOf 20 = .ok (.i2l, 1) := by decide +kernel
theorem dX9_weightsOf_21 : decode cX9_weightsOf 21 = .ok (.lconst 0, 1) := by decide +kernel
theorem dX9_weightsOf_22 : decode cX9_weightsOf 22 = .ok (.ldc2_w 245, 3) := by decide +kernel
theorem dX9_weightsOf_25 : decode cX9_weightsOf 25 = .ok (.invokestatic 87, 3) := by decide +kernel
theorem dX9_weightsOf_28 : decode cX9_weightsOf 28 = .ok (.ifCond .ne 5, 3) := by decide +kernel
theorem dX9_weightsOf_31 : decode cX9_weightsOf 31 = .ok (.iconst 0, 1) := by decide +kernel
theorem dX9_weightsOf_32 : decode cX9_weightsOf 32 = .ok (.ireturn, 1) := by decide +kernel
theorem dX9_weightsOf_33 : decode cX9_weightsOf 33 = .ok (.iload_n 3, 1) := by decide +kernel
theorem dX9_weightsOf_34 : decode cX9_weightsOf 34 = .ok (.aload_n 0, 1) := by decide +kernel
theorem dX9_weightsOf_35 : decode cX9_weightsOf 35 = .ok (.getfield 79, 3) := by decide +kernel
theorem dX9_weightsOf_38 : decode cX9_weightsOf 38 = .ok (.iload_n 1, 1) := by decide +kernel
theorem dX9_weightsOf_39 : decode cX9_weightsOf 39 = .ok (.iload 4, 2) := by decide +kernel
theorem dX9_weightsOf_41 : decode cX9_weightsOf 41 = .ok (.iadd, 1) := by decide +kernel
theorem dX9_weightsOf_42 : decode cX9_weightsOf 42 = .ok (.iaload, 1) := by decide +kernel
theorem dX9_weightsOf_43 : decode cX9_weightsOf 43 = .ok (.iadd, 1) := by decide +kernel
theorem dX9_weightsOf_44 : decode cX9_weightsOf 44 = .ok (.istore_n 3, 1) := by decide +kernel
theorem dX9_weightsOf_45 : decode cX9_weightsOf 45 = .ok (.iinc 4 1, 3) := by decide +kernel
theorem dX9_weightsOf_48 : decode cX9_weightsOf 48 = .ok (.goto (-43), 3) := by decide +kernel
theorem dX9_weightsOf_51 : decode cX9_weightsOf 51 = .ok (.iload_n 3, 1) := by decide +kernel
theorem dX9_weightsOf_52 : decode cX9_weightsOf 52 = .ok (.ireturn, 1) := by decide +kernel
theorem dX9_hadBy_0 : decode cX9_hadBy 0 = .ok (.lconst 0, 1) := by decide +kernel
theorem dX9_hadBy_1 : decode cX9_hadBy 1 = .ok (.lstore 7, 2) := by decide +kernel
theorem dX9_hadBy_3 : decode cX9_hadBy 3 = .ok (.iconst 0, 1) := by decide +kernel
theorem dX9_hadBy_4 : decode cX9_hadBy 4 = .ok (.istore 9, 2) := by decide +kernel
theorem dX9_hadBy_6 : decode cX9_hadBy 6 = .ok (.iload 9, 2) := by decide +kernel
theorem dX9_hadBy_8 : decode cX9_hadBy 8 = .ok (.iload_n 2, 1) := by decide +kernel
theorem dX9_hadBy_9 : decode cX9_hadBy 9 = .ok (.if_icmp .ge 57, 3) := by decide +kernel
theorem dX9_hadBy_12 : decode cX9_hadBy 12 = .ok (.iload 9, 2) := by decide +kernel
theorem dX9_hadBy_14 : decode cX9_hadBy 14 = .ok (.iload_n 3, 1) := by decide +kernel
theorem dX9_hadBy_15 : decode cX9_hadBy 15 = .ok (.if_icmp .ge 8, 3) := by decide +kernel
theorem dX9_hadBy_18 : decode cX9_hadBy 18 = .ok (.iload 9, 2) := by decide +kernel
theorem dX9_hadBy_20 : decode cX9_hadBy 20 = .ok (.goto 4, 3) := by decide +kernel
theorem dX9_hadBy_23 : decode cX9_hadBy 23 = .ok (.iload_n 3, 1) := by decide +kernel
theorem dX9_hadBy_24 : decode cX9_hadBy 24 = .ok (.istore 10, 2) := by decide +kernel
theorem dX9_hadBy_26 : decode cX9_hadBy 26 = .ok (.lload 7, 2) := by decide +kernel
theorem dX9_hadBy_28 : decode cX9_hadBy 28 = .ok (.aload_n 0, 1) := by decide +kernel
theorem dX9_hadBy_29 : decode cX9_hadBy 29 = .ok (.getfield 79, 3) := by decide +kernel
theorem dX9_hadBy_32 : decode cX9_hadBy 32 = .ok (.iload_n 1, 1) := by decide +kernel
theorem dX9_hadBy_33 : decode cX9_hadBy 33 = .ok (.iload 9, 2) := by decide +kernel
theorem dX9_hadBy_35 : decode cX9_hadBy 35 = .ok (.iadd, 1) := by decide +kernel
theorem dX9_hadBy_36 : decode cX9_hadBy 36 = .ok (.iaload, 1) := by decide +kernel
theorem dX9_hadBy_37 : decode cX9_hadBy 37 = .ok (.iload 10, 2) := by decide +kernel
theorem dX9_hadBy_39 : decode cX9_hadBy 39 = .ok (.iload 5, 2) := by decide +kernel
theorem dX9_hadBy_41 : decode cX9_hadBy 41 = .ok (.imul, 1) := by decide +kernel
theorem dX9_hadBy_42 : decode cX9_hadBy 42 = .ok (.iload_n 3, 1) := by decide +kernel
theorem dX9_hadBy_43 : decode cX9_hadBy 43 = .ok (.iload 10, 2) := by decide +kernel
theorem dX9_hadBy_45 : decode cX9_hadBy 45 = .ok (.isub, 1) := by decide +kernel
theorem dX9_hadBy_46 : decode cX9_hadBy 46 = .ok (.iload 6, 2) := by decide +kernel
theorem dX9_hadBy_48 : decode cX9_hadBy 48 = .ok (.imul, 1) := by decide +kernel
theorem dX9_hadBy_49 : decode cX9_hadBy 49 = .ok (.iadd, 1) := by decide +kernel
theorem dX9_hadBy_50 : decode cX9_hadBy 50 = .ok (.iload_n 3, 1) := by decide +kernel
theorem dX9_hadBy_51 : decode cX9_hadBy 51 = .ok (.iload 4, 2) := by decide +kernel
theorem dX9_hadBy_53 : decode cX9_hadBy 53 = .ok (.imul, 1) := by decide +kernel
theorem dX9_hadBy_54 : decode cX9_hadBy 54 = .ok (.isub, 1) := by decide +kernel
theorem dX9_hadBy_55 : decode cX9_hadBy 55 = .ok (.imul, 1) := by decide +kernel
theorem dX9_hadBy_56 : decode cX9_hadBy 56 = .ok (.i2l, 1) := by decide +kernel
theorem dX9_hadBy_57 : decode cX9_hadBy 57 = .ok (.ladd, 1) := by decide +kernel
theorem dX9_hadBy_58 : decode cX9_hadBy 58 = .ok (.lstore 7, 2) := by decide +kernel
theorem dX9_hadBy_60 : decode cX9_hadBy 60 = .ok (.iinc 9 1, 3) := by decide +kernel
theorem dX9_hadBy_63 : decode cX9_hadBy 63 = .ok (.goto (-57), 3) := by decide +kernel
theorem dX9_hadBy_66 : decode cX9_hadBy 66 = .ok (.lload 7, 2) := by decide +kernel
theorem dX9_hadBy_68 : decode cX9_hadBy 68 = .ok (.lreturn, 1) := by decide +kernel
theorem dX9_mean_0 : decode cX9_mean 0 = .ok (.aload_n 0, 1) := by decide +kernel
theorem dX9_mean_1 : decode cX9_mean 1 = .ok (.iload_n 1, 1) := by decide +kernel
theorem dX9_mean_2 : decode cX9_mean 2 = .ok (.iload_n 2, 1) := by decide +kernel
theorem dX9_mean_3 : decode cX9_mean 3 = .ok (.iload_n 3, 1) := by decide +kernel
theorem dX9_mean_4 : decode cX9_mean 4 = .ok (.iload 4, 2) := by decide +kernel
theorem dX9_mean_6 : decode cX9_mean 6 = .ok (.i2l, 1) := by decide +kernel
theorem dX9_mean_7 : decode cX9_mean 7 = .ok (.invokevirtual 146, 3) := by decide +kernel
theorem dX9_mean_10 : decode cX9_mean 10 = .ok (.istore 10, 2) := by decide +kernel
theorem dX9_mean_12 : decode cX9_mean 12 = .ok (.iload 10, 2) := by decide +kernel
theorem dX9_mean_14 : decode cX9_mean 14 = .ok (.ifCond .ge 7, 3) := by decide +kernel
theorem dX9_mean_17 : decode cX9_mean 17 = .ok (.invokestatic 95, 3) := by decide +kernel
theorem dX9_mean_20 : decode cX9_mean 20 = .ok (.lreturn, 1) := by decide +kernel
theorem dX9_mean_21 : decode cX9_mean 21 = .ok (.aload_n 0, 1) := by decide +kernel
theorem dX9_mean_22 : decode cX9_mean 22 = .ok (.iconst 0, 1) := by decide +kernel
theorem dX9_mean_23 : decode cX9_mean 23 = .ok (.putfield 91, 3) := by decide +kernel
theorem dX9_mean_26 : decode cX9_mean 26 = .ok (.bipush 60, 2) := by decide +kernel
theorem dX9_mean_28 : decode cX9_mean 28 = .ok (.iload_n 1, 1) := by decide +kernel
theorem dX9_mean_29 : decode cX9_mean 29 = .ok (.imul, 1) := by decide +kernel
theorem dX9_mean_30 : decode cX9_mean 30 = .ok (.iload_n 3, 1) := by decide +kernel
theorem dX9_mean_31 : decode cX9_mean 31 = .ok (.iadd, 1) := by decide +kernel
theorem dX9_mean_32 : decode cX9_mean 32 = .ok (.istore 11, 2) := by decide +kernel
theorem dX9_mean_34 : decode cX9_mean 34 = .ok (.iload 4, 2) := by decide +kernel
theorem dX9_mean_36 : decode cX9_mean 36 = .ok (.i2l, 1) := by decide +kernel
theorem dX9_mean_37 : decode cX9_mean 37 = .ok (.lconst 1, 1) := by decide +kernel
theorem dX9_mean_38 : decode cX9_mean 38 = .ok (.ldc2_w 247, 3) := by decide +kernel
theorem dX9_mean_41 : decode cX9_mean 41 = .ok (.invokestatic 87, 3) := by decide +kernel
theorem dX9_mean_44 : decode cX9_mean 44 = .ok (.ifCond .eq 47, 3) := by decide +kernel
theorem dX9_mean_47 : decode cX9_mean 47 = .ok (.aload_n 0, 1) := by decide +kernel
theorem dX9_mean_48 : decode cX9_mean 48 = .ok (.iload 11, 2) := by decide +kernel
theorem dX9_mean_50 : decode cX9_mean 50 = .ok (.iload 4, 2) := by decide +kernel
theorem dX9_mean_52 : decode cX9_mean 52 = .ok (.invokevirtual 249, 3) := by decide +kernel
theorem dX9_mean_55 : decode cX9_mean 55 = .ok (.ifCond .eq 36, 3) := by decide +kernel
theorem dX9_mean_58 : decode cX9_mean 58 = .ok (.iload 5, 2) := by decide +kernel
theorem dX9_mean_60 : decode cX9_mean 60 = .ok (.i2l, 1) := by decide +kernel
theorem dX9_mean_61 : decode cX9_mean 61 = .ok (.lconst 0, 1) := by decide +kernel
theorem dX9_mean_62 : decode cX9_mean 62 = .ok (.ldc2_w 247, 3) := by decide +kernel
theorem dX9_mean_65 : decode cX9_mean 65 = .ok (.invokestatic 87, 3) := by decide +kernel
theorem dX9_mean_68 : decode cX9_mean 68 = .ok (.ifCond .eq 23, 3) := by decide +kernel
theorem dX9_mean_71 : decode cX9_mean 71 = .ok (.iload 6, 2) := by decide +kernel
theorem dX9_mean_73 : decode cX9_mean 73 = .ok (.iload 7, 2) := by decide +kernel
theorem dX9_mean_75 : decode cX9_mean 75 = .ok (.iload 8, 2) := by decide +kernel
theorem dX9_mean_77 : decode cX9_mean 77 = .ok (.invokestatic 252, 3) := by decide +kernel
theorem dX9_mean_80 : decode cX9_mean 80 = .ok (.ifCond .eq 11, 3) := by decide +kernel
theorem dX9_mean_83 : decode cX9_mean 83 = .ok (.iload 9, 2) := by decide +kernel
theorem dX9_mean_85 : decode cX9_mean 85 = .ok (.invokestatic 255, 3) := by decide +kernel
theorem dX9_mean_88 : decode cX9_mean 88 = .ok (.ifCond .ne 7, 3) := by decide +kernel
theorem dX9_mean_91 : decode cX9_mean 91 = .ok (.invokestatic 95, 3) := by decide +kernel
theorem dX9_mean_94 : decode cX9_mean 94 = .ok (.lreturn, 1) := by decide +kernel
theorem dX9_mean_95 : decode cX9_mean 95 = .ok (.aload_n 0, 1) := by decide +kernel
theorem dX9_mean_96 : decode cX9_mean 96 = .ok (.iload 11, 2) := by decide +kernel
theorem dX9_mean_98 : decode cX9_mean 98 = .ok (.iload 4, 2) := by decide +kernel
theorem dX9_mean_100 : decode cX9_mean 100 = .ok (.iload 5, 2) := by decide +kernel
theorem dX9_mean_102 : decode cX9_mean 102 = .ok (.iload 6, 2) := by decide +kernel
theorem dX9_mean_104 : decode cX9_mean 104 = .ok (.iload 7, 2) := by decide +kernel
theorem dX9_mean_106 : decode cX9_mean 106 = .ok (.iload 8, 2) := by decide +kernel
theorem dX9_mean_108 : decode cX9_mean 108 = .ok (.invokevirtual 258, 3) := by decide +kernel
theorem dX9_mean_111 : decode cX9_mean 111 = .ok (.aload_n 0, 1) := by decide +kernel
theorem dX9_mean_112 : decode cX9_mean 112 = .ok (.iload 11, 2) := by decide +kernel
theorem dX9_mean_114 : decode cX9_mean 114 = .ok (.iload 4, 2) := by decide +kernel
theorem dX9_mean_116 : decode cX9_mean 116 = .ok (.invokevirtual 249, 3) := by decide +kernel
theorem dX9_mean_119 : decode cX9_mean 119 = .ok (.i2l, 1) := by decide +kernel
theorem dX9_mean_120 : decode cX9_mean 120 = .ok (.iload 9, 2) := by decide +kernel
theorem dX9_mean_122 : decode cX9_mean 122 = .ok (.invokestatic 262, 3) := by decide +kernel
theorem dX9_mean_125 : decode cX9_mean 125 = .ok (.lreturn, 1) := by decide +kernel
theorem dX9_howMany_0 : decode cX9_howMany 0 = .ok (.aload_n 0, 1) := by decide +kernel
theorem dX9_howMany_1 : decode cX9_howMany 1 = .ok (.iload_n 1, 1) := by decide +kernel
theorem dX9_howMany_2 : decode cX9_howMany 2 = .ok (.iload_n 2, 1) := by decide +kernel
theorem dX9_howMany_3 : decode cX9_howMany 3 = .ok (.iload_n 3, 1) := by decide +kernel
theorem dX9_howMany_4 : decode cX9_howMany 4 = .ok (.iload 4, 2) := by decide +kernel
theorem dX9_howMany_6 : decode cX9_howMany 6 = .ok (.i2l, 1) := by decide +kernel
theorem dX9_howMany_7 : decode cX9_howMany 7 = .ok (.invokevirtual 146, 3) := by decide +kernel
theorem dX9_howMany_10 : decode cX9_howMany 10 = .ok (.istore 8, 2) := by decide +kernel
theorem dX9_howMany_12 : decode cX9_howMany 12 = .ok (.iload 8, 2) := by decide +kernel
theorem dX9_howMany_14 : decode cX9_howMany 14 = .ok (.ifCond .ge 6, 3) := by decide +kernel
theorem dX9_howMany_17 : decode cX9_howMany 17 = .ok (.iload 8, 2) := by decide +kernel
theorem dX9_howMany_19 : decode cX9_howMany 19 = .ok (.ireturn, 1) := by decide +kernel
theorem dX9_howMany_20 : decode cX9_howMany 20 = .ok (.bipush 60, 2) := by decide +kernel
theorem dX9_howMany_22 : decode cX9_howMany 22 = .ok (.iload_n 1, 1) := by decide +kernel
theorem dX9_howMany_23 : decode cX9_howMany 23 = .ok (.imul, 1) := by decide +kernel
theorem dX9_howMany_24 : decode cX9_howMany 24 = .ok (.iload_n 3, 1) := by decide +kernel
theorem dX9_howMany_25 : decode cX9_howMany 25 = .ok (.iadd, 1) := by decide +kernel
theorem dX9_howMany_26 : decode cX9_howMany 26 = .ok (.istore 9, 2) := by decide +kernel
theorem dX9_howMany_28 : decode cX9_howMany 28 = .ok (.iload 4, 2) := by decide +kernel
theorem dX9_howMany_30 : decode cX9_howMany 30 = .ok (.i2l, 1) := by decide +kernel
theorem dX9_howMany_31 : decode cX9_howMany 31 = .ok (.lconst 1, 1) := by decide +kernel
theorem dX9_howMany_32 : decode cX9_howMany 32 = .ok (.ldc2_w 247, 3) := by decide +kernel
theorem dX9_howMany_35 : decode cX9_howMany 35 = .ok (.invokestatic 87, 3) := by decide +kernel
theorem dX9_howMany_38 : decode cX9_howMany 38 = .ok (.ifCond .eq 26, 3) := by decide +kernel
theorem dX9_howMany_41 : decode cX9_howMany 41 = .ok (.aload_n 0, 1) := by decide +kernel
theorem dX9_howMany_42 : decode cX9_howMany 42 = .ok (.iload 9, 2) := by decide +kernel
theorem dX9_howMany_44 : decode cX9_howMany 44 = .ok (.iload 4, 2) := by decide +kernel
theorem dX9_howMany_46 : decode cX9_howMany 46 = .ok (.invokevirtual 249, 3) := by decide +kernel
theorem dX9_howMany_49 : decode cX9_howMany 49 = .ok (.ifCond .eq 15, 3) := by decide +kernel
theorem dX9_howMany_52 : decode cX9_howMany 52 = .ok (.iload 5, 2) := by decide +kernel
theorem dX9_howMany_54 : decode cX9_howMany 54 = .ok (.iload 6, 2) := by decide +kernel
theorem dX9_howMany_56 : decode cX9_howMany 56 = .ok (.iload 7, 2) := by decide +kernel
theorem dX9_howMany_58 : decode cX9_howMany 58 = .ok (.invokestatic 252, 3) := by decide +kernel
theorem dX9_howMany_61 : decode cX9_howMany 61 = .ok (.ifCond .ne 10, 3) := by decide +kernel
theorem dX9_howMany_64 : decode cX9_howMany 64 = .ok (.aload_n 0, 1) := by decide +kernel
theorem dX9_howMany_65 : decode cX9_howMany 65 = .ok (.bipush (-2), 2) := by decide +kernel
theorem dX9_howMany_67 : decode cX9_howMany 67 = .ok (.invokevirtual 103, 3) := by decide +kernel
theorem dX9_howMany_70 : decode cX9_howMany 70 = .ok (.ireturn, 1) := by decide +kernel
theorem dX9_howMany_71 : decode cX9_howMany 71 = .ok (.iconst 0, 1) := by decide +kernel
theorem dX9_howMany_72 : decode cX9_howMany 72 = .ok (.istore 10, 2) := by decide +kernel
theorem dX9_howMany_74 : decode cX9_howMany 74 = .ok (.iconst 1, 1) := by decide +kernel
theorem dX9_howMany_75 : decode cX9_howMany 75 = .ok (.istore 11, 2) := by decide +kernel
theorem dX9_howMany_77 : decode cX9_howMany 77 = .ok (.iload 11, 2) := by decide +kernel
theorem dX9_howMany_79 : decode cX9_howMany 79 = .ok (.bipush 20, 2) := by decide +kernel
theorem dX9_howMany_81 : decode cX9_howMany 81 = .ok (.if_icmp .gt 54, 3) := by decide +kernel
theorem dX9_howMany_84 : decode cX9_howMany 84 = .ok (.aload_n 0, 1) := by decide +kernel
theorem dX9_howMany_85 : decode cX9_howMany 85 = .ok (.iload 9, 2) := by decide +kernel
theorem dX9_howMany_87 : decode cX9_howMany 87 = .ok (.iload 4, 2) := by decide +kernel
theorem dX9_howMany_89 : decode cX9_howMany 89 = .ok (.iload 11, 2) := by decide +kernel
theorem dX9_howMany_91 : decode cX9_howMany 91 = .ok (.iload 5, 2) := by decide +kernel
theorem dX9_howMany_93 : decode cX9_howMany 93 = .ok (.iload 6, 2) := by decide +kernel
theorem dX9_howMany_95 : decode cX9_howMany 95 = .ok (.iload 7, 2) := by decide +kernel
theorem dX9_howMany_97 : decode cX9_howMany 97 = .ok (.invokevirtual 258, 3) := by decide +kernel
theorem dX9_howMany_100 : decode cX9_howMany 100 = .ok (.aload_n 0, 1) := by decide +kernel
theorem dX9_howMany_101 : decode cX9_howMany 101 = .ok (.iload 9, 2) := by decide +kernel
theorem dX9_howMany_103 : decode cX9_howMany 103 = .ok (.iload 4, 2) := by decide +kernel
theorem dX9_howMany_105 : decode cX9_howMany 105 = .ok (.iload 10, 2) := by decide +kernel
theorem dX9_howMany_107 : decode cX9_howMany 107 = .ok (.iload 5, 2) := by decide +kernel
theorem dX9_howMany_109 : decode cX9_howMany 109 = .ok (.iload 6, 2) := by decide +kernel
theorem dX9_howMany_111 : decode cX9_howMany 111 = .ok (.iload 7, 2) := by decide +kernel
theorem dX9_howMany_113 : decode cX9_howMany 113 = .ok (.invokevirtual 258, 3) := by decide +kernel
theorem dX9_howMany_116 : decode cX9_howMany 116 = .ok (.lcmp, 1) := by decide +kernel
theorem dX9_howMany_117 : decode cX9_howMany 117 = .ok (.ifCond .le 8, 3) := by decide +kernel
theorem dX9_howMany_120 : decode cX9_howMany 120 = .ok (.iload 11, 2) := by decide +kernel
theorem dX9_howMany_122 : decode cX9_howMany 122 = .ok (.goto 5, 3) := by decide +kernel
theorem dX9_howMany_125 : decode cX9_howMany 125 = .ok (.iload 10, 2) := by decide +kernel
theorem dX9_howMany_127 : decode cX9_howMany 127 = .ok (.istore 10, 2) := by decide +kernel
theorem dX9_howMany_129 : decode cX9_howMany 129 = .ok (.iinc 11 1, 3) := by decide +kernel
theorem dX9_howMany_132 : decode cX9_howMany 132 = .ok (.goto (-55), 3) := by decide +kernel
theorem dX9_howMany_135 : decode cX9_howMany 135 = .ok (.aload_n 0, 1) := by decide +kernel
theorem dX9_howMany_136 : decode cX9_howMany 136 = .ok (.iload 10, 2) := by decide +kernel
theorem dX9_howMany_138 : decode cX9_howMany 138 = .ok (.invokevirtual 103, 3) := by decide +kernel
theorem dX9_howMany_141 : decode cX9_howMany 141 = .ok (.ireturn, 1) := by decide +kernel
theorem dX9_right_0 : decode cX9_right 0 = .ok (.aload_n 0, 1) := by decide +kernel
theorem dX9_right_1 : decode cX9_right 1 = .ok (.getfield 116, 3) := by decide +kernel
theorem dX9_right_4 : decode cX9_right 4 = .ok (.ifCond .eq 36, 3) := by decide +kernel
theorem dX9_right_7 : decode cX9_right 7 = .ok (.iload_n 1, 1) := by decide +kernel
theorem dX9_right_8 : decode cX9_right 8 = .ok (.i2l, 1) := by decide +kernel
theorem dX9_right_9 : decode cX9_right 9 = .ok (.lconst 1, 1) := by decide +kernel
theorem dX9_right_10 : decode cX9_right 10 = .ok (.ldc2_w 245, 3) := by decide +kernel
theorem dX9_right_13 : decode cX9_right 13 = .ok (.invokestatic 87, 3) := by decide +kernel
theorem dX9_right_16 : decode cX9_right 16 = .ok (.ifCond .eq 24, 3) := by decide +kernel
theorem dX9_right_19 : decode cX9_right 19 = .ok (.iload_n 2, 1) := by decide +kernel
theorem dX9_right_20 : decode cX9_right 20 = .ok (.i2l, 1) := by decide +kernel
theorem dX9_right_21 : decode cX9_right 21 = .ok (.lconst 1, 1) := by decide +kernel
theorem dX9_right_22 : decode cX9_right 22 = .ok (.aload_n 0, 1) := by decide +kernel
theorem dX9_right_23 : decode cX9_right 23 = .ok (.getfield 119, 3) := by decide +kernel
theorem dX9_right_26 : decode cX9_right 26 = .ok (.i2l, 1) := by decide +kernel
theorem dX9_right_27 : decode cX9_right 27 = .ok (.invokestatic 87, 3) := by decide +kernel
theorem dX9_right_30 : decode cX9_right 30 = .ok (.ifCond .eq 10, 3) := by decide +kernel
theorem dX9_right_33 : decode cX9_right 33 = .ok (.iload_n 3, 1) := by decide +kernel
theorem dX9_right_34 : decode cX9_right 34 = .ok (.invokestatic 255, 3) := by decide +kernel
theorem dX9_right_37 : decode cX9_right 37 = .ok (.ifCond .ne 7, 3) := by decide +kernel
theorem dX9_right_40 : decode cX9_right 40 = .ok (.invokestatic 95, 3) := by decide +kernel
theorem dX9_right_43 : decode cX9_right 43 = .ok (.lreturn, 1) := by decide +kernel
theorem dX9_right_44 : decode cX9_right 44 = .ok (.lconst 1, 1) := by decide +kernel
theorem dX9_right_45 : decode cX9_right 45 = .ok (.iload_n 1, 1) := by decide +kernel
theorem dX9_right_46 : decode cX9_right 46 = .ok (.i2l, 1) := by decide +kernel
theorem dX9_right_47 : decode cX9_right 47 = .ok (.lmul, 1) := by decide +kernel
theorem dX9_right_48 : decode cX9_right 48 = .ok (.aload_n 0, 1) := by decide +kernel
theorem dX9_right_49 : decode cX9_right 49 = .ok (.getfield 119, 3) := by decide +kernel
theorem dX9_right_52 : decode cX9_right 52 = .ok (.i2l, 1) := by decide +kernel
theorem dX9_right_53 : decode cX9_right 53 = .ok (.lmul, 1) := by decide +kernel
theorem dX9_right_54 : decode cX9_right 54 = .ok (.iload_n 2, 1) := by decide +kernel
theorem dX9_right_55 : decode cX9_right 55 = .ok (.i2l, 1) := by decide +kernel
theorem dX9_right_56 : decode cX9_right 56 = .ok (.iload_n 3, 1) := by decide +kernel
theorem dX9_right_57 : decode cX9_right 57 = .ok (.invokestatic 262, 3) := by decide +kernel
theorem dX9_right_60 : decode cX9_right 60 = .ok (.lreturn, 1) := by decide +kernel
theorem dX9_takesGame_0 : decode cX9_takesGame 0 = .ok (.iconst 1, 1) := by decide +kernel
theorem dX9_takesGame_1 : decode cX9_takesGame 1 = .ok (.istore_n 2, 1) := by decide +kernel
theorem dX9_takesGame_2 : decode cX9_takesGame 2 = .ok (.iconst 0, 1) := by decide +kernel
theorem dX9_takesGame_3 : decode cX9_takesGame 3 = .ok (.istore_n 3, 1) := by decide +kernel
theorem dX9_takesGame_4 : decode cX9_takesGame 4 = .ok (.iload_n 3, 1) := by decide +kernel
theorem dX9_takesGame_5 : decode cX9_takesGame 5 = .ok (.iconst 4, 1) := by decide +kernel
theorem dX9_takesGame_6 : decode cX9_takesGame 6 = .ok (.if_icmp .ge 91, 3) := by decide +kernel
theorem dX9_takesGame_9 : decode cX9_takesGame 9 = .ok (.aload_n 0, 1) := by decide +kernel
theorem dX9_takesGame_10 : decode cX9_takesGame 10 = .ok (.getfield 67, 3) := by decide +kernel
theorem dX9_takesGame_13 : decode cX9_takesGame 13 = .ok (.iload_n 3, 1) := by decide +kernel
theorem dX9_takesGame_14 : decode cX9_takesGame 14 = .ok (.aload_n 0, 1) := by decide +kernel
theorem dX9_takesGame_15 : decode cX9_takesGame 15 = .ok (.getfield 79, 3) := by decide +kernel
theorem dX9_takesGame_18 : decode cX9_takesGame 18 = .ok (.iload_n 1, 1) := by decide +kernel
theorem dX9_takesGame_19 : decode cX9_takesGame 19 = .ok (.iconst 2, 1) := by decide +kernel
theorem dX9_takesGame_20 : decode cX9_takesGame 20 = .ok (.iload_n 3, 1) := by decide +kernel
theorem dX9_takesGame_21 : decode cX9_takesGame 21 = .ok (.imul, 1) := by decide +kernel
theorem dX9_takesGame_22 : decode cX9_takesGame 22 = .ok (.iadd, 1) := by decide +kernel
theorem dX9_takesGame_23 : decode cX9_takesGame 23 = .ok (.iaload, 1) := by decide +kernel
theorem dX9_takesGame_24 : decode cX9_takesGame 24 = .ok (.iastore, 1) := by decide +kernel
theorem dX9_takesGame_25 : decode cX9_takesGame 25 = .ok (.aload_n 0, 1) := by decide +kernel
theorem dX9_takesGame_26 : decode cX9_takesGame 26 = .ok (.getfield 70, 3) := by decide +kernel
theorem dX9_takesGame_29 : decode cX9_takesGame 29 = .ok (.iload_n 3, 1) := by decide +kernel
theorem dX9_takesGame_30 : decode cX9_takesGame 30 = .ok (.aload_n 0, 1) := by decide +kernel
theorem dX9_takesGame_31 : decode cX9_takesGame 31 = .ok (.getfield 79, 3) := by decide +kernel
theorem dX9_takesGame_34 : decode cX9_takesGame 34 = .ok (.iload_n 1, 1) := by decide +kernel
theorem dX9_takesGame_35 : decode cX9_takesGame 35 = .ok (.iconst 2, 1) := by decide +kernel
theorem dX9_takesGame_36 : decode cX9_takesGame 36 = .ok (.iload_n 3, 1) := by decide +kernel
theorem dX9_takesGame_37 : decode cX9_takesGame 37 = .ok (.imul, 1) := by decide +kernel
theorem dX9_takesGame_38 : decode cX9_takesGame 38 = .ok (.iadd, 1) := by decide +kernel
theorem dX9_takesGame_39 : decode cX9_takesGame 39 = .ok (.iconst 1, 1) := by decide +kernel
theorem dX9_takesGame_40 : decode cX9_takesGame 40 = .ok (.iadd, 1) := by decide +kernel
theorem dX9_takesGame_41 : decode cX9_takesGame 41 = .ok (.iaload, 1) := by decide +kernel
theorem dX9_takesGame_42 : decode cX9_takesGame 42 = .ok (.iastore, 1) := by decide +kernel
theorem dX9_takesGame_43 : decode cX9_takesGame 43 = .ok (.iload_n 2, 1) := by decide +kernel
theorem dX9_takesGame_44 : decode cX9_takesGame 44 = .ok (.ifCond .eq 45, 3) := by decide +kernel
theorem dX9_takesGame_47 : decode cX9_takesGame 47 = .ok (.aload_n 0, 1) := by decide +kernel
theorem dX9_takesGame_48 : decode cX9_takesGame 48 = .ok (.getfield 67, 3) := by decide +kernel
theorem dX9_takesGame_51 : decode cX9_takesGame 51 = .ok (.iload_n 3, 1) := by decide +kernel
theorem dX9_takesGame_52 : decode cX9_takesGame 52 = .ok (.iaload, 1) := by decide +kernel
theorem dX9_takesGame_53 : decode cX9_takesGame 53 = .ok (.i2l, 1) := by decide +kernel
theorem dX9_takesGame_54 : decode cX9_takesGame 54 = .ok (.ldc2_w 266, 3) := by decide +kernel
theorem dX9_takesGame_57 : decode cX9_takesGame 57 = .ok (.ldc2_w 245, 3) := by decide +kernel
theorem dX9_takesGame_60 : decode cX9_takesGame 60 = .ok (.invokestatic 87, 3) := by decide +kernel
theorem dX9_takesGame_63 : decode cX9_takesGame 63 = .ok (.ifCond .eq 26, 3) := by decide +kernel
theorem dX9_takesGame_66 : decode cX9_takesGame 66 = .ok (.aload_n 0, 1) := by decide +kernel
theorem dX9_takesGame_67 : decode cX9_takesGame 67 = .ok (.getfield 70, 3) := by decide +kernel
theorem dX9_takesGame_70 : decode cX9_takesGame 70 = .ok (.iload_n 3, 1) := by decide +kernel
theorem dX9_takesGame_71 : decode cX9_takesGame 71 = .ok (.iaload, 1) := by decide +kernel
theorem dX9_takesGame_72 : decode cX9_takesGame 72 = .ok (.i2l, 1) := by decide +kernel
theorem dX9_takesGame_73 : decode cX9_takesGame 73 = .ok (.ldc2_w 266, 3) := by decide +kernel
theorem dX9_takesGame_76 : decode cX9_takesGame 76 = .ok (.ldc2_w 245, 3) := by decide +kernel
theorem dX9_takesGame_79 : decode cX9_takesGame 79 = .ok (.invokestatic 87, 3) := by decide +kernel
theorem dX9_takesGame_82 : decode cX9_takesGame 82 = .ok (.ifCond .eq 7, 3) := by decide +kernel
theorem dX9_takesGame_85 : decode cX9_takesGame 85 = .ok (.iconst 1, 1) := by decide +kernel
theorem dX9_takesGame_86 : decode cX9_takesGame 86 = .ok (.goto 4, 3) := by decide +kernel
theorem dX9_takesGame_89 : decode cX9_takesGame 89 = .ok (.iconst 0, 1) := by decide +kernel
theorem dX9_takesGame_90 : decode cX9_takesGame 90 = .ok (.istore_n 2, 1) := by decide +kernel
theorem dX9_takesGame_91 : decode cX9_takesGame 91 = .ok (.iinc 3 1, 3) := by decide +kernel
theorem dX9_takesGame_94 : decode cX9_takesGame 94 = .ok (.goto (-90), 3) := by decide +kernel
theorem dX9_takesGame_97 : decode cX9_takesGame 97 = .ok (.iload_n 2, 1) := by decide +kernel
theorem dX9_takesGame_98 : decode cX9_takesGame 98 = .ok (.ireturn, 1) := by decide +kernel
theorem dX9_rests_0 : decode cX9_rests 0 = .ok (.aload_n 0, 1) := by decide +kernel
theorem dX9_rests_1 : decode cX9_rests 1 = .ok (.iload_n 1, 1) := by decide +kernel
theorem dX9_rests_2 : decode cX9_rests 2 = .ok (.iload_n 2, 1) := by decide +kernel
theorem dX9_rests_3 : decode cX9_rests 3 = .ok (.iload_n 3, 1) := by decide +kernel
theorem dX9_rests_4 : decode cX9_rests 4 = .ok (.ldc2_w 268, 3) := by decide +kernel
theorem dX9_rests_7 : decode cX9_rests 7 = .ok (.invokevirtual 146, 3) := by decide +kernel
theorem dX9_rests_10 : decode cX9_rests 10 = .ok (.istore 4, 2) := by decide +kernel
theorem dX9_rests_12 : decode cX9_rests 12 = .ok (.iload 4, 2) := by decide +kernel
theorem dX9_rests_14 : decode cX9_rests 14 = .ok (.ifCond .ge 6, 3) := by decide +kernel
theorem dX9_rests_17 : decode cX9_rests 17 = .ok (.iload 4, 2) := by decide +kernel
theorem dX9_rests_19 : decode cX9_rests 19 = .ok (.ireturn, 1) := by decide +kernel
theorem dX9_rests_20 : decode cX9_rests 20 = .ok (.aload_n 0, 1) := by decide +kernel
theorem dX9_rests_21 : decode cX9_rests 21 = .ok (.bipush 60, 2) := by decide +kernel
theorem dX9_rests_23 : decode cX9_rests 23 = .ok (.iload_n 1, 1) := by decide +kernel
theorem dX9_rests_24 : decode cX9_rests 24 = .ok (.imul, 1) := by decide +kernel
theorem dX9_rests_25 : decode cX9_rests 25 = .ok (.iload_n 3, 1) := by decide +kernel
theorem dX9_rests_26 : decode cX9_rests 26 = .ok (.iadd, 1) := by decide +kernel
theorem dX9_rests_27 : decode cX9_rests 27 = .ok (.invokevirtual 270, 3) := by decide +kernel
theorem dX9_rests_30 : decode cX9_rests 30 = .ok (.ifCond .ne 10, 3) := by decide +kernel
theorem dX9_rests_33 : decode cX9_rests 33 = .ok (.aload_n 0, 1) := by decide +kernel
theorem dX9_rests_34 : decode cX9_rests 34 = .ok (.bipush (-2), 2) := by decide +kernel
theorem dX9_rests_36 : decode cX9_rests 36 = .ok (.invokevirtual 103, 3) := by decide +kernel
theorem dX9_rests_39 : decode cX9_rests 39 = .ok (.ireturn, 1) := by decide +kernel
theorem dX9_rests_40 : decode cX9_rests 40 = .ok (.iconst 0, 1) := by decide +kernel
theorem dX9_rests_41 : decode cX9_rests 41 = .ok (.istore 5, 2) := by decide +kernel
theorem dX9_rests_43 : decode cX9_rests 43 = .ok (.iconst 0, 1) := by decide +kernel
theorem dX9_rests_44 : decode cX9_rests 44 = .ok (.istore 6, 2) := by decide +kernel
theorem dX9_rests_46 : decode cX9_rests 46 = .ok (.iload 6, 2) := by decide +kernel
theorem dX9_rests_48 : decode cX9_rests 48 = .ok (.iconst 4, 1) := by decide +kernel
theorem dX9_rests_49 : decode cX9_rests 49 = .ok (.if_icmp .ge 88, 3) := by decide +kernel
theorem dX9_rests_52 : decode cX9_rests 52 = .ok (.aload_n 0, 1) := by decide +kernel
theorem dX9_rests_53 : decode cX9_rests 53 = .ok (.getfield 67, 3) := by decide +kernel
theorem dX9_rests_56 : decode cX9_rests 56 = .ok (.iload 6, 2) := by decide +kernel
theorem dX9_rests_58 : decode cX9_rests 58 = .ok (.iconst 2, 1) := by decide +kernel
theorem dX9_rests_59 : decode cX9_rests 59 = .ok (.iadd, 1) := by decide +kernel
theorem dX9_rests_60 : decode cX9_rests 60 = .ok (.iconst 4, 1) := by decide +kernel
theorem dX9_rests_61 : decode cX9_rests 61 = .ok (.irem, 1) := by decide +kernel
theorem dX9_rests_62 : decode cX9_rests 62 = .ok (.iaload, 1) := by decide +kernel
theorem dX9_rests_63 : decode cX9_rests 63 = .ok (.aload_n 0, 1) := by decide +kernel
theorem dX9_rests_64 : decode cX9_rests 64 = .ok (.getfield 67, 3) := by decide +kernel
theorem dX9_rests_67 : decode cX9_rests 67 = .ok (.iload 6, 2) := by decide +kernel
theorem dX9_rests_69 : decode cX9_rests 69 = .ok (.iaload, 1) := by decide +kernel
theorem dX9_rests_70 : decode cX9_rests 70 = .ok (.if_icmp .gt 40, 3) := by decide +kernel
theorem dX9_rests_73 : decode cX9_rests 73 = .ok (.aload_n 0, 1) := by decide +kernel
theorem dX9_rests_74 : decode cX9_rests 74 = .ok (.getfield 70, 3) := by decide +kernel
theorem dX9_rests_77 : decode cX9_rests 77 = .ok (.iload 6, 2) := by decide +kernel
theorem dX9_rests_79 : decode cX9_rests 79 = .ok (.iconst 2, 1) := by decide +kernel
theorem dX9_rests_80 : decode cX9_rests 80 = .ok (.irem, 1) := by decide +kernel
theorem dX9_rests_81 : decode cX9_rests 81 = .ok (.ifCond .ne 10, 3) := by decide +kernel
theorem dX9_rests_84 : decode cX9_rests 84 = .ok (.iload 6, 2) := by decide +kernel
theorem dX9_rests_86 : decode cX9_rests 86 = .ok (.iconst 1, 1) := by decide +kernel
theorem dX9_rests_87 : decode cX9_rests 87 = .ok (.iadd, 1) := by decide +kernel
theorem dX9_rests_88 : decode cX9_rests 88 = .ok (.goto 7, 3) := by decide +kernel
theorem dX9_rests_91 : decode cX9_rests 91 = .ok (.iload 6, 2) := by decide +kernel
theorem dX9_rests_93 : decode cX9_rests 93 = .ok (.iconst 1, 1) := by decide +kernel
theorem dX9_rests_94 : decode cX9_rests 94 = .ok (.isub, 1) := by decide +kernel
theorem dX9_rests_95 : decode cX9_rests 95 = .ok (.iaload, 1) := by decide +kernel
theorem dX9_rests_96 : decode cX9_rests 96 = .ok (.aload_n 0, 1) := by decide +kernel
theorem dX9_rests_97 : decode cX9_rests 97 = .ok (.getfield 70, 3) := by decide +kernel
theorem dX9_rests_100 : decode cX9_rests 100 = .ok (.iload 6, 2) := by decide +kernel
theorem dX9_rests_102 : decode cX9_rests 102 = .ok (.iaload, 1) := by decide +kernel
theorem dX9_rests_103 : decode cX9_rests 103 = .ok (.if_icmp .gt 7, 3) := by decide +kernel
theorem dX9_rests_106 : decode cX9_rests 106 = .ok (.iconst 1, 1) := by decide +kernel
theorem dX9_rests_107 : decode cX9_rests 107 = .ok (.goto 4, 3) := by decide +kernel
theorem dX9_rests_110 : decode cX9_rests 110 = .ok (.iconst 0, 1) := by decide +kernel
theorem dX9_rests_111 : decode cX9_rests 111 = .ok (.istore 7, 2) := by decide +kernel
theorem dX9_rests_113 : decode cX9_rests 113 = .ok (.iload 5, 2) := by decide +kernel
theorem dX9_rests_115 : decode cX9_rests 115 = .ok (.iload 7, 2) := by decide +kernel
theorem dX9_rests_117 : decode cX9_rests 117 = .ok (.ifCond .eq 10, 3) := by decide +kernel
theorem dX9_rests_120 : decode cX9_rests 120 = .ok (.iconst 1, 1) := by decide +kernel
theorem dX9_rests_121 : decode cX9_rests 121 = .ok (.iload 6, 2) := by decide +kernel
theorem dX9_rests_123 : decode cX9_rests 123 = .ok (.ishl, 1) := by decide +kernel
theorem dX9_rests_124 : decode cX9_rests 124 = .ok (.goto 4, 3) := by decide +kernel
theorem dX9_rests_127 : decode cX9_rests 127 = .ok (.iconst 0, 1) := by decide +kernel
theorem dX9_rests_128 : decode cX9_rests 128 = .ok (.ior, 1) := by decide +kernel
theorem dX9_rests_129 : decode cX9_rests 129 = .ok (.istore 5, 2) := by decide +kernel
theorem dX9_rests_131 : decode cX9_rests 131 = .ok (.iinc 6 1, 3) := by decide +kernel
theorem dX9_rests_134 : decode cX9_rests 134 = .ok (.goto (-88), 3) := by decide +kernel
theorem dX9_rests_137 : decode cX9_rests 137 = .ok (.aload_n 0, 1) := by decide +kernel
theorem dX9_rests_138 : decode cX9_rests 138 = .ok (.iload 5, 2) := by decide +kernel
theorem dX9_rests_140 : decode cX9_rests 140 = .ok (.invokevirtual 103, 3) := by decide +kernel
theorem dX9_rests_143 : decode cX9_rests 143 = .ok (.ireturn, 1) := by decide +kernel
theorem dX9_mixes_0 : decode cX9_mixes 0 = .ok (.aload_n 0, 1) := by decide +kernel
theorem dX9_mixes_1 : decode cX9_mixes 1 = .ok (.iload_n 2, 1) := by decide +kernel
theorem dX9_mixes_2 : decode cX9_mixes 2 = .ok (.ifCond .ge 9, 3) := by decide +kernel
theorem dX9_mixes_5 : decode cX9_mixes 5 = .ok (.iload_n 1, 1) := by decide +kernel
theorem dX9_mixes_6 : decode cX9_mixes 6 = .ok (.ineg, 1) := by decide +kernel
theorem dX9_mixes_7 : decode cX9_mixes 7 = .ok (.i2l, 1) := by decide +kernel
theorem dX9_mixes_8 : decode cX9_mixes 8 = .ok (.goto 5, 3) := by decide +kernel
theorem dX9_mixes_11 : decode cX9_mixes 11 = .ok (.iload_n 1, 1) := by decide +kernel
theorem dX9_mixes_12 : decode cX9_mixes 12 = .ok (.i2l, 1) := by decide +kernel
theorem dX9_mixes_13 : decode cX9_mixes 13 = .ok (.putfield 273, 3) := by decide +kernel
theorem dX9_mixes_16 : decode cX9_mixes 16 = .ok (.aload_n 0, 1) := by decide +kernel
theorem dX9_mixes_17 : decode cX9_mixes 17 = .ok (.iload_n 2, 1) := by decide +kernel
theorem dX9_mixes_18 : decode cX9_mixes 18 = .ok (.ifCond .ge 9, 3) := by decide +kernel
theorem dX9_mixes_21 : decode cX9_mixes 21 = .ok (.iload_n 2, 1) := by decide +kernel
theorem dX9_mixes_22 : decode cX9_mixes 22 = .ok (.ineg, 1) := by decide +kernel
theorem dX9_mixes_23 : decode cX9_mixes 23 = .ok (.i2l, 1) := by decide +kernel
theorem dX9_mixes_24 : decode cX9_mixes 24 = .ok (.goto 5, 3) := by decide +kernel
theorem dX9_mixes_27 : decode cX9_mixes 27 = .ok (.iload_n 2, 1) := by decide +kernel
theorem dX9_mixes_28 : decode cX9_mixes 28 = .ok (.i2l, 1) := by decide +kernel
theorem dX9_mixes_29 : decode cX9_mixes 29 = .ok (.putfield 277, 3) := by decide +kernel
theorem dX9_mixes_32 : decode cX9_mixes 32 = .ok (.aload_n 0, 1) := by decide +kernel
theorem dX9_mixes_33 : decode cX9_mixes 33 = .ok (.getfield 273, 3) := by decide +kernel
theorem dX9_mixes_36 : decode cX9_mixes 36 = .ok (.lconst 0, 1) := by decide +kernel
theorem dX9_mixes_37 : decode cX9_mixes 37 = .ok (.lcmp, 1) := by decide +kernel
theorem dX9_mixes_38 : decode cX9_mixes 38 = .ok (.ifCond .le 19, 3) := by decide +kernel
theorem dX9_mixes_41 : decode cX9_mixes 41 = .ok (.aload_n 0, 1) := by decide +kernel
theorem dX9_mixes_42 : decode cX9_mixes 42 = .ok (.getfield 273, 3) := by decide +kernel
theorem dX9_mixes_45 : decode cX9_mixes 45 = .ok (.aload_n 0, 1) := by decide +kernel
theorem dX9_mixes_46 : decode cX9_mixes 46 = .ok (.getfield 277, 3) := by decide +kernel
theorem dX9_mixes_49 : decode cX9_mixes 49 = .ok (.lcmp, 1) := by decide +kernel
theorem dX9_mixes_50 : decode cX9_mixes 50 = .ok (.ifCond .ge 7, 3) := by decide +kernel
theorem dX9_mixes_53 : decode cX9_mixes 53 = .ok (.iconst 1, 1) := by decide +kernel
theorem dX9_mixes_54 : decode cX9_mixes 54 = .ok (.goto 4, 3) := by decide +kernel
theorem dX9_mixes_57 : decode cX9_mixes 57 = .ok (.iconst 0, 1) := by decide +kernel
theorem dX9_mixes_58 : decode cX9_mixes 58 = .ok (.ireturn, 1) := by decide +kernel
theorem dX9_mixed_0 : decode cX9_mixed 0 = .ok (.aload_n 0, 1) := by decide +kernel
theorem dX9_mixed_1 : decode cX9_mixed 1 = .ok (.iload_n 1, 1) := by decide +kernel
theorem dX9_mixed_2 : decode cX9_mixed 2 = .ok (.iload_n 2, 1) := by decide +kernel
theorem dX9_mixed_3 : decode cX9_mixed 3 = .ok (.iload_n 3, 1) := by decide +kernel
theorem dX9_mixed_4 : decode cX9_mixed 4 = .ok (.ldc2_w 268, 3) := by decide +kernel
theorem dX9_mixed_7 : decode cX9_mixed 7 = .ok (.invokevirtual 146, 3) := by decide +kernel
theorem dX9_mixed_10 : decode cX9_mixed 10 = .ok (.istore 6, 2) := by decide +kernel
theorem dX9_mixed_12 : decode cX9_mixed 12 = .ok (.iload 6, 2) := by decide +kernel
theorem dX9_mixed_14 : decode cX9_mixed 14 = .ok (.ifCond .ge 7, 3) := by decide +kernel
theorem dX9_mixed_17 : decode cX9_mixed 17 = .ok (.invokestatic 95, 3) := by decide +kernel
theorem dX9_mixed_20 : decode cX9_mixed 20 = .ok (.lreturn, 1) := by decide +kernel
theorem dX9_mixed_21 : decode cX9_mixed 21 = .ok (.aload_n 0, 1) := by decide +kernel
theorem dX9_mixed_22 : decode cX9_mixed 22 = .ok (.iconst 0, 1) := by decide +kernel
theorem dX9_mixed_23 : decode cX9_mixed 23 = .ok (.putfield 91, 3) := by decide +kernel
theorem dX9_mixed_26 : decode cX9_mixed 26 = .ok (.aload_n 0, 1) := by decide +kernel
theorem dX9_mixed_27 : decode cX9_mixed 27 = .ok (.bipush 60, 2) := by decide +kernel
theorem dX9_mixed_29 : decode cX9_mixed 29 = .ok (.iload_n 1, 1) := by decide +kernel
theorem dX9_mixed_30 : decode cX9_mixed 30 = .ok (.imul, 1) := by decide +kernel
theorem dX9_mixed_31 : decode cX9_mixed 31 = .ok (.iload_n 3, 1) := by decide +kernel
theorem dX9_mixed_32 : decode cX9_mixed 32 = .ok (.iadd, 1) := by decide +kernel
theorem dX9_mixed_33 : decode cX9_mixed 33 = .ok (.invokevirtual 270, 3) := by decide +kernel
theorem dX9_mixed_36 : decode cX9_mixed 36 = .ok (.ifCond .eq 22, 3) := by decide +kernel
theorem dX9_mixed_39 : decode cX9_mixed 39 = .ok (.iload 4, 2) := by decide +kernel
theorem dX9_mixed_41 : decode cX9_mixed 41 = .ok (.i2l, 1) := by decide +kernel
theorem dX9_mixed_42 : decode cX9_mixed 42 = .ok (.lconst 0, 1) := by decide +kernel
theorem dX9_mixed_43 : decode cX9_mixed 43 = .ok (.lconst 1, 1) := by decide +kernel
theorem dX9_mixed_44 : decode cX9_mixed 44 = .ok (.invokestatic 87, 3) := by decide +kernel
theorem dX9_mixed_47 : decode cX9_mixed 47 = .ok (.ifCond .eq 11, 3) := by decide +kernel
theorem dX9_mixed_50 : decode cX9_mixed 50 = .ok (.iload 5, 2) := by decide +kernel
theorem dX9_mixed_52 : decode cX9_mixed 52 = .ok (.invokestatic 255, 3) := by decide +kernel
theorem dX9_mixed_55 : decode cX9_mixed 55 = .ok (.ifCond .ne 7, 3) := by decide +kernel
theorem dX9_mixed_58 : decode cX9_mixed 58 = .ok (.invokestatic 95, 3) := by decide +kernel
theorem dX9_mixed_61 : decode cX9_mixed 61 = .ok (.lreturn, 1) := by decide +kernel
theorem dX9_mixed_62 : decode cX9_mixed 62 = .ok (.aload_n 0, 1) := by decide +kernel
theorem dX9_mixed_63 : decode cX9_mixed 63 = .ok (.getfield 70, 3) := by decide +kernel
theorem dX9_mixed_66 : decode cX9_mixed 66 = .ok (.iconst 0, 1) := by decide +kernel
theorem dX9_mixed_67 : decode cX9_mixed 67 = .ok (.iaload, 1) := by decide +kernel
theorem dX9_mixed_68 : decode cX9_mixed 68 = .ok (.aload_n 0, 1) := by decide +kernel
theorem dX9_mixed_69 : decode cX9_mixed 69 = .ok (.getfield 70, 3) := by decide +kernel
theorem dX9_mixed_72 : decode cX9_mixed 72 = .ok (.iconst 1, 1) := by decide +kernel
theorem dX9_mixed_73 : decode cX9_mixed 73 = .ok (.iaload, 1) := by decide +kernel
theorem dX9_mixed_74 : decode cX9_mixed 74 = .ok (.isub, 1) := by decide +kernel
theorem dX9_mixed_75 : decode cX9_mixed 75 = .ok (.aload_n 0, 1) := by decide +kernel
theorem dX9_mixed_76 : decode cX9_mixed 76 = .ok (.getfield 70, 3) := by decide +kernel
theorem dX9_mixed_79 : decode cX9_mixed 79 = .ok (.iconst 2, 1) := by decide +kernel
theorem dX9_mixed_80 : decode cX9_mixed 80 = .ok (.iaload, 1) := by decide +kernel
theorem dX9_mixed_81 : decode cX9_mixed 81 = .ok (.isub, 1) := by decide +kernel
theorem dX9_mixed_82 : decode cX9_mixed 82 = .ok (.aload_n 0, 1) := by decide +kernel
theorem dX9_mixed_83 : decode cX9_mixed 83 = .ok (.getfield 70, 3) := by decide +kernel
theorem dX9_mixed_86 : decode cX9_mixed 86 = .ok (.iconst 3, 1) := by decide +kernel
theorem dX9_mixed_87 : decode cX9_mixed 87 = .ok (.iaload, 1) := by decide +kernel
theorem dX9_mixed_88 : decode cX9_mixed 88 = .ok (.iadd, 1) := by decide +kernel
theorem dX9_mixed_89 : decode cX9_mixed 89 = .ok (.istore 7, 2) := by decide +kernel
theorem dX9_mixed_91 : decode cX9_mixed 91 = .ok (.aload_n 0, 1) := by decide +kernel
theorem dX9_mixed_92 : decode cX9_mixed 92 = .ok (.getfield 67, 3) := by decide +kernel
theorem dX9_mixed_95 : decode cX9_mixed 95 = .ok (.iconst 0, 1) := by decide +kernel
theorem dX9_mixed_96 : decode cX9_mixed 96 = .ok (.iaload, 1) := by decide +kernel
theorem dX9_mixed_97 : decode cX9_mixed 97 = .ok (.aload_n 0, 1) := by decide +kernel
theorem dX9_mixed_98 : decode cX9_mixed 98 = .ok (.getfield 67, 3) := by decide +kernel
theorem dX9_mixed_101 : decode cX9_mixed 101 = .ok (.iconst 1, 1) := by decide +kernel
theorem dX9_mixed_102 : decode cX9_mixed 102 = .ok (.iaload, 1) := by decide +kernel
theorem dX9_mixed_103 : decode cX9_mixed 103 = .ok (.isub, 1) := by decide +kernel
theorem dX9_mixed_104 : decode cX9_mixed 104 = .ok (.aload_n 0, 1) := by decide +kernel
theorem dX9_mixed_105 : decode cX9_mixed 105 = .ok (.getfield 67, 3) := by decide +kernel
theorem dX9_mixed_108 : decode cX9_mixed 108 = .ok (.iconst 2, 1) := by decide +kernel
theorem dX9_mixed_109 : decode cX9_mixed 109 = .ok (.iaload, 1) := by decide +kernel
theorem dX9_mixed_110 : decode cX9_mixed 110 = .ok (.isub, 1) := by decide +kernel
theorem dX9_mixed_111 : decode cX9_mixed 111 = .ok (.aload_n 0, 1) := by decide +kernel
theorem dX9_mixed_112 : decode cX9_mixed 112 = .ok (.getfield 67, 3) := by decide +kernel
theorem dX9_mixed_115 : decode cX9_mixed 115 = .ok (.iconst 3, 1) := by decide +kernel
theorem dX9_mixed_116 : decode cX9_mixed 116 = .ok (.iaload, 1) := by decide +kernel
theorem dX9_mixed_117 : decode cX9_mixed 117 = .ok (.iadd, 1) := by decide +kernel
theorem dX9_mixed_118 : decode cX9_mixed 118 = .ok (.istore 8, 2) := by decide +kernel
theorem dX9_mixed_120 : decode cX9_mixed 120 = .ok (.aload_n 0, 1) := by decide +kernel
theorem dX9_mixed_121 : decode cX9_mixed 121 = .ok (.aload_n 0, 1) := by decide +kernel
theorem dX9_mixed_122 : decode cX9_mixed 122 = .ok (.getfield 70, 3) := by decide +kernel
theorem dX9_mixed_125 : decode cX9_mixed 125 = .ok (.iconst 3, 1) := by decide +kernel
theorem dX9_mixed_126 : decode cX9_mixed 126 = .ok (.iaload, 1) := by decide +kernel
theorem dX9_mixed_127 : decode cX9_mixed 127 = .ok (.aload_n 0, 1) := by decide +kernel
theorem dX9_mixed_128 : decode cX9_mixed 128 = .ok (.getfield 70, 3) := by decide +kernel
theorem dX9_mixed_131 : decode cX9_mixed 131 = .ok (.iconst 2, 1) := by decide +kernel
theorem dX9_mixed_132 : decode cX9_mixed 132 = .ok (.iaload, 1) := by decide +kernel
theorem dX9_mixed_133 : decode cX9_mixed 133 = .ok (.isub, 1) := by decide +kernel
theorem dX9_mixed_134 : decode cX9_mixed 134 = .ok (.iload 7, 2) := by decide +kernel
theorem dX9_mixed_136 : decode cX9_mixed 136 = .ok (.invokevirtual 280, 3) := by decide +kernel
theorem dX9_mixed_139 : decode cX9_mixed 139 = .ok (.istore 9, 2) := by decide +kernel
theorem dX9_mixed_141 : decode cX9_mixed 141 = .ok (.aload_n 0, 1) := by decide +kernel
theorem dX9_mixed_142 : decode cX9_mixed 142 = .ok (.aload_n 0, 1) := by decide +kernel
theorem dX9_mixed_143 : decode cX9_mixed 143 = .ok (.getfield 67, 3) := by decide +kernel
theorem dX9_mixed_146 : decode cX9_mixed 146 = .ok (.iconst 3, 1) := by decide +kernel
theorem dX9_mixed_147 : decode cX9_mixed 147 = .ok (.iaload, 1) := by decide +kernel
theorem dX9_mixed_148 : decode cX9_mixed 148 = .ok (.aload_n 0, 1) := by decide +kernel
theorem dX9_mixed_149 : decode cX9_mixed 149 = .ok (.getfield 67, 3) := by decide +kernel
theorem dX9_mixed_152 : decode cX9_mixed 152 = .ok (.iconst 1, 1) := by decide +kernel
theorem dX9_mixed_153 : decode cX9_mixed 153 = .ok (.iaload, 1) := by decide +kernel
theorem dX9_mixed_154 : decode cX9_mixed 154 = .ok (.isub, 1) := by decide +kernel
theorem dX9_mixed_155 : decode cX9_mixed 155 = .ok (.iload 8, 2) := by decide +kernel
theorem dX9_mixed_157 : decode cX9_mixed 157 = .ok (.invokevirtual 280, 3) := by decide +kernel
theorem dX9_mixed_160 : decode cX9_mixed 160 = .ok (.istore 10, 2) := by decide +kernel
theorem dX9_mixed_162 : decode cX9_mixed 162 = .ok (.iload 9, 2) := by decide +kernel
theorem dX9_mixed_164 : decode cX9_mixed 164 = .ok (.ifCond .eq 8, 3) := by decide +kernel
theorem dX9_mixed_167 : decode cX9_mixed 167 = .ok (.iload 10, 2) := by decide +kernel
theorem dX9_mixed_169 : decode cX9_mixed 169 = .ok (.ifCond .ne 7, 3) := by decide +kernel
theorem dX9_mixed_172 : decode cX9_mixed 172 = .ok (.invokestatic 95, 3) := by decide +kernel
theorem dX9_mixed_175 : decode cX9_mixed 175 = .ok (.lreturn, 1) := by decide +kernel
theorem dX9_mixed_176 : decode cX9_mixed 176 = .ok (.iload 4, 2) := by decide +kernel
theorem dX9_mixed_178 : decode cX9_mixed 178 = .ok (.ifCond .ne 23, 3) := by decide +kernel
theorem dX9_mixed_181 : decode cX9_mixed 181 = .ok (.aload_n 0, 1) := by decide +kernel
theorem dX9_mixed_182 : decode cX9_mixed 182 = .ok (.aload_n 0, 1) := by decide +kernel
theorem dX9_mixed_183 : decode cX9_mixed 183 = .ok (.getfield 70, 3) := by decide +kernel
theorem dX9_mixed_186 : decode cX9_mixed 186 = .ok (.iconst 3, 1) := by decide +kernel
theorem dX9_mixed_187 : decode cX9_mixed 187 = .ok (.iaload, 1) := by decide +kernel
theorem dX9_mixed_188 : decode cX9_mixed 188 = .ok (.aload_n 0, 1) := by decide +kernel
theorem dX9_mixed_189 : decode cX9_mixed 189 = .ok (.getfield 70, 3) := by decide +kernel
theorem dX9_mixed_192 : decode cX9_mixed 192 = .ok (.iconst 2, 1) := by decide +kernel
theorem dX9_mixed_193 : decode cX9_mixed 193 = .ok (.iaload, 1) := by decide +kernel
theorem dX9_mixed_194 : decode cX9_mixed 194 = .ok (.isub, 1) := by decide +kernel
theorem dX9_mixed_195 : decode cX9_mixed 195 = .ok (.iload 7, 2) := by decide +kernel
theorem dX9_mixed_197 : decode cX9_mixed 197 = .ok (.invokevirtual 280, 3) := by decide +kernel
theorem dX9_mixed_200 : decode cX9_mixed 200 = .ok (.pop, 1) := by decide +kernel
theorem dX9_mixed_201 : decode cX9_mixed 201 = .ok (.aload_n 0, 1) := by decide +kernel
theorem dX9_mixed_202 : decode cX9_mixed 202 = .ok (.getfield 273, 3) := by decide +kernel
theorem dX9_mixed_205 : decode cX9_mixed 205 = .ok (.aload_n 0, 1) := by decide +kernel
theorem dX9_mixed_206 : decode cX9_mixed 206 = .ok (.getfield 277, 3) := by decide +kernel
theorem dX9_mixed_209 : decode cX9_mixed 209 = .ok (.iload 5, 2) := by decide +kernel
theorem dX9_mixed_211 : decode cX9_mixed 211 = .ok (.invokestatic 262, 3) := by decide +kernel
theorem dX9_mixed_214 : decode cX9_mixed 214 = .ok (.lreturn, 1) := by decide +kernel
theorem dX9_noSheet_0 : decode cX9_noSheet 0 = .ok (.iload_n 0, 1) := by decide +kernel
theorem dX9_noSheet_1 : decode cX9_noSheet 1 = .ok (.i2l, 1) := by decide +kernel
theorem dX9_noSheet_2 : decode cX9_noSheet 2 = .ok (.lconst 0, 1) := by decide +kernel
theorem dX9_noSheet_3 : decode cX9_noSheet 3 = .ok (.ldc2_w 231, 3) := by decide +kernel
theorem dX9_noSheet_6 : decode cX9_noSheet 6 = .ok (.invokestatic 87, 3) := by decide +kernel
theorem dX9_noSheet_9 : decode cX9_noSheet 9 = .ok (.ifCond .ne 7, 3) := by decide +kernel
theorem dX9_noSheet_12 : decode cX9_noSheet 12 = .ok (.iconst 1, 1) := by decide +kernel
theorem dX9_noSheet_13 : decode cX9_noSheet 13 = .ok (.goto 4, 3) := by decide +kernel
theorem dX9_noSheet_16 : decode cX9_noSheet 16 = .ok (.iconst 0, 1) := by decide +kernel
theorem dX9_noSheet_17 : decode cX9_noSheet 17 = .ok (.ireturn, 1) := by decide +kernel
theorem dX9_sheet_0 : decode cX9_sheet 0 = .ok (.iload_n 1, 1) := by decide +kernel
theorem dX9_sheet_1 : decode cX9_sheet 1 = .ok (.invokestatic 99, 3) := by decide +kernel
theorem dX9_sheet_4 : decode cX9_sheet 4 = .ok (.ifCond .eq 9, 3) := by decide +kernel
theorem dX9_sheet_7 : decode cX9_sheet 7 = .ok (.aload_n 0, 1) := by decide +kernel
theorem dX9_sheet_8 : decode cX9_sheet 8 = .ok (.iconst (-1), 1) := by decide +kernel
theorem dX9_sheet_9 : decode cX9_sheet 9 = .ok (.invokevirtual 103, 3) := by decide +kernel
theorem dX9_sheet_12 : decode cX9_sheet 12 = .ok (.ireturn, 1) := by decide +kernel
theorem dX9_sheet_13 : decode cX9_sheet 13 = .ok (.iload_n 2, 1) := by decide +kernel
theorem dX9_sheet_14 : decode cX9_sheet 14 = .ok (.i2l, 1) := by decide +kernel
theorem dX9_sheet_15 : decode cX9_sheet 15 = .ok (.lconst 0, 1) := by decide +kernel
theorem dX9_sheet_16 : decode cX9_sheet 16 = .ok (.ldc2_w 107, 3) := by decide +kernel
theorem dX9_sheet_19 : decode cX9_sheet 19 = .ok (.invokestatic 87, 3) := by decide +kernel
theorem dX9_sheet_22 : decode cX9_sheet 22 = .ok (.ifCond .eq 9, 3) := by decide +kernel
theorem dX9_sheet_25 : decode cX9_sheet 25 = .ok (.iload_n 3, 1) := by decide +kernel
theorem dX9_sheet_26 : decode cX9_sheet 26 = .ok (.bipush 60, 2) := by decide +kernel
theorem dX9_sheet_28 : decode cX9_sheet 28 = .ok (.if_icmp .le 10, 3) := by decide +kernel
theorem dX9_sheet_31 : decode cX9_sheet 31 = .ok (.aload_n 0, 1) := by decide +kernel
theorem dX9_sheet_32 : decode cX9_sheet 32 = .ok (.bipush (-2), 2) := by decide +kernel
theorem dX9_sheet_34 : decode cX9_sheet 34 = .ok (.invokevirtual 103, 3) := by decide +kernel
theorem dX9_sheet_37 : decode cX9_sheet 37 = .ok (.ireturn, 1) := by decide +kernel
theorem dX9_sheet_38 : decode cX9_sheet 38 = .ok (.iload_n 3, 1) := by decide +kernel
theorem dX9_sheet_39 : decode cX9_sheet 39 = .ok (.ifCond .ge 9, 3) := by decide +kernel
theorem dX9_sheet_42 : decode cX9_sheet 42 = .ok (.aload_n 0, 1) := by decide +kernel
theorem dX9_sheet_43 : decode cX9_sheet 43 = .ok (.iconst 4, 1) := by decide +kernel
theorem dX9_sheet_44 : decode cX9_sheet 44 = .ok (.invokevirtual 109, 3) := by decide +kernel
theorem dX9_sheet_47 : decode cX9_sheet 47 = .ok (.ireturn, 1) := by decide +kernel
theorem dX9_sheet_48 : decode cX9_sheet 48 = .ok (.aload_n 0, 1) := by decide +kernel
theorem dX9_sheet_49 : decode cX9_sheet 49 = .ok (.getfield 73, 3) := by decide +kernel
theorem dX9_sheet_52 : decode cX9_sheet 52 = .ok (.iload_n 1, 1) := by decide +kernel
theorem dX9_sheet_53 : decode cX9_sheet 53 = .ok (.iload_n 3, 1) := by decide +kernel
theorem dX9_sheet_54 : decode cX9_sheet 54 = .ok (.iastore, 1) := by decide +kernel
theorem dX9_sheet_55 : decode cX9_sheet 55 = .ok (.aload_n 0, 1) := by decide +kernel
theorem dX9_sheet_56 : decode cX9_sheet 56 = .ok (.getfield 76, 3) := by decide +kernel
theorem dX9_sheet_59 : decode cX9_sheet 59 = .ok (.iload_n 1, 1) := by decide +kernel
theorem dX9_sheet_60 : decode cX9_sheet 60 = .ok (.iload_n 2, 1) := by decide +kernel
theorem dX9_sheet_61 : decode cX9_sheet 61 = .ok (.iastore, 1) := by decide +kernel
theorem dX9_sheet_62 : decode cX9_sheet 62 = .ok (.iconst 0, 1) := by decide +kernel
theorem dX9_sheet_63 : decode cX9_sheet 63 = .ok (.istore 4, 2) := by decide +kernel
theorem dX9_sheet_65 : decode cX9_sheet 65 = .ok (.iload 4, 2) := by decide +kernel
theorem dX9_sheet_67 : decode cX9_sheet 67 = .ok (.iload_n 3, 1) := by decide +kernel
theorem dX9_sheet_68 : decode cX9_sheet 68 = .ok (.if_icmp .ge 22, 3) := by decide +kernel
theorem dX9_sheet_71 : decode cX9_sheet 71 = .ok (.aload_n 0, 1) := by decide +kernel
theorem dX9_sheet_72 : decode cX9_sheet 72 = .ok (.getfield 79, 3) := by decide +kernel
theorem dX9_sheet_75 : decode cX9_sheet 75 = .ok (.bipush 60, 2) := by decide +kernel
theorem dX9_sheet_77 : decode cX9_sheet 77 = .ok (.iload_n 1, 1) := by decide +kernel
theorem dX9_sheet_78 : decode cX9_sheet 78 = .ok (.imul, 1) := by decide +kernel
theorem dX9_sheet_79 : decode cX9_sheet 79 = .ok (.iload 4, 2) := by decide +kernel
theorem dX9_sheet_81 : decode cX9_sheet 81 = .ok (.iadd, 1) := by decide +kernel
theorem dX9_sheet_82 : decode cX9_sheet 82 = .ok (.iconst 0, 1) := by decide +kernel
theorem dX9_sheet_83 : decode cX9_sheet 83 = .ok (.iastore, 1) := by decide +kernel
theorem dX9_sheet_84 : decode cX9_sheet 84 = .ok (.iinc 4 1, 3) := by decide +kernel
theorem dX9_sheet_87 : decode cX9_sheet 87 = .ok (.goto (-22), 3) := by decide +kernel
theorem dX9_sheet_90 : decode cX9_sheet 90 = .ok (.aload_n 0, 1) := by decide +kernel
theorem dX9_sheet_91 : decode cX9_sheet 91 = .ok (.iconst 1, 1) := by decide +kernel
theorem dX9_sheet_92 : decode cX9_sheet 92 = .ok (.invokevirtual 103, 3) := by decide +kernel
theorem dX9_sheet_95 : decode cX9_sheet 95 = .ok (.ireturn, 1) := by decide +kernel
theorem dX9_lose_0 : decode cX9_lose 0 = .ok (.iload_n 1, 1) := by decide +kernel
theorem dX9_lose_1 : decode cX9_lose 1 = .ok (.invokestatic 99, 3) := by decide +kernel
theorem dX9_lose_4 : decode cX9_lose 4 = .ok (.ifCond .eq 5, 3) := by decide +kernel
theorem dX9_lose_7 : decode cX9_lose 7 = .ok (.iconst (-1), 1) := by decide +kernel
theorem dX9_lose_8 : decode cX9_lose 8 = .ok (.ireturn, 1) := by decide +kernel
theorem dX9_lose_9 : decode cX9_lose 9 = .ok (.aload_n 0, 1) := by decide +kernel
theorem dX9_lose_10 : decode cX9_lose 10 = .ok (.getfield 73, 3) := by decide +kernel
theorem dX9_lose_13 : decode cX9_lose 13 = .ok (.iload_n 1, 1) := by decide +kernel
theorem dX9_lose_14 : decode cX9_lose 14 = .ok (.iaload, 1) := by decide +kernel
theorem dX9_lose_15 : decode cX9_lose 15 = .ok (.ifCond .ge 7, 3) := by decide +kernel
theorem dX9_lose_18 : decode cX9_lose 18 = .ok (.iconst 0, 1) := by decide +kernel
theorem dX9_lose_19 : decode cX9_lose 19 = .ok (.goto 4, 3) := by decide +kernel
theorem dX9_lose_22 : decode cX9_lose 22 = .ok (.iconst 1, 1) := by decide +kernel
theorem dX9_lose_23 : decode cX9_lose 23 = .ok (.istore_n 2, 1) := by decide +kernel
theorem dX9_lose_24 : decode cX9_lose 24 = .ok (.aload_n 0, 1) := by decide +kernel
theorem dX9_lose_25 : decode cX9_lose 25 = .ok (.getfield 73, 3) := by decide +kernel
theorem dX9_lose_28 : decode cX9_lose 28 = .ok (.iload_n 1, 1) := by decide +kernel
theorem dX9_lose_29 : decode cX9_lose 29 = .ok (.iconst (-1), 1) := by decide +kernel
theorem dX9_lose_30 : decode cX9_lose 30 = .ok (.iastore, 1) := by decide +kernel
theorem dX9_lose_31 : decode cX9_lose 31 = .ok (.iload_n 2, 1) := by decide +kernel
theorem dX9_lose_32 : decode cX9_lose 32 = .ok (.ireturn, 1) := by decide +kernel
theorem dX9_noCell_0 : decode cX9_noCell 0 = .ok (.aload_n 0, 1) := by decide +kernel
theorem dX9_noCell_1 : decode cX9_noCell 1 = .ok (.getfield 73, 3) := by decide +kernel
theorem dX9_noCell_4 : decode cX9_noCell 4 = .ok (.iload_n 1, 1) := by decide +kernel
theorem dX9_noCell_5 : decode cX9_noCell 5 = .ok (.iaload, 1) := by decide +kernel
theorem dX9_noCell_6 : decode cX9_noCell 6 = .ok (.ifCond .ge 7, 3) := by decide +kernel
theorem dX9_noCell_9 : decode cX9_noCell 9 = .ok (.iconst 1, 1) := by decide +kernel
theorem dX9_noCell_10 : decode cX9_noCell 10 = .ok (.goto 26, 3) := by decide +kernel
theorem dX9_noCell_13 : decode cX9_noCell 13 = .ok (.iload_n 2, 1) := by decide +kernel
theorem dX9_noCell_14 : decode cX9_noCell 14 = .ok (.i2l, 1) := by decide +kernel
theorem dX9_noCell_15 : decode cX9_noCell 15 = .ok (.lconst 0, 1) := by decide +kernel
theorem dX9_noCell_16 : decode cX9_noCell 16 = .ok (.aload_n 0, 1) := by decide +kernel
theorem dX9_noCell_17 : decode cX9_noCell 17 = .ok (.getfield 73, 3) := by decide +kernel
theorem dX9_noCell_20 : decode cX9_noCell 20 = .ok (.iload_n 1, 1) := by decide +kernel
theorem dX9_noCell_21 : decode cX9_noCell 21 = .ok (.iaload, 1) := by decide +kernel
theorem dX9_noCell_22 : decode cX9_noCell 22 = .ok (.i2l, 1) := by decide +kernel
theorem dX9_noCell_23 : decode cX9_noCell 23 = .ok (.lconst 1, 1) := by decide +kernel
theorem dX9_noCell_24 : decode cX9_noCell 24 = .ok (.lsub, 1) := by decide +kernel
theorem dX9_noCell_25 : decode cX9_noCell 25 = .ok (.invokestatic 87, 3) := by decide +kernel
theorem dX9_noCell_28 : decode cX9_noCell 28 = .ok (.ifCond .eq 7, 3) := by decide +kernel
theorem dX9_noCell_31 : decode cX9_noCell 31 = .ok (.iconst 0, 1) := by decide +kernel
theorem dX9_noCell_32 : decode cX9_noCell 32 = .ok (.goto 4, 3) := by decide +kernel
theorem dX9_noCell_35 : decode cX9_noCell 35 = .ok (.iconst 3, 1) := by decide +kernel
theorem dX9_noCell_36 : decode cX9_noCell 36 = .ok (.ireturn, 1) := by decide +kernel
theorem dX9_put_0 : decode cX9_put 0 = .ok (.iload_n 1, 1) := by decide +kernel
theorem dX9_put_1 : decode cX9_put 1 = .ok (.invokestatic 99, 3) := by decide +kernel
theorem dX9_put_4 : decode cX9_put 4 = .ok (.ifCond .eq 9, 3) := by decide +kernel
theorem dX9_put_7 : decode cX9_put 7 = .ok (.aload_n 0, 1) := by decide +kernel
theorem dX9_put_8 : decode cX9_put 8 = .ok (.iconst (-1), 1) := by decide +kernel
theorem dX9_put_9 : decode cX9_put 9 = .ok (.invokevirtual 103, 3) := by decide +kernel
theorem dX9_put_12 : decode cX9_put 12 = .ok (.ireturn, 1) := by decide +kernel
theorem dX9_put_13 : decode cX9_put 13 = .ok (.aload_n 0, 1) := by decide +kernel
theorem dX9_put_14 : decode cX9_put 14 = .ok (.iload_n 1, 1) := by decide +kernel
theorem dX9_put_15 : decode cX9_put 15 = .ok (.iload_n 2, 1) := by decide +kernel
theorem dX9_put_16 : decode cX9_put 16 = .ok (.invokevirtual 283, 3) := by decide +kernel
theorem dX9_put_19 : decode cX9_put 19 = .ok (.ifCond .le 14, 3) := by decide +kernel
theorem dX9_put_22 : decode cX9_put 22 = .ok (.aload_n 0, 1) := by decide +kernel
theorem dX9_put_23 : decode cX9_put 23 = .ok (.aload_n 0, 1) := by decide +kernel
theorem dX9_put_24 : decode cX9_put 24 = .ok (.iload_n 1, 1) := by decide +kernel
theorem dX9_put_25 : decode cX9_put 25 = .ok (.iload_n 2, 1) := by decide +kernel
theorem dX9_put_26 : decode cX9_put 26 = .ok (.invokevirtual 283, 3) := by decide +kernel
theorem dX9_put_29 : decode cX9_put 29 = .ok (.invokevirtual 109, 3) := by decide +kernel
theorem dX9_put_32 : decode cX9_put 32 = .ok (.ireturn, 1) := by decide +kernel
theorem dX9_put_33 : decode cX9_put 33 = .ok (.aload_n 0, 1) := by decide +kernel
theorem dX9_put_34 : decode cX9_put 34 = .ok (.getfield 79, 3) := by decide +kernel
theorem dX9_put_37 : decode cX9_put 37 = .ok (.bipush 60, 2) := by decide +kernel
theorem dX9_put_39 : decode cX9_put 39 = .ok (.iload_n 1, 1) := by decide +kernel
theorem dX9_put_40 : decode cX9_put 40 = .ok (.imul, 1) := by decide +kernel
theorem dX9_put_41 : decode cX9_put 41 = .ok (.iload_n 2, 1) := by decide +kernel
theorem dX9_put_42 : decode cX9_put 42 = .ok (.iadd, 1) := by decide +kernel
theorem dX9_put_43 : decode cX9_put 43 = .ok (.aload_n 0, 1) := by decide +kernel
theorem dX9_put_44 : decode cX9_put 44 = .ok (.getfield 76, 3) := by decide +kernel
theorem dX9_put_47 : decode cX9_put 47 = .ok (.iload_n 1, 1) := by decide +kernel
theorem dX9_put_48 : decode cX9_put 48 = .ok (.iaload, 1) := by decide +kernel
theorem dX9_put_49 : decode cX9_put 49 = .ok (.ifCond .ne 8, 3) := by decide +kernel
theorem dX9_put_52 : decode cX9_put 52 = .ok (.iload_n 3, 1) := by decide +kernel
theorem dX9_put_53 : decode cX9_put 53 = .ok (.i2b, 1) := by decide +kernel
theorem dX9_put_54 : decode cX9_put 54 = .ok (.goto 19, 3) := by decide +kernel
theorem dX9_put_57 : decode cX9_put 57 = .ok (.aload_n 0, 1) := by decide +kernel
theorem dX9_put_58 : decode cX9_put 58 = .ok (.getfield 76, 3) := by decide +kernel
theorem dX9_put_61 : decode cX9_put 61 = .ok (.iload_n 1, 1) := by decide +kernel
theorem dX9_put_62 : decode cX9_put 62 = .ok (.iaload, 1) := by decide +kernel
theorem dX9_put_63 : decode cX9_put 63 = .ok (.iconst 1, 1) := by decide +kernel
theorem dX9_put_64 : decode cX9_put 64 = .ok (.if_icmp .ne 8, 3) := by decide +kernel
theorem dX9_put_67 : decode cX9_put 67 = .ok (.iload_n 3, 1) := by decide +kernel
theorem dX9_put_68 : decode cX9_put 68 = .ok (.i2s, 1) := by decide +kernel
theorem dX9_put_69 : decode cX9_put 69 = .ok (.goto 4, 3) := by decide +kernel
theorem dX9_put_72 : decode cX9_put 72 = .ok (.iload_n 3, 1) := by decide +kernel
theorem dX9_put_73 : decode cX9_put 73 = .ok (.iastore, 1) := by decide +kernel
theorem dX9_put_74 : decode cX9_put 74 = .ok (.aload_n 0, 1) := by decide +kernel
theorem dX9_put_75 : decode cX9_put 75 = .ok (.iconst 1, 1) := by decide +kernel
theorem dX9_put_76 : decode cX9_put 76 = .ok (.invokevirtual 103, 3) := by decide +kernel
theorem dX9_put_79 : decode cX9_put 79 = .ok (.ireturn, 1) := by decide +kernel
theorem dX9_cell_0 : decode cX9_cell 0 = .ok (.aload_n 0, 1) := by decide +kernel
theorem dX9_cell_1 : decode cX9_cell 1 = .ok (.iconst 0, 1) := by decide +kernel
theorem dX9_cell_2 : decode cX9_cell 2 = .ok (.putfield 91, 3) := by decide +kernel
theorem dX9_cell_5 : decode cX9_cell 5 = .ok (.iload_n 1, 1) := by decide +kernel
theorem dX9_cell_6 : decode cX9_cell 6 = .ok (.invokestatic 99, 3) := by decide +kernel
theorem dX9_cell_9 : decode cX9_cell 9 = .ok (.ifCond .ne 15, 3) := by decide +kernel
theorem dX9_cell_12 : decode cX9_cell 12 = .ok (.iload_n 3, 1) := by decide +kernel
theorem dX9_cell_13 : decode cX9_cell 13 = .ok (.i2l, 1) := by decide +kernel
theorem dX9_cell_14 : decode cX9_cell 14 = .ok (.lconst 0, 1) := by decide +kernel
theorem dX9_cell_15 : decode cX9_cell 15 = .ok (.ldc2_w 107, 3) := by decide +kernel
theorem dX9_cell_18 : decode cX9_cell 18 = .ok (.invokestatic 87, 3) := by decide +kernel
theorem dX9_cell_21 : decode cX9_cell 21 = .ok (.ifCond .ne 7, 3) := by decide +kernel
theorem dX9_cell_24 : decode cX9_cell 24 = .ok (.invokestatic 95, 3) := by decide +kernel
theorem dX9_cell_27 : decode cX9_cell 27 = .ok (.lreturn, 1) := by decide +kernel
theorem dX9_cell_28 : decode cX9_cell 28 = .ok (.aload_n 0, 1) := by decide +kernel
theorem dX9_cell_29 : decode cX9_cell 29 = .ok (.getfield 73, 3) := by decide +kernel
theorem dX9_cell_32 : decode cX9_cell 32 = .ok (.iload_n 1, 1) := by decide +kernel
theorem dX9_cell_33 : decode cX9_cell 33 = .ok (.iaload, 1) := by decide +kernel
theorem dX9_cell_34 : decode cX9_cell 34 = .ok (.ifCond .lt 19, 3) := by decide +kernel
theorem dX9_cell_37 : decode cX9_cell 37 = .ok (.aload_n 0, 1) := by decide +kernel
theorem dX9_cell_38 : decode cX9_cell 38 = .ok (.getfield 76, 3) := by decide +kernel
theorem dX9_cell_41 : decode cX9_cell 41 = .ok (.iload_n 1, 1) := by decide +kernel
theorem dX9_cell_42 : decode cX9_cell 42 = .ok (.iaload, 1) := by decide +kernel
theorem dX9_cell_43 : decode cX9_cell 43 = .ok (.iload_n 3, 1) := by decide +kernel
theorem dX9_cell_44 : decode cX9_cell 44 = .ok (.if_icmp .eq 9, 3) := by decide +kernel
theorem dX9_cell_47 : decode cX9_cell 47 = .ok (.aload_n 0, 1) := by decide +kernel
theorem dX9_cell_48 : decode cX9_cell 48 = .ok (.iconst 2, 1) := by decide +kernel
theorem dX9_cell_49 : decode cX9_cell 49 = .ok (.invokevirtual 286, 3) := by decide +kernel
theorem dX9_cell_52 : decode cX9_cell 52 = .ok (.lreturn, 1) := by decide +kernel
theorem dX9_cell_53 : decode cX9_cell 53 = .ok (.aload_n 0, 1) := by decide +kernel
theorem dX9_cell_54 : decode cX9_cell 54 = .ok (.iload_n 1, 1) := by decide +kernel
theorem dX9_cell_55 : decode cX9_cell 55 = .ok (.iload_n 2, 1) := by decide +kernel
theorem dX9_cell_56 : decode cX9_cell 56 = .ok (.invokevirtual 283, 3) := by decide +kernel
theorem dX9_cell_59 : decode cX9_cell 59 = .ok (.ifCond .le 16, 3) := by decide +kernel
theorem dX9_cell_62 : decode cX9_cell 62 = .ok (.aload_n 0, 1) := by decide +kernel
theorem dX9_cell_63 : decode cX9_cell 63 = .ok (.aload_n 0, 1) := by decide +kernel
theorem dX9_cell_64 : decode cX9_cell 64 = .ok (.iload_n 1, 1) := by decide +kernel
theorem dX9_cell_65 : decode cX9_cell 65 = .ok (.iload_n 2, 1) := by decide +kernel
theorem dX9_cell_66 : decode cX9_cell 66 = .ok (.invokevirtual 283, 3) := by decide +kernel
theorem dX9_cell_69 : decode cX9_cell 69 = .ok (.invokevirtual 286, 3) := by decide +kernel
theorem dX9_cell_72 : decode cX9_cell 72 = .ok (.goto 15, 3) := by decide +kernel
theorem dX9_cell_75 : decode cX9_cell 75 = .ok (.aload_n 0, 1) := by decide +kernel
theorem dX9_cell_76 : decode cX9_cell 76 = .ok (.getfield 79, 3) := by decide +kernel
theorem dX9_cell_79 : decode cX9_cell 79 = .ok (.bipush 60, 2) := by decide +kernel
theorem dX9_cell_81 : decode cX9_cell 81 = .ok (.iload_n 1, 1) := by decide +kernel
theorem dX9_cell_82 : decode cX9_cell 82 = .ok (.imul, 1) := by decide +kernel
theorem dX9_cell_83 : decode cX9_cell 83 = .ok (.iload_n 2, 1) := by decide +kernel
theorem dX9_cell_84 : decode cX9_cell 84 = .ok (.iadd, 1) := by decide +kernel
theorem dX9_cell_85 : decode cX9_cell 85 = .ok (.iaload, 1) := by decide +kernel
theorem dX9_cell_86 : decode cX9_cell 86 = .ok (.i2l, 1) := by decide +kernel
theorem dX9_cell_87 : decode cX9_cell 87 = .ok (.lreturn, 1) := by decide +kernel
theorem dX9_isBeyond_0 : decode cX9_isBeyond 0 = .ok (.iload_n 0, 1) := by decide +kernel
theorem dX9_isBeyond_1 : decode cX9_isBeyond 1 = .ok (.ifCond .lt 19, 3) := by decide +kernel
theorem dX9_isBeyond_4 : decode cX9_isBeyond 4 = .ok (.lload_n 1, 1) := by decide +kernel
theorem dX9_isBeyond_5 : decode cX9_isBeyond 5 = .ok (.lconst 0, 1) := by decide +kernel
theorem dX9_isBeyond_6 : decode cX9_isBeyond 6 = .ok (.lcmp, 1) := by decide +kernel
theorem dX9_isBeyond_7 : decode cX9_isBeyond 7 = .ok (.ifCond .lt 13, 3) := by decide +kernel
theorem dX9_isBeyond_10 : decode cX9_isBeyond 10 = .ok (.iload_n 0, 1) := by decide +kernel
theorem dX9_isBeyond_11 : decode cX9_isBeyond 11 = .ok (.i2l, 1) := by decide +kernel
theorem dX9_isBeyond_12 : decode cX9_isBeyond 12 = .ok (.lload_n 1, 1) := by decide +kernel
theorem dX9_isBeyond_13 : decode cX9_isBeyond 13 = .ok (.ladd, 1) := by decide +kernel
theorem dX9_isBeyond_14 : decode cX9_isBeyond 14 = .ok (.iload_n 3, 1) := by decide +kernel
theorem dX9_isBeyond_15 : decode cX9_isBeyond 15 = .ok (.i2l, 1) := by decide +kernel
theorem dX9_isBeyond_16 : decode cX9_isBeyond 16 = .ok (.lcmp, 1) := by decide +kernel
theorem dX9_isBeyond_17 : decode cX9_isBeyond 17 = .ok (.ifCond .le 7, 3) := by decide +kernel
theorem dX9_isBeyond_20 : decode cX9_isBeyond 20 = .ok (.iconst 1, 1) := by decide +kernel
theorem dX9_isBeyond_21 : decode cX9_isBeyond 21 = .ok (.goto 4, 3) := by decide +kernel
theorem dX9_isBeyond_24 : decode cX9_isBeyond 24 = .ok (.iconst 0, 1) := by decide +kernel
theorem dX9_isBeyond_25 : decode cX9_isBeyond 25 = .ok (.ireturn, 1) := by decide +kernel
theorem dX9_copy_0 : decode cX9_copy 0 = .ok (.iload_n 1, 1) := by decide +kernel
theorem dX9_copy_1 : decode cX9_copy 1 = .ok (.invokestatic 99, 3) := by decide +kernel
theorem dX9_copy_4 : decode cX9_copy 4 = .ok (.ifCond .ne 10, 3) := by decide +kernel
theorem dX9_copy_7 : decode cX9_copy 7 = .ok (.iload_n 3, 1) := by decide +kernel
theorem dX9_copy_8 : decode cX9_copy 8 = .ok (.invokestatic 99, 3) := by decide +kernel
theorem dX9_copy_11 : decode cX9_copy 11 = .ok (.ifCond .eq 9, 3) := by decide +kernel
theorem dX9_copy_14 : decode cX9_copy 14 = .ok (.aload_n 0, 1) := by decide +kernel
theorem dX9_copy_15 : decode cX9_copy 15 = .ok (.iconst (-1), 1) := by decide +kernel
theorem dX9_copy_16 : decode cX9_copy 16 = .ok (.invokevirtual 103, 3) := by decide +kernel
theorem dX9_copy_19 : decode cX9_copy 19 = .ok (.ireturn, 1) := by decide +kernel
theorem dX9_copy_20 : decode cX9_copy 20 = .ok (.aload_n 0, 1) := by decide +kernel
theorem dX9_copy_21 : decode cX9_copy 21 = .ok (.getfield 73, 3) := by decide +kernel
theorem dX9_copy_24 : decode cX9_copy 24 = .ok (.iload_n 1, 1) := by decide +kernel
theorem dX9_copy_25 : decode cX9_copy 25 = .ok (.iaload, 1) := by decide +kernel
theorem dX9_copy_26 : decode cX9_copy 26 = .ok (.ifCond .lt 12, 3) := by decide +kernel
theorem dX9_copy_29 : decode cX9_copy 29 = .ok (.aload_n 0, 1) := by decide +kernel
theorem dX9_copy_30 : decode cX9_copy 30 = .ok (.getfield 73, 3) := by decide +kernel
theorem dX9_copy_33 : decode cX9_copy 33 = .ok (.iload_n 3, 1) := by decide +kernel
theorem dX9_copy_34 : decode cX9_copy 34 = .ok (.iaload, 1) := by decide +kernel
theorem dX9_copy_35 : decode cX9_copy 35 = .ok (.ifCond .ge 9, 3) := by decide +kernel
theorem dX9_copy_38 : decode cX9_copy 38 = .ok (.aload_n 0, 1) := by decide +kernel
theorem dX9_copy_39 : decode cX9_copy 39 = .ok (.iconst 1, 1) := by decide +kernel
theorem dX9_copy_40 : decode cX9_copy 40 = .ok (.invokevirtual 109, 3) := by decide +kernel
theorem dX9_copy_43 : decode cX9_copy 43 = .ok (.ireturn, 1) := by decide +kernel
theorem dX9_copy_44 : decode cX9_copy 44 = .ok (.aload_n 0, 1) := by decide +kernel
theorem dX9_copy_45 : decode cX9_copy 45 = .ok (.getfield 76, 3) := by decide +kernel
theorem dX9_copy_48 : decode cX9_copy 48 = .ok (.iload_n 1, 1) := by decide +kernel
theorem dX9_copy_49 : decode cX9_copy 49 = .ok (.iaload, 1) := by decide +kernel
theorem dX9_copy_50 : decode cX9_copy 50 = .ok (.aload_n 0, 1) := by decide +kernel
theorem dX9_copy_51 : decode cX9_copy 51 = .ok (.getfield 76, 3) := by decide +kernel
theorem dX9_copy_54 : decode cX9_copy 54 = .ok (.iload_n 3, 1) := by decide +kernel
theorem dX9_copy_55 : decode cX9_copy 55 = .ok (.iaload, 1) := by decide +kernel
theorem dX9_copy_56 : decode cX9_copy 56 = .ok (.if_icmp .eq 9, 3) := by decide +kernel
theorem dX9_copy_59 : decode cX9_copy 59 = .ok (.aload_n 0, 1) := by decide +kernel
theorem dX9_copy_60 : decode cX9_copy 60 = .ok (.iconst 2, 1) := by decide +kernel
theorem dX9_copy_61 : decode cX9_copy 61 = .ok (.invokevirtual 109, 3) := by decide +kernel
theorem dX9_copy_64 : decode cX9_copy 64 = .ok (.ireturn, 1) := by decide +kernel
theorem dX9_copy_65 : decode cX9_copy 65 = .ok (.iload_n 2, 1) := by decide +kernel
theorem dX9_copy_66 : decode cX9_copy 66 = .ok (.iload 5, 2) := by decide +kernel
theorem dX9_copy_68 : decode cX9_copy 68 = .ok (.i2l, 1) := by decide +kernel
theorem dX9_copy_69 : decode cX9_copy 69 = .ok (.aload_n 0, 1) := by decide +kernel
theorem dX9_copy_70 : decode cX9_copy 70 = .ok (.getfield 73, 3) := by decide +kernel
theorem dX9_copy_73 : decode cX9_copy 73 = .ok (.iload_n 1, 1) := by decide +kernel
theorem dX9_copy_74 : decode cX9_copy 74 = .ok (.iaload, 1) := by decide +kernel
theorem dX9_copy_75 : decode cX9_copy 75 = .ok (.invokestatic 112, 3) := by decide +kernel
theorem dX9_copy_78 : decode cX9_copy 78 = .ok (.ifCond .ne 20, 3) := by decide +kernel
theorem dX9_copy_81 : decode cX9_copy 81 = .ok (.iload 4, 2) := by decide +kernel
theorem dX9_copy_83 : decode cX9_copy 83 = .ok (.iload 5, 2) := by decide +kernel
theorem dX9_copy_85 : decode cX9_copy 85 = .ok (.i2l, 1) := by decide +kernel
theorem dX9_copy_86 : decode cX9_copy 86 = .ok (.aload_n 0, 1) := by decide +kernel
theorem dX9_copy_87 : decode cX9_copy 87 = .ok (.getfield 73, 3) := by decide +kernel
theorem dX9_copy_90 : decode cX9_copy 90 = .ok (.iload_n 3, 1) := by decide +kernel
theorem dX9_copy_91 : decode cX9_copy 91 = .ok (.iaload, 1) := by decide +kernel
theorem dX9_copy_92 : decode cX9_copy 92 = .ok (.invokestatic 112, 3) := by decide +kernel
theorem dX9_copy_95 : decode cX9_copy 95 = .ok (.ifCond .eq 9, 3) := by decide +kernel
theorem dX9_copy_98 : decode cX9_copy 98 = .ok (.aload_n 0, 1) := by decide +kernel
theorem dX9_copy_99 : decode cX9_copy 99 = .ok (.iconst 3, 1) := by decide +kernel
theorem dX9_copy_100 : decode cX9_copy 100 = .ok (.invokevirtual 109, 3) := by decide +kernel
theorem dX9_copy_103 : decode cX9_copy 103 = .ok (.ireturn, 1) := by decide +kernel
theorem dX9_copy_104 : decode cX9_copy 104 = .ok (.iconst 0, 1) := by decide +kernel
theorem dX9_copy_105 : decode cX9_copy 105 = .ok (.istore 6, 2) := by decide +kernel
theorem dX9_copy_107 : decode cX9_copy 107 = .ok (.iload 6, 2) := by decide +kernel
theorem dX9_copy_109 : decode cX9_copy 109 = .ok (.iload 5, 2) := by decide +kernel
theorem dX9_copy_111 : decode cX9_copy 111 = .ok (.if_icmp .ge 30, 3) := by decide +kernel
theorem dX9_copy_114 : decode cX9_copy 114 = .ok (.aload_n 0, 1) := by decide +kernel
theorem dX9_copy_115 : decode cX9_copy 115 = .ok (.getfield 82, 3) := by decide +kernel
theorem dX9_copy_118 : decode cX9_copy 118 = .ok (.iload 6, 2) := by decide +kernel
theorem dX9_copy_120 : decode cX9_copy 120 = .ok (.aload_n 0, 1) := by decide +kernel
theorem dX9_copy_121 : decode cX9_copy 121 = .ok (.getfield 79, 3) := by decide +kernel
theorem dX9_copy_124 : decode cX9_copy 124 = .ok (.bipush 60, 2) := by decide +kernel
theorem dX9_copy_126 : decode cX9_copy 126 = .ok (.iload_n 1, 1) := by decide +kernel
theorem dX9_copy_127 : decode cX9_copy 127 = .ok (.imul, 1) := by decide +kernel
theorem dX9_copy_128 : decode cX9_copy 128 = .ok (.iload_n 2, 1) := by decide +kernel
theorem dX9_copy_129 : decode cX9_copy 129 = .ok (.iadd, 1) := by decide +kernel
theorem dX9_copy_130 : decode cX9_copy 130 = .ok (.iload 6, 2) := by decide +kernel
theorem dX9_copy_132 : decode cX9_copy 132 = .ok (.iadd, 1) := by decide +kernel
theorem dX9_copy_133 : decode cX9_copy 133 = .ok (.iaload, 1) := by decide +kernel
theorem dX9_copy_134 : decode cX9_copy 134 = .ok (.iastore, 1) := by decide +kernel
theorem dX9_copy_135 : decode cX9_copy 135 = .ok (.iinc 6 1, 3) := by decide +kernel
theorem dX9_copy_138 : decode cX9_copy 138 = .ok (.goto (-31), 3) := by decide +kernel
theorem dX9_copy_141 : decode cX9_copy 141 = .ok (.iconst 0, 1) := by decide +kernel
theorem dX9_copy_142 : decode cX9_copy 142 = .ok (.istore 6, 2) := by decide +kernel
theorem dX9_copy_144 : decode cX9_copy 144 = .ok (.iload 6, 2) := by decide +kernel
theorem dX9_copy_146 : decode cX9_copy 146 = .ok (.iload 5, 2) := by decide +kernel
theorem dX9_copy_148 : decode cX9_copy 148 = .ok (.if_icmp .ge 31, 3) := by decide +kernel
theorem dX9_copy_151 : decode cX9_copy 151 = .ok (.aload_n 0, 1) := by decide +kernel
theorem dX9_copy_152 : decode cX9_copy 152 = .ok (.getfield 79, 3) := by decide +kernel
theorem dX9_copy_155 : decode cX9_copy 155 = .ok (.bipush 60, 2) := by decide +kernel
theorem dX9_copy_157 : decode cX9_copy 157 = .ok (.iload_n 3, 1) := by decide +kernel
theorem dX9_copy_158 : decode cX9_copy 158 = .ok (.imul, 1) := by decide +kernel
theorem dX9_copy_159 : decode cX9_copy 159 = .ok (.iload 4, 2) := by decide +kernel
theorem dX9_copy_161 : decode cX9_copy 161 = .ok (.iadd, 1) := by decide +kernel
theorem dX9_copy_162 : decode cX9_copy 162 = .ok (.iload 6, 2) := by decide +kernel
theorem dX9_copy_164 : decode cX9_copy 164 = .ok (.iadd, 1) := by decide +kernel
theorem dX9_copy_165 : decode cX9_copy 165 = .ok (.aload_n 0, 1) := by decide +kernel
theorem dX9_copy_166 : decode cX9_copy 166 = .ok (.getfield 82, 3) := by decide +kernel
theorem dX9_copy_169 : decode cX9_copy 169 = .ok (.iload 6, 2) := by decide +kernel
theorem dX9_copy_171 : decode cX9_copy 171 = .ok (.iaload, 1) := by decide +kernel
theorem dX9_copy_172 : decode cX9_copy 172 = .ok (.iastore, 1) := by decide +kernel
theorem dX9_copy_173 : decode cX9_copy 173 = .ok (.iinc 6 1, 3) := by decide +kernel
theorem dX9_copy_176 : decode cX9_copy 176 = .ok (.goto (-32), 3) := by decide +kernel
theorem dX9_copy_179 : decode cX9_copy 179 = .ok (.aload_n 0, 1) := by decide +kernel
theorem dX9_copy_180 : decode cX9_copy 180 = .ok (.iload 5, 2) := by decide +kernel
theorem dX9_copy_182 : decode cX9_copy 182 = .ok (.invokevirtual 103, 3) := by decide +kernel
theorem dX9_copy_185 : decode cX9_copy 185 = .ok (.ireturn, 1) := by decide +kernel
theorem dX9_traced_0 : decode cX9_traced 0 = .ok (.aload_n 0, 1) := by decide +kernel
theorem dX9_traced_1 : decode cX9_traced 1 = .ok (.bipush 31, 2) := by decide +kernel
theorem dX9_traced_3 : decode cX9_traced 3 = .ok (.aload_n 0, 1) := by decide +kernel
theorem dX9_traced_4 : decode cX9_traced 4 = .ok (.getfield 290, 3) := by decide +kernel
theorem dX9_traced_7 : decode cX9_traced 7 = .ok (.imul, 1) := by decide +kernel
theorem dX9_traced_8 : decode cX9_traced 8 = .ok (.iload_n 1, 1) := by decide +kernel
theorem dX9_traced_9 : decode cX9_traced 9 = .ok (.iadd, 1) := by decide +kernel
theorem dX9_traced_10 : decode cX9_traced 10 = .ok (.putfield 290, 3) := by decide +kernel
theorem dX9_traced_13 : decode cX9_traced 13 = .ok (.return_, 1) := by decide +kernel
theorem dX9_tell_0 : decode cX9_tell 0 = .ok (.aload_n 0, 1) := by decide +kernel
theorem dX9_tell_1 : decode cX9_tell 1 = .ok (.iload_n 1, 1) := by decide +kernel
theorem dX9_tell_2 : decode cX9_tell 2 = .ok (.invokevirtual 188, 3) := by decide +kernel
theorem dX9_tell_5 : decode cX9_tell 5 = .ok (.ifCond .eq 5, 3) := by decide +kernel
theorem dX9_tell_8 : decode cX9_tell 8 = .ok (.iconst (-1), 1) := by decide +kernel
theorem dX9_tell_9 : decode cX9_tell 9 = .ok (.ireturn, 1) := by decide +kernel
theorem dX9_tell_10 : decode cX9_tell 10 = .ok (.aload_n 0, 1) := by decide +kernel
theorem dX9_tell_11 : decode cX9_tell 11 = .ok (.getfield 28, 3) := by decide +kernel
theorem dX9_tell_14 : decode cX9_tell 14 = .ok (.iload_n 1, 1) := by decide +kernel
theorem dX9_tell_15 : decode cX9_tell 15 = .ok (.iaload, 1) := by decide +kernel
theorem dX9_tell_16 : decode cX9_tell 16 = .ok (.istore_n 2, 1) := by decide +kernel
theorem dX9_tell_17 : decode cX9_tell 17 = .ok (.iload_n 2, 1) := by decide +kernel
theorem dX9_tell_18 : decode cX9_tell 18 = .ok (.iconst 2, 1) := by decide +kernel
theorem dX9_tell_19 : decode cX9_tell 19 = .ok (.if_icmp .ne 8, 3) := by decide +kernel
theorem dX9_tell_22 : decode cX9_tell 22 = .ok (.aload_n 0, 1) := by decide +kernel
theorem dX9_tell_23 : decode cX9_tell 23 = .ok (.iconst 3, 1) := by decide +kernel
theorem dX9_tell_24 : decode cX9_tell 24 = .ok (.invokevirtual 293, 3) := by decide +kernel
theorem dX9_tell_27 : decode cX9_tell 27 = .ok (.iload_n 2, 1) := by decide +kernel
theorem dX9_tell_28 : decode cX9_tell 28 = .ok (.ifCond .le 8, 3) := by decide +kernel
theorem dX9_tell_31 : decode cX9_tell 31 = .ok (.aload_n 0, 1) := by decide +kernel
theorem dX9_tell_32 : decode cX9_tell 32 = .ok (.iconst 2, 1) := by decide +kernel
theorem dX9_tell_33 : decode cX9_tell 33 = .ok (.invokevirtual 293, 3) := by decide +kernel
theorem dX9_tell_36 : decode cX9_tell 36 = .ok (.aload_n 0, 1) := by decide +kernel
theorem dX9_tell_37 : decode cX9_tell 37 = .ok (.iconst 1, 1) := by decide +kernel
theorem dX9_tell_38 : decode cX9_tell 38 = .ok (.invokevirtual 293, 3) := by decide +kernel
theorem dX9_tell_41 : decode cX9_tell 41 = .ok (.iload_n 2, 1) := by decide +kernel
theorem dX9_tell_42 : decode cX9_tell 42 = .ok (.iconst 2, 1) := by decide +kernel
theorem dX9_tell_43 : decode cX9_tell 43 = .ok (.if_icmp .ne 8, 3) := by decide +kernel
theorem dX9_tell_46 : decode cX9_tell 46 = .ok (.aload_n 0, 1) := by decide +kernel
theorem dX9_tell_47 : decode cX9_tell 47 = .ok (.iconst 1, 1) := by decide +kernel
theorem dX9_tell_48 : decode cX9_tell 48 = .ok (.invokevirtual 293, 3) := by decide +kernel
theorem dX9_tell_51 : decode cX9_tell 51 = .ok (.aload_n 0, 1) := by decide +kernel
theorem dX9_tell_52 : decode cX9_tell 52 = .ok (.getfield 34, 3) := by decide +kernel
theorem dX9_tell_55 : decode cX9_tell 55 = .ok (.iload_n 1, 1) := by decide +kernel
theorem dX9_tell_56 : decode cX9_tell 56 = .ok (.iaload, 1) := by decide +kernel
theorem dX9_tell_57 : decode cX9_tell 57 = .ok (.istore_n 3, 1) := by decide +kernel
theorem dX9_tell_58 : decode cX9_tell 58 = .ok (.iload_n 2, 1) := by decide +kernel
theorem dX9_tell_59 : decode cX9_tell 59 = .ok (.ifCond .ne 7, 3) := by decide +kernel
theorem dX9_tell_62 : decode cX9_tell 62 = .ok (.iload_n 3, 1) := by decide +kernel
theorem dX9_tell_63 : decode cX9_tell 63 = .ok (.goto 21, 3) := by decide +kernel
theorem dX9_tell_66 : decode cX9_tell 66 = .ok (.iload_n 2, 1) := by decide +kernel
theorem dX9_tell_67 : decode cX9_tell 67 = .ok (.iconst 1, 1) := by decide +kernel
theorem dX9_tell_68 : decode cX9_tell 68 = .ok (.if_icmp .ne 10, 3) := by decide +kernel
theorem dX9_tell_71 : decode cX9_tell 71 = .ok (.iload_n 3, 1) := by decide +kernel
theorem dX9_tell_72 : decode cX9_tell 72 = .ok (.bipush 100, 2) := by decide +kernel
theorem dX9_tell_74 : decode cX9_tell 74 = .ok (.iadd, 1) := by decide +kernel
theorem dX9_tell_75 : decode cX9_tell 75 = .ok (.goto 9, 3) := by decide +kernel
theorem dX9_tell_78 : decode cX9_tell 78 = .ok (.iconst 2, 1) := by decide +kernel
theorem dX9_tell_79 : decode cX9_tell 79 = .ok (.iload_n 3, 1) := by decide +kernel
theorem dX9_tell_80 : decode cX9_tell 80 = .ok (.imul, 1) := by decide +kernel
theorem dX9_tell_81 : decode cX9_tell 81 = .ok (.bipush 100, 2) := by decide +kernel
theorem dX9_tell_83 : decode cX9_tell 83 = .ok (.iadd, 1) := by decide +kernel
theorem dX9_tell_84 : decode cX9_tell 84 = .ok (.ireturn, 1) := by decide +kernel
theorem dX9_greet_0 : decode cX9_greet 0 = .ok (.aload_n 0, 1) := by decide +kernel
theorem dX9_greet_1 : decode cX9_greet 1 = .ok (.iload_n 1, 1) := by decide +kernel
theorem dX9_greet_2 : decode cX9_greet 2 = .ok (.invokevirtual 188, 3) := by decide +kernel
theorem dX9_greet_5 : decode cX9_greet 5 = .ok (.ifCond .eq 5, 3) := by decide +kernel
theorem dX9_greet_8 : decode cX9_greet 8 = .ok (.iconst (-1), 1) := by decide +kernel
theorem dX9_greet_9 : decode cX9_greet 9 = .ok (.ireturn, 1) := by decide +kernel
theorem dX9_greet_10 : decode cX9_greet 10 = .ok (.aload_n 0, 1) := by decide +kernel
theorem dX9_greet_11 : decode cX9_greet 11 = .ok (.aload_n 0, 1) := by decide +kernel
theorem dX9_greet_12 : decode cX9_greet 12 = .ok (.getfield 28, 3) := by decide +kernel
theorem dX9_greet_15 : decode cX9_greet 15 = .ok (.iload_n 1, 1) := by decide +kernel
theorem dX9_greet_16 : decode cX9_greet 16 = .ok (.iaload, 1) := by decide +kernel
theorem dX9_greet_17 : decode cX9_greet 17 = .ok (.iconst 2, 1) := by decide +kernel
theorem dX9_greet_18 : decode cX9_greet 18 = .ok (.if_icmp .ne 7, 3) := by decide +kernel
theorem dX9_greet_21 : decode cX9_greet 21 = .ok (.iconst 5, 1) := by decide +kernel
theorem dX9_greet_22 : decode cX9_greet 22 = .ok (.goto 4, 3) := by decide +kernel
theorem dX9_greet_25 : decode cX9_greet 25 = .ok (.iconst 4, 1) := by decide +kernel
theorem dX9_greet_26 : decode cX9_greet 26 = .ok (.invokevirtual 293, 3) := by decide +kernel
theorem dX9_greet_29 : decode cX9_greet 29 = .ok (.aload_n 0, 1) := by decide +kernel
theorem dX9_greet_30 : decode cX9_greet 30 = .ok (.getfield 28, 3) := by decide +kernel
theorem dX9_greet_33 : decode cX9_greet 33 = .ok (.iload_n 1, 1) := by decide +kernel
theorem dX9_greet_34 : decode cX9_greet 34 = .ok (.iaload, 1) := by decide +kernel
theorem dX9_greet_35 : decode cX9_greet 35 = .ok (.iconst 2, 1) := by decide +kernel
theorem dX9_greet_36 : decode cX9_greet 36 = .ok (.if_icmp .ne 8, 3) := by decide +kernel
theorem dX9_greet_39 : decode cX9_greet 39 = .ok (.bipush 60, 2) := by decide +kernel
theorem dX9_greet_41 : decode cX9_greet 41 = .ok (.goto 4, 3) := by decide +kernel
theorem dX9_greet_44 : decode cX9_greet 44 = .ok (.iload_n 1, 1) := by decide +kernel
theorem dX9_greet_45 : decode cX9_greet 45 = .ok (.ireturn, 1) := by decide +kernel
theorem dX9_as_0 : decode cX9_as 0 = .ok (.aload_n 0, 1) := by decide +kernel
theorem dX9_as_1 : decode cX9_as 1 = .ok (.iload_n 1, 1) := by decide +kernel
theorem dX9_as_2 : decode cX9_as 2 = .ok (.invokevirtual 188, 3) := by decide +kernel
theorem dX9_as_5 : decode cX9_as 5 = .ok (.ifCond .eq 9, 3) := by decide +kernel
theorem dX9_as_8 : decode cX9_as 8 = .ok (.aload_n 0, 1) := by decide +kernel
theorem dX9_as_9 : decode cX9_as 9 = .ok (.iconst (-1), 1) := by decide +kernel
theorem dX9_as_10 : decode cX9_as 10 = .ok (.invokevirtual 103, 3) := by decide +kernel
theorem dX9_as_13 : decode cX9_as 13 = .ok (.ireturn, 1) := by decide +kernel
theorem dX9_as_14 : decode cX9_as 14 = .ok (.iload_n 2, 1) := by decide +kernel
theorem dX9_as_15 : decode cX9_as 15 = .ok (.i2l, 1) := by decide +kernel
theorem dX9_as_16 : decode cX9_as 16 = .ok (.lconst 0, 1) := by decide +kernel
theorem dX9_as_17 : decode cX9_as 17 = .ok (.ldc2_w 107, 3) := by decide +kernel
theorem dX9_as_20 : decode cX9_as 20 = .ok (.invokestatic 87, 3) := by decide +kernel
theorem dX9_as_23 : decode cX9_as 23 = .ok (.ifCond .ne 10, 3) := by decide +kernel
theorem dX9_as_26 : decode cX9_as 26 = .ok (.aload_n 0, 1) := by decide +kernel
theorem dX9_as_27 : decode cX9_as 27 = .ok (.bipush (-2), 2) := by decide +kernel
theorem dX9_as_29 : decode cX9_as 29 = .ok (.invokevirtual 103, 3) := by decide +kernel
theorem dX9_as_32 : decode cX9_as 32 = .ok (.ireturn, 1) := by decide +kernel
theorem dX9_as_33 : decode cX9_as 33 = .ok (.aload_n 0, 1) := by decide +kernel
theorem dX9_as_34 : decode cX9_as 34 = .ok (.getfield 28, 3) := by decide +kernel
theorem dX9_as_37 : decode cX9_as 37 = .ok (.iload_n 1, 1) := by decide +kernel
theorem dX9_as_38 : decode cX9_as 38 = .ok (.iaload, 1) := by decide +kernel
theorem dX9_as_39 : decode cX9_as 39 = .ok (.iload_n 2, 1) := by decide +kernel
theorem dX9_as_40 : decode cX9_as 40 = .ok (.if_icmp .lt 11, 3) := by decide +kernel
theorem dX9_as_43 : decode cX9_as 43 = .ok (.aload_n 0, 1) := by decide +kernel
theorem dX9_as_44 : decode cX9_as 44 = .ok (.iconst 1, 1) := by decide +kernel
theorem dX9_as_45 : decode cX9_as 45 = .ok (.invokevirtual 103, 3) := by decide +kernel
theorem dX9_as_48 : decode cX9_as 48 = .ok (.goto 8, 3) := by decide +kernel
theorem dX9_as_51 : decode cX9_as 51 = .ok (.aload_n 0, 1) := by decide +kernel
theorem dX9_as_52 : decode cX9_as 52 = .ok (.iconst 2, 1) := by decide +kernel
theorem dX9_as_53 : decode cX9_as 53 = .ok (.invokevirtual 109, 3) := by decide +kernel
theorem dX9_as_56 : decode cX9_as 56 = .ok (.ireturn, 1) := by decide +kernel
theorem dX9_trace_0 : decode cX9_trace 0 = .ok (.aload_n 0, 1) := by decide +kernel
theorem dX9_trace_1 : decode cX9_trace 1 = .ok (.getfield 290, 3) := by decide +kernel
theorem dX9_trace_4 : decode cX9_trace 4 = .ok (.ireturn, 1) := by decide +kernel
theorem dX9_fault_0 : decode cX9_fault 0 = .ok (.aload_n 0, 1) := by decide +kernel
theorem dX9_fault_1 : decode cX9_fault 1 = .ok (.getfield 91, 3) := by decide +kernel
theorem dX9_fault_4 : decode cX9_fault 4 = .ok (.ireturn, 1) := by decide +kernel
theorem dX9_many_0 : decode cX9_many 0 = .ok (.iload_n 1, 1) := by decide +kernel
theorem dX9_many_1 : decode cX9_many 1 = .ok (.tableswitch 68 0 4 #[35, 40, 45, 50, 55], 35) := by decide +kernel
theorem dX9_many_36 : decode cX9_many 36 = .ok (.aload_n 0, 1) := by decide +kernel
theorem dX9_many_37 : decode cX9_many 37 = .ok (.getfield 119, 3) := by decide +kernel
theorem dX9_many_40 : decode cX9_many 40 = .ok (.ireturn, 1) := by decide +kernel
theorem dX9_many_41 : decode cX9_many 41 = .ok (.aload_n 0, 1) := by decide +kernel
theorem dX9_many_42 : decode cX9_many 42 = .ok (.getfield 116, 3) := by decide +kernel
theorem dX9_many_45 : decode cX9_many 45 = .ok (.ireturn, 1) := by decide +kernel
theorem dX9_many_46 : decode cX9_many 46 = .ok (.aload_n 0, 1) := by decide +kernel
theorem dX9_many_47 : decode cX9_many 47 = .ok (.getfield 153, 3) := by decide +kernel
theorem dX9_many_50 : decode cX9_many 50 = .ok (.ireturn, 1) := by decide +kernel
theorem dX9_many_51 : decode cX9_many 51 = .ok (.aload_n 0, 1) := by decide +kernel
theorem dX9_many_52 : decode cX9_many 52 = .ok (.invokevirtual 233, 3) := by decide +kernel
theorem dX9_many_55 : decode cX9_many 55 = .ok (.ireturn, 1) := by decide +kernel
theorem dX9_many_56 : decode cX9_many 56 = .ok (.aload_n 0, 1) := by decide +kernel
theorem dX9_many_57 : decode cX9_many 57 = .ok (.getfield 159, 3) := by decide +kernel
theorem dX9_many_60 : decode cX9_many 60 = .ok (.ifCond .eq 7, 3) := by decide +kernel
theorem dX9_many_63 : decode cX9_many 63 = .ok (.iconst 1, 1) := by decide +kernel
theorem dX9_many_64 : decode cX9_many 64 = .ok (.goto 4, 3) := by decide +kernel
theorem dX9_many_67 : decode cX9_many 67 = .ok (.iconst 0, 1) := by decide +kernel
theorem dX9_many_68 : decode cX9_many 68 = .ok (.ireturn, 1) := by decide +kernel
theorem dX9_many_69 : decode cX9_many 69 = .ok (.bipush (-2), 2) := by decide +kernel
theorem dX9_many_71 : decode cX9_many 71 = .ok (.ireturn, 1) := by decide +kernel
end
section
theorem dL_law_0 : decode cL_law 0 = .ok (.new 7, 3) := by decide +kernel
theorem dL_law_3 : decode cL_law 3 = .ok (.dup, 1) := by decide +kernel
theorem dL_law_4 : decode cL_law 4 = .ok (.invokespecial 9, 3) := by decide +kernel
theorem dL_law_7 : decode cL_law 7 = .ok (.astore_n 1, 1) := by decide +kernel
theorem dL_law_8 : decode cL_law 8 = .ok (.new 10, 3) := by decide +kernel
theorem dL_law_11 : decode cL_law 11 = .ok (.dup, 1) := by decide +kernel
theorem dL_law_12 : decode cL_law 12 = .ok (.invokespecial 12, 3) := by decide +kernel
theorem dL_law_15 : decode cL_law 15 = .ok (.astore_n 2, 1) := by decide +kernel
theorem dL_law_16 : decode cL_law 16 = .ok (.iconst 0, 1) := by decide +kernel
theorem dL_law_17 : decode cL_law 17 = .ok (.istore_n 3, 1) := by decide +kernel
theorem dL_law_18 : decode cL_law 18 = .ok (.iload_n 3, 1) := by decide +kernel
theorem dL_law_19 : decode cL_law 19 = .ok (.aload_n 0, 1) := by decide +kernel
theorem dL_law_20 : decode cL_law 20 = .ok (.arraylength, 1) := by decide +kernel
theorem dL_law_21 : decode cL_law 21 = .ok (.bipush 10, 2) := by decide +kernel
theorem dL_law_23 : decode cL_law 23 = .ok (.isub, 1) := by decide +kernel
theorem dL_law_24 : decode cL_law 24 = .ok (.if_icmp .gt 1594, 3) := by decide +kernel
theorem dL_law_27 : decode cL_law 27 = .ok (.aload_n 0, 1) := by decide +kernel
theorem dL_law_28 : decode cL_law 28 = .ok (.iload_n 3, 1) := by decide +kernel
theorem dL_law_29 : decode cL_law 29 = .ok (.iaload, 1) := by decide +kernel
theorem dL_law_30 : decode cL_law 30 = .ok (.bipush 63, 2) := by decide +kernel
theorem dL_law_32 : decode cL_law 32 = .ok (.iand, 1) := by decide +kernel
theorem dL_law_33 : decode cL_law 33 = .ok (.tableswitch 1579 0 35 #[159, 212, 245, 278, 311, 344, 387, 450, 473, 512, 565, 598, 641, 664, 697, 730, 773, 796, 819, 842, 885, 997, 1084, 1128, 1171, 1235, 1278, 1301, 1344, 1388, 1451, 1474, 1497, 1530, 1543, 1556], 159) := by decide +kernel
theorem dL_law_192 : decode cL_law 192 = .ok (.aload_n 1, 1) := by decide +kernel
theorem dL_law_193 : decode cL_law 193 = .ok (.aload_n 0, 1) := by decide +kernel
theorem dL_law_194 : decode cL_law 194 = .ok (.iload_n 3, 1) := by decide +kernel
theorem dL_law_195 : decode cL_law 195 = .ok (.iconst 1, 1) := by decide +kernel
theorem dL_law_196 : decode cL_law 196 = .ok (.iadd, 1) := by decide +kernel
theorem dL_law_197 : decode cL_law 197 = .ok (.iaload, 1) := by decide +kernel
theorem dL_law_198 : decode cL_law 198 = .ok (.aload_n 0, 1) := by decide +kernel
theorem dL_law_199 : decode cL_law 199 = .ok (.iload_n 3, 1) := by decide +kernel
theorem dL_law_200 : decode cL_law 200 = .ok (.iconst 2, 1) := by decide +kernel
theorem dL_law_201 : decode cL_law 201 = .ok (.iadd, 1) := by decide +kernel
theorem dL_law_202 : decode cL_law 202 = .ok (.iaload, 1) := by decide +kernel
theorem dL_law_203 : decode cL_law 203 = .ok (.aload_n 0, 1) := by decide +kernel
theorem dL_law_204 : decode cL_law 204 = .ok (.iload_n 3, 1) := by decide +kernel
theorem dL_law_205 : decode cL_law 205 = .ok (.iconst 3, 1) := by decide +kernel
theorem dL_law_206 : decode cL_law 206 = .ok (.iadd, 1) := by decide +kernel
theorem dL_law_207 : decode cL_law 207 = .ok (.iaload, 1) := by decide +kernel
theorem dL_law_208 : decode cL_law 208 = .ok (.aload_n 0, 1) := by decide +kernel
theorem dL_law_209 : decode cL_law 209 = .ok (.iload_n 3, 1) := by decide +kernel
theorem dL_law_210 : decode cL_law 210 = .ok (.iconst 4, 1) := by decide +kernel
theorem dL_law_211 : decode cL_law 211 = .ok (.iadd, 1) := by decide +kernel
theorem dL_law_212 : decode cL_law 212 = .ok (.iaload, 1) := by decide +kernel
theorem dL_law_213 : decode cL_law 213 = .ok (.invokevirtual 13, 3) := by decide +kernel
theorem dL_law_216 : decode cL_law 216 = .ok (.aload_n 2, 1) := by decide +kernel
theorem dL_law_217 : decode cL_law 217 = .ok (.aload_n 0, 1) := by decide +kernel
theorem dL_law_218 : decode cL_law 218 = .ok (.iload_n 3, 1) := by decide +kernel
theorem dL_law_219 : decode cL_law 219 = .ok (.iconst 1, 1) := by decide +kernel
theorem dL_law_220 : decode cL_law 220 = .ok (.iadd, 1) := by decide +kernel
theorem dL_law_221 : decode cL_law 221 = .ok (.iaload, 1) := by decide +kernel
theorem dL_law_222 : decode cL_law 222 = .ok (.aload_n 0, 1) := by decide +kernel
theorem dL_law_223 : decode cL_law 223 = .ok (.iload_n 3, 1) := by decide +kernel
theorem dL_law_224 : decode cL_law 224 = .ok (.iconst 2, 1) := by decide +kernel
theorem dL_law_225 : decode cL_law 225 = .ok (.iadd, 1) := by decide +kernel
theorem dL_law_226 : decode cL_law 226 = .ok (.iaload, 1) := by decide +kernel
theorem dL_law_227 : decode cL_law 227 = .ok (.aload_n 0, 1) := by decide +kernel
theorem dL_law_228 : decode cL_law 228 = .ok (.iload_n 3, 1) := by decide +kernel
theorem dL_law_229 : decode cL_law 229 = .ok (.iconst 3, 1) := by decide +kernel
theorem dL_law_230 : decode cL_law 230 = .ok (.iadd, 1) := by decide +kernel
theorem dL_law_231 : decode cL_law 231 = .ok (.iaload, 1) := by decide +kernel
theorem dL_law_232 : decode cL_law 232 = .ok (.aload_n 0, 1) := by decide +kernel
theorem dL_law_233 : decode cL_law 233 = .ok (.iload_n 3, 1) := by decide +kernel
theorem dL_law_234 : decode cL_law 234 = .ok (.iconst 4, 1) := by decide +kernel
theorem dL_law_235 : decode cL_law 235 = .ok (.iadd, 1) := by decide +kernel
theorem dL_law_236 : decode cL_law 236 = .ok (.iaload, 1) := by decide +kernel
theorem dL_law_237 : decode cL_law 237 = .ok (.invokevirtual 17, 3) := by decide +kernel
theorem dL_law_240 : decode cL_law 240 = .ok (.if_icmp .eq 1372, 3) := by decide +kernel
theorem dL_law_243 : decode cL_law 243 = .ok (.iconst 0, 1) := by decide +kernel
theorem dL_law_244 : decode cL_law 244 = .ok (.ireturn, 1) := by decide +kernel
theorem dL_law_245 : decode cL_law 245 = .ok (.aload_n 1, 1) := by decide +kernel
theorem dL_law_246 : decode cL_law 246 = .ok (.aload_n 0, 1) := by decide +kernel
theorem dL_law_247 : decode cL_law 247 = .ok (.iload_n 3, 1) := by decide +kernel
theorem dL_law_248 : decode cL_law 248 = .ok (.iconst 1, 1) := by decide +kernel
theorem dL_law_249 : decode cL_law 249 = .ok (.iadd, 1) := by decide +kernel
theorem dL_law_250 : decode cL_law 250 = .ok (.iaload, 1) := by decide +kernel
theorem dL_law_251 : decode cL_law 251 = .ok (.aload_n 0, 1) := by decide +kernel
theorem dL_law_252 : decode cL_law 252 = .ok (.iload_n 3, 1) := by decide +kernel
theorem dL_law_253 : decode cL_law 253 = .ok (.iconst 2, 1) := by decide +kernel
theorem dL_law_254 : decode cL_law 254 = .ok (.iadd, 1) := by decide +kernel
theorem dL_law_255 : decode cL_law 255 = .ok (.iaload, 1) := by decide +kernel
theorem dL_law_256 : decode cL_law 256 = .ok (.invokevirtual 18, 3) := by decide +kernel
theorem dL_law_259 : decode cL_law 259 = .ok (.aload_n 2, 1) := by decide +kernel
theorem dL_law_260 : decode cL_law 260 = .ok (.aload_n 0, 1) := by decide +kernel
theorem dL_law_261 : decode cL_law 261 = .ok (.iload_n 3, 1) := by decide +kernel
theorem dL_law_262 : decode cL_law 262 = .ok (.iconst 1, 1) := by decide +kernel
theorem dL_law_263 : decode cL_law 263 = .ok (.iadd, 1) := by decide +kernel
theorem dL_law_264 : decode cL_law 264 = .ok (.iaload, 1) := by decide +kernel
theorem dL_law_265 : decode cL_law 265 = .ok (.aload_n 0, 1) := by decide +kernel
theorem dL_law_266 : decode cL_law 266 = .ok (.iload_n 3, 1) := by decide +kernel
theorem dL_law_267 : decode cL_law 267 = .ok (.iconst 2, 1) := by decide +kernel
theorem dL_law_268 : decode cL_law 268 = .ok (.iadd, 1) := by decide +kernel
theorem dL_law_269 : decode cL_law 269 = .ok (.iaload, 1) := by decide +kernel
theorem dL_law_270 : decode cL_law 270 = .ok (.invokevirtual 22, 3) := by decide +kernel
theorem dL_law_273 : decode cL_law 273 = .ok (.if_icmp .eq 1339, 3) := by decide +kernel
theorem dL_law_276 : decode cL_law 276 = .ok (.iconst 0, 1) := by decide +kernel
theorem dL_law_277 : decode cL_law 277 = .ok (.ireturn, 1) := by decide +kernel
theorem dL_law_278 : decode cL_law 278 = .ok (.aload_n 1, 1) := by decide +kernel
theorem dL_law_279 : decode cL_law 279 = .ok (.aload_n 0, 1) := by decide +kernel
theorem dL_law_280 : decode cL_law 280 = .ok (.iload_n 3, 1) := by decide +kernel
theorem dL_law_281 : decode cL_law 281 = .ok (.iconst 1, 1) := by decide +kernel
theorem dL_law_282 : decode cL_law 282 = .ok (.iadd, 1) := by decide +kernel
theorem dL_law_283 : decode cL_law 283 = .ok (.iaload, 1) := by decide +kernel
theorem dL_law_284 : decode cL_law 284 = .ok (.aload_n 0, 1) := by decide +kernel
theorem dL_law_285 : decode cL_law 285 = .ok (.iload_n 3, 1) := by decide +kernel
theorem dL_law_286 : decode cL_law 286 = .ok (.iconst 2, 1) := by decide +kernel
theorem dL_law_287 : decode cL_law 287 = .ok (.iadd, 1) := by decide +kernel
theorem dL_law_288 : decode cL_law 288 = .ok (.iaload, 1) := by decide +kernel
theorem dL_law_289 : decode cL_law 289 = .ok (.invokevirtual 23, 3) := by decide +kernel
theorem dL_law_292 : decode cL_law 292 = .ok (.aload_n 2, 1) := by decide +kernel
theorem dL_law_293 : decode cL_law 293 = .ok (.aload_n 0, 1) := by decide +kernel
theorem dL_law_294 : decode cL_law 294 = .ok (.iload_n 3, 1) := by decide +kernel
theorem dL_law_295 : decode cL_law 295 = .ok (.iconst 1, 1) := by decide +kernel
theorem dL_law_296 : decode cL_law 296 = .ok (.iadd, 1) := by decide +kernel
theorem dL_law_297 : decode cL_law 297 = .ok (.iaload, 1) := by decide +kernel
theorem dL_law_298 : decode cL_law 298 = .ok (.aload_n 0, 1) := by decide +kernel
theorem dL_law_299 : decode cL_law 299 = .ok (.iload_n 3, 1) := by decide +kernel
theorem dL_law_300 : decode cL_law 300 = .ok (.iconst 2, 1) := by decide +kernel
theorem dL_law_301 : decode cL_law 301 = .ok (.iadd, 1) := by decide +kernel
theorem dL_law_302 : decode cL_law 302 = .ok (.iaload, 1) := by decide +kernel
theorem dL_law_303 : decode cL_law 303 = .ok (.invokevirtual 26, 3) := by decide +kernel
theorem dL_law_306 : decode cL_law 306 = .ok (.if_icmp .eq 1306, 3) := by decide +kernel
theorem dL_law_309 : decode cL_law 309 = .ok (.iconst 0, 1) := by decide +kernel
theorem dL_law_310 : decode cL_law 310 = .ok (.ireturn, 1) := by decide +kernel
theorem dL_law_311 : decode cL_law 311 = .ok (.aload_n 1, 1) := by decide +kernel
theorem dL_law_312 : decode cL_law 312 = .ok (.aload_n 0, 1) := by decide +kernel
theorem dL_law_313 : decode cL_law 313 = .ok (.iload_n 3, 1) := by decide +kernel
theorem dL_law_314 : decode cL_law 314 = .ok (.iconst 1, 1) := by decide +kernel
theorem dL_law_315 : decode cL_law 315 = .ok (.iadd, 1) := by decide +kernel
theorem dL_law_316 : decode cL_law 316 = .ok (.iaload, 1) := by decide +kernel
theorem dL_law_317 : decode cL_law 317 = .ok (.aload_n 0, 1) := by decide +kernel
theorem dL_law_318 : decode cL_law 318 = .ok (.iload_n 3, 1) := by decide +kernel
theorem dL_law_319 : decode cL_law 319 = .ok (.iconst 2, 1) := by decide +kernel
theorem dL_law_320 : decode cL_law 320 = .ok (.iadd, 1) := by decide +kernel
theorem dL_law_321 : decode cL_law 321 = .ok (.iaload, 1) := by decide +kernel
theorem dL_law_322 : decode cL_law 322 = .ok (.invokevirtual 27, 3) := by decide +kernel
theorem dL_law_325 : decode cL_law 325 = .ok (.aload_n 2, 1) := by decide +kernel
theorem dL_law_326 : decode cL_law 326 = .ok (.aload_n 0, 1) := by decide +kernel
theorem dL_law_327 : decode cL_law 327 = .ok (.iload_n 3, 1) := by decide +kernel
theorem dL_law_328 : decode cL_law 328 = .ok (.iconst 1, 1) := by decide +kernel
theorem dL_law_329 : decode cL_law 329 = .ok (.iadd, 1) := by decide +kernel
theorem dL_law_330 : decode cL_law 330 = .ok (.iaload, 1) := by decide +kernel
theorem dL_law_331 : decode cL_law 331 = .ok (.aload_n 0, 1) := by decide +kernel
theorem dL_law_332 : decode cL_law 332 = .ok (.iload_n 3, 1) := by decide +kernel
theorem dL_law_333 : decode cL_law 333 = .ok (.iconst 2, 1) := by decide +kernel
theorem dL_law_334 : decode cL_law 334 = .ok (.iadd, 1) := by decide +kernel
theorem dL_law_335 : decode cL_law 335 = .ok (.iaload, 1) := by decide +kernel
theorem dL_law_336 : decode cL_law 336 = .ok (.invokevirtual 30, 3) := by decide +kernel
theorem dL_law_339 : decode cL_law 339 = .ok (.if_icmp .eq 1273, 3) := by decide +kernel
theorem dL_law_342 : decode cL_law 342 = .ok (.iconst 0, 1) := by decide +kernel
theorem dL_law_343 : decode cL_law 343 = .ok (.ireturn, 1) := by decide +kernel
theorem dL_law_344 : decode cL_law 344 = .ok (.aload_n 1, 1) := by decide +kernel
theorem dL_law_345 : decode cL_law 345 = .ok (.aload_n 0, 1) := by decide +kernel
theorem dL_law_346 : decode cL_law 346 = .ok (.iload_n 3, 1) := by decide +kernel
theorem dL_law_347 : decode cL_law 347 = .ok (.iconst 1, 1) := by decide +kernel
theorem dL_law_348 : decode cL_law 348 = .ok (.iadd, 1) := by decide +kernel
theorem dL_law_349 : decode cL_law 349 = .ok (.iaload, 1) := by decide +kernel
theorem dL_law_350 : decode cL_law 350 = .ok (.aload_n 0, 1) := by decide +kernel
theorem dL_law_351 : decode cL_law 351 = .ok (.iload_n 3, 1) := by decide +kernel
theorem dL_law_352 : decode cL_law 352 = .ok (.iconst 2, 1) := by decide +kernel
theorem dL_law_353 : decode cL_law 353 = .ok (.iadd, 1) := by decide +kernel
theorem dL_law_354 : decode cL_law 354 = .ok (.iaload, 1) := by decide +kernel
theorem dL_law_355 : decode cL_law 355 = .ok (.invokevirtual 31, 3) := by decide +kernel
theorem dL_law_358 : decode cL_law 358 = .ok (.aload_n 2, 1) := by decide +kernel
theorem dL_law_359 : decode cL_law 359 = .ok (.aload_n 0, 1) := by decide +kernel
theorem dL_law_360 : decode cL_law 360 = .ok (.iload_n 3, 1) := by decide +kernel
theorem dL_law_361 : decode cL_law 361 = .ok (.iconst 1, 1) := by decide +kernel
theorem dL_law_362 : decode cL_law 362 = .ok (.iadd, 1) := by decide +kernel
theorem dL_law_363 : decode cL_law 363 = .ok (.iaload, 1) := by decide +kernel
theorem dL_law_364 : decode cL_law 364 = .ok (.aload_n 0, 1) := by decide +kernel
theorem dL_law_365 : decode cL_law 365 = .ok (.iload_n 3, 1) := by decide +kernel
theorem dL_law_366 : decode cL_law 366 = .ok (.iconst 2, 1) := by decide +kernel
theorem dL_law_367 : decode cL_law 367 = .ok (.iadd, 1) := by decide +kernel
theorem dL_law_368 : decode cL_law 368 = .ok (.iaload, 1) := by decide +kernel
theorem dL_law_369 : decode cL_law 369 = .ok (.invokevirtual 34, 3) := by decide +kernel
theorem dL_law_372 : decode cL_law 372 = .ok (.if_icmp .eq 1240, 3) := by decide +kernel
theorem dL_law_375 : decode cL_law 375 = .ok (.iconst 0, 1) := by decide +kernel
theorem dL_law_376 : decode cL_law 376 = .ok (.ireturn, 1) := by decide +kernel
theorem dL_law_377 : decode cL_law 377 = .ok (.aload_n 1, 1) := by decide +kernel
theorem dL_law_378 : decode cL_law 378 = .ok (.aload_n 0, 1) := by decide +kernel
theorem dL_law_379 : decode cL_law 379 = .ok (.iload_n 3, 1) := by decide +kernel
theorem dL_law_380 : decode cL_law 380 = .ok (.iconst 1, 1) := by decide +kernel
theorem dL_law_381 : decode cL_law 381 = .ok (.iadd, 1) := by decide +kernel
theorem dL_law_382 : decode cL_law 382 = .ok (.iaload, 1) := by decide +kernel
theorem dL_law_383 : decode cL_law 383 = .ok (.aload_n 0, 1) := by decide +kernel
theorem dL_law_384 : decode cL_law 384 = .ok (.iload_n 3, 1) := by decide +kernel
theorem dL_law_385 : decode cL_law 385 = .ok (.iconst 2, 1) := by decide +kernel
theorem dL_law_386 : decode cL_law 386 = .ok (.iadd, 1) := by decide +kernel
theorem dL_law_387 : decode cL_law 387 = .ok (.iaload, 1) := by decide +kernel
theorem dL_law_388 : decode cL_law 388 = .ok (.aload_n 0, 1) := by decide +kernel
theorem dL_law_389 : decode cL_law 389 = .ok (.iload_n 3, 1) := by decide +kernel
theorem dL_law_390 : decode cL_law 390 = .ok (.iconst 3, 1) := by decide +kernel
theorem dL_law_391 : decode cL_law 391 = .ok (.iadd, 1) := by decide +kernel
theorem dL_law_392 : decode cL_law 392 = .ok (.iaload, 1) := by decide +kernel
theorem dL_law_393 : decode cL_law 393 = .ok (.invokevirtual 35, 3) := by decide +kernel
theorem dL_law_396 : decode cL_law 396 = .ok (.aload_n 2, 1) := by decide +kernel
theorem dL_law_397 : decode cL_law 397 = .ok (.aload_n 0, 1) := by decide +kernel
theorem dL_law_398 : decode cL_law 398 = .ok (.iload_n 3, 1) := by decide +kernel
theorem dL_law_399 : decode cL_law 399 = .ok (.iconst 1, 1) := by decide +kernel
theorem dL_law_400 : decode cL_law 400 = .ok (.iadd, 1) := by decide +kernel
theorem dL_law_401 : decode cL_law 401 = .ok (.iaload, 1) := by decide +kernel
theorem dL_law_402 : decode cL_law 402 = .ok (.aload_n 0, 1) := by decide +kernel
theorem dL_law_403 : decode cL_law 403 = .ok (.iload_n 3, 1) := by decide +kernel
theorem dL_law_404 : decode cL_law 404 = .ok (.iconst 2, 1) := by decide +kernel
theorem dL_law_405 : decode cL_law 405 = .ok (.iadd, 1) := by decide +kernel
theorem dL_law_406 : decode cL_law 406 = .ok (.iaload, 1) := by decide +kernel
theorem dL_law_407 : decode cL_law 407 = .ok (.aload_n 0, 1) := by decide +kernel
theorem dL_law_408 : decode cL_law 408 = .ok (.iload_n 3, 1) := by decide +kernel
theorem dL_law_409 : decode cL_law 409 = .ok (.iconst 3, 1) := by decide +kernel
theorem dL_law_410 : decode cL_law 410 = .ok (.iadd, 1) := by decide +kernel
theorem dL_law_411 : decode cL_law 411 = .ok (.iaload, 1) := by decide +kernel
theorem dL_law_412 : decode cL_law 412 = .ok (.invokevirtual 39, 3) := by decide +kernel
theorem dL_law_415 : decode cL_law 415 = .ok (.if_icmp .eq 1197, 3) := by decide +kernel
theorem dL_law_418 : decode cL_law 418 = .ok (.iconst 0, 1) := by decide +kernel
theorem dL_law_419 : decode cL_law 419 = .ok (.ireturn, 1) := by decide +kernel
theorem dL_law_420 : decode cL_law 420 = .ok (.aload_n 1, 1) := by decide +kernel
theorem dL_law_421 : decode cL_law 421 = .ok (.aload_n 0, 1) := by decide +kernel
theorem dL_law_422 : decode cL_law 422 = .ok (.iload_n 3, 1) := by decide +kernel
theorem dL_law_423 : decode cL_law 423 = .ok (.iconst 1, 1) := by decide +kernel
theorem dL_law_424 : decode cL_law 424 = .ok (.iadd, 1) := by decide +kernel
theorem dL_law_425 : decode cL_law 425 = .ok (.iaload, 1) := by decide +kernel
theorem dL_law_426 : decode cL_law 426 = .ok (.aload_n 0, 1) := by decide +kernel
theorem dL_law_427 : decode cL_law 427 = .ok (.iload_n 3, 1) := by decide +kernel
theorem dL_law_428 : decode cL_law 428 = .ok (.iconst 2, 1) := by decide +kernel
theorem dL_law_429 : decode cL_law 429 = .ok (.iadd, 1) := by decide +kernel
theorem dL_law_430 : decode cL_law 430 = .ok (.iaload, 1) := by decide +kernel
theorem dL_law_431 : decode cL_law 431 = .ok (.aload_n 0, 1) := by decide +kernel
theorem dL_law_432 : decode cL_law 432 = .ok (.iload_n 3, 1) := by decide +kernel
theorem dL_law_433 : decode cL_law 433 = .ok (.iconst 3, 1) := by decide +kernel
theorem dL_law_434 : decode cL_law 434 = .ok (.iadd, 1) := by decide +kernel
theorem dL_law_435 : decode cL_law 435 = .ok (.iaload, 1) := by decide +kernel
theorem dL_law_436 : decode cL_law 436 = .ok (.aload_n 0, 1) := by decide +kernel
theorem dL_law_437 : decode cL_law 437 = .ok (.iload_n 3, 1) := by decide +kernel
theorem dL_law_438 : decode cL_law 438 = .ok (.iconst 4, 1) := by decide +kernel
theorem dL_law_439 : decode cL_law 439 = .ok (.iadd, 1) := by decide +kernel
theorem dL_law_440 : decode cL_law 440 = .ok (.iaload, 1) := by decide +kernel
theorem dL_law_441 : decode cL_law 441 = .ok (.aload_n 0, 1) := by decide +kernel
theorem dL_law_442 : decode cL_law 442 = .ok (.iload_n 3, 1) := by decide +kernel
theorem dL_law_443 : decode cL_law 443 = .ok (.iconst 5, 1) := by decide +kernel
theorem dL_law_444 : decode cL_law 444 = .ok (.iadd, 1) := by decide +kernel
theorem dL_law_445 : decode cL_law 445 = .ok (.iaload, 1) := by decide +kernel
theorem dL_law_446 : decode cL_law 446 = .ok (.invokevirtual 40, 3) := by decide +kernel
theorem dL_law_449 : decode cL_law 449 = .ok (.aload_n 2, 1) := by decide +kernel
theorem dL_law_450 : decode cL_law 450 = .ok (.aload_n 0, 1) := by decide +kernel
theorem dL_law_451 : decode cL_law 451 = .ok (.iload_n 3, 1) := by decide +kernel
theorem dL_law_452 : decode cL_law 452 = .ok (.iconst 1, 1) := by decide +kernel
theorem dL_law_453 : decode cL_law 453 = .ok (.iadd, 1) := by decide +kernel
theorem dL_law_454 : decode cL_law 454 = .ok (.iaload, 1) := by decide +kernel
theorem dL_law_455 : decode cL_law 455 = .ok (.aload_n 0, 1) := by decide +kernel
theorem dL_law_456 : decode cL_law 456 = .ok (.iload_n 3, 1) := by decide +kernel
theorem dL_law_457 : decode cL_law 457 = .ok (.iconst 2, 1) := by decide +kernel
theorem dL_law_458 : decode cL_law 458 = .ok (.iadd, 1) := by decide +kernel
theorem dL_law_459 : decode cL_law 459 = .ok (.iaload, 1) := by decide +kernel
theorem dL_law_460 : decode cL_law 460 = .ok (.aload_n 0, 1) := by decide +kernel
theorem dL_law_461 : decode cL_law 461 = .ok (.iload_n 3, 1) := by decide +kernel
theorem dL_law_462 : decode cL_law 462 = .ok (.iconst 3, 1) := by decide +kernel
theorem dL_law_463 : decode cL_law 463 = .ok (.iadd, 1) := by decide +kernel
theorem dL_law_464 : decode cL_law 464 = .ok (.iaload, 1) := by decide +kernel
theorem dL_law_465 : decode cL_law 465 = .ok (.aload_n 0, 1) := by decide +kernel
theorem dL_law_466 : decode cL_law 466 = .ok (.iload_n 3, 1) := by decide +kernel
theorem dL_law_467 : decode cL_law 467 = .ok (.iconst 4, 1) := by decide +kernel
theorem dL_law_468 : decode cL_law 468 = .ok (.iadd, 1) := by decide +kernel
theorem dL_law_469 : decode cL_law 469 = .ok (.iaload, 1) := by decide +kernel
theorem dL_law_470 : decode cL_law 470 = .ok (.aload_n 0, 1) := by decide +kernel
theorem dL_law_471 : decode cL_law 471 = .ok (.iload_n 3, 1) := by decide +kernel
theorem dL_law_472 : decode cL_law 472 = .ok (.iconst 5, 1) := by decide +kernel
theorem dL_law_473 : decode cL_law 473 = .ok (.iadd, 1) := by decide +kernel
theorem dL_law_474 : decode cL_law 474 = .ok (.iaload, 1) := by decide +kernel
theorem dL_law_475 : decode cL_law 475 = .ok (.invokevirtual 44, 3) := by decide +kernel
theorem dL_law_478 : decode cL_law 478 = .ok (.if_icmp .eq 1134, 3) := by decide +kernel
theorem dL_law_481 : decode cL_law 481 = .ok (.iconst 0, 1) := by decide +kernel
theorem dL_law_482 : decode cL_law 482 = .ok (.ireturn, 1) := by decide +kernel
theorem dL_law_483 : decode cL_law 483 = .ok (.aload_n 1, 1) := by decide +kernel
theorem dL_law_484 : decode cL_law 484 = .ok (.aload_n 0, 1) := by decide +kernel
theorem dL_law_485 : decode cL_law 485 = .ok (.iload_n 3, 1) := by decide +kernel
theorem dL_law_486 : decode cL_law 486 = .ok (.iconst 1, 1) := by decide +kernel
theorem dL_law_487 : decode cL_law 487 = .ok (.iadd, 1) := by decide +kernel
theorem dL_law_488 : decode cL_law 488 = .ok (.iaload, 1) := by decide +kernel
theorem dL_law_489 : decode cL_law 489 = .ok (.invokevirtual 45, 3) := by decide +kernel
theorem dL_law_492 : decode cL_law 492 = .ok (.aload_n 2, 1) := by decide +kernel
theorem dL_law_493 : decode cL_law 493 = .ok (.aload_n 0, 1) := by decide +kernel
theorem dL_law_494 : decode cL_law 494 = .ok (.iload_n 3, 1) := by decide +kernel
theorem dL_law_495 : decode cL_law 495 = .ok (.iconst 1, 1) := by decide +kernel
theorem dL_law_496 : decode cL_law 496 = .ok (.iadd, 1) := by decide +kernel
theorem dL_law_497 : decode cL_law 497 = .ok (.iaload, 1) := by decide +kernel
theorem dL_law_498 : decode cL_law 498 = .ok (.invokevirtual 49, 3) := by decide +kernel
theorem dL_law_501 : decode cL_law 501 = .ok (.if_icmp .eq 1111, 3) := by decide +kernel
theorem dL_law_504 : decode cL_law 504 = .ok (.iconst 0, 1) := by decide +kernel
theorem dL_law_505 : decode cL_law 505 = .ok (.ireturn, 1) := by decide +kernel
theorem dL_law_506 : decode cL_law 506 = .ok (.aload_n 1, 1) := by decide +kernel
theorem dL_law_507 : decode cL_law 507 = .ok (.aload_n 0, 1) := by decide +kernel
theorem dL_law_508 : decode cL_law 508 = .ok (.iload_n 3, 1) := by decide +kernel
theorem dL_law_509 : decode cL_law 509 = .ok (.iconst 1, 1) := by decide +kernel
theorem dL_law_510 : decode cL_law 510 = .ok (.iadd, 1) := by decide +kernel
theorem dL_law_511 : decode cL_law 511 = .ok (.iaload, 1) := by decide +kernel
theorem dL_law_512 : decode cL_law 512 = .ok (.ifCond .eq 7, 3) := by decide +kernel
theorem dL_law_515 : decode cL_law 515 = .ok (.iconst 1, 1) := by decide +kernel
theorem dL_law_516 : decode cL_law 516 = .ok (.goto 4, 3) := by decide +kernel
theorem dL_law_519 : decode cL_law 519 = .ok (.iconst 0, 1) := by decide +kernel
theorem dL_law_520 : decode cL_law 520 = .ok (.invokevirtual 50, 3) := by decide +kernel
theorem dL_law_523 : decode cL_law 523 = .ok (.aload_n 2, 1) := by decide +kernel
theorem dL_law_524 : decode cL_law 524 = .ok (.aload_n 0, 1) := by decide +kernel
theorem dL_law_525 : decode cL_law 525 = .ok (.iload_n 3, 1) := by decide +kernel
theorem dL_law_526 : decode cL_law 526 = .ok (.iconst 1, 1) := by decide +kernel
theorem dL_law_527 : decode cL_law 527 = .ok (.iadd, 1) := by decide +kernel
theorem dL_law_528 : decode cL_law 528 = .ok (.iaload, 1) := by decide +kernel
theorem dL_law_529 : decode cL_law 529 = .ok (.ifCond .eq 7, 3) := by decide +kernel
theorem dL_law_532 : decode cL_law 532 = .ok (.iconst 1, 1) := by decide +kernel
theorem dL_law_533 : decode cL_law 533 = .ok (.goto 4, 3) := by decide +kernel
theorem dL_law_536 : decode cL_law 536 = .ok (.iconst 0, 1) := by decide +kernel
theorem dL_law_537 : decode cL_law 537 = .ok (.invokevirtual 54, 3) := by decide +kernel
theorem dL_law_540 : decode cL_law 540 = .ok (.if_icmp .eq 1072, 3) := by decide +kernel
theorem dL_law_543 : decode cL_law 543 = .ok (.iconst 0, 1) := by decide +kernel
theorem dL_law_544 : decode cL_law 544 = .ok (.ireturn, 1) := by decide +kernel
theorem dL_law_545 : decode cL_law 545 = .ok (.aload_n 1, 1) := by decide +kernel
theorem dL_law_546 : decode cL_law 546 = .ok (.aload_n 0, 1) := by decide +kernel
theorem dL_law_547 : decode cL_law 547 = .ok (.iload_n 3, 1) := by decide +kernel
theorem dL_law_548 : decode cL_law 548 = .ok (.iconst 1, 1) := by decide +kernel
theorem dL_law_549 : decode cL_law 549 = .ok (.iadd, 1) := by decide +kernel
theorem dL_law_550 : decode cL_law 550 = .ok (.iaload, 1) := by decide +kernel
theorem dL_law_551 : decode cL_law 551 = .ok (.aload_n 0, 1) := by decide +kernel
theorem dL_law_552 : decode cL_law 552 = .ok (.iload_n 3, 1) := by decide +kernel
theorem dL_law_553 : decode cL_law 553 = .ok (.iconst 2, 1) := by decide +kernel
theorem dL_law_554 : decode cL_law 554 = .ok (.iadd, 1) := by decide +kernel
theorem dL_law_555 : decode cL_law 555 = .ok (.iaload, 1) := by decide +kernel
theorem dL_law_556 : decode cL_law 556 = .ok (.aload_n 0, 1) := by decide +kernel
theorem dL_law_557 : decode cL_law 557 = .ok (.iload_n 3, 1) := by decide +kernel
theorem dL_law_558 : decode cL_law 558 = .ok (.iconst 3, 1) := by decide +kernel
theorem dL_law_559 : decode cL_law 559 = .ok (.iadd, 1) := by decide +kernel
theorem dL_law_560 : decode cL_law 560 = .ok (.iaload, 1) := by decide +kernel
theorem dL_law_561 : decode cL_law 561 = .ok (.aload_n 0, 1) := by decide +kernel
theorem dL_law_562 : decode cL_law 562 = .ok (.iload_n 3, 1) := by decide +kernel
theorem dL_law_563 : decode cL_law 563 = .ok (.iconst 4, 1) := by decide +kernel
theorem dL_law_564 : decode cL_law 564 = .ok (.iadd, 1) := by decide +kernel
theorem dL_law_565 : decode cL_law 565 = .ok (.iaload, 1) := by decide +kernel
theorem dL_law_566 : decode cL_law 566 = .ok (.invokevirtual 55, 3) := by decide +kernel
theorem dL_law_569 : decode cL_law 569 = .ok (.aload_n 2, 1) := by decide +kernel
theorem dL_law_570 : decode cL_law 570 = .ok (.aload_n 0, 1) := by decide +kernel
theorem dL_law_571 : decode cL_law 571 = .ok (.iload_n 3, 1) := by decide +kernel
theorem dL_law_572 : decode cL_law 572 = .ok (.iconst 1, 1) := by decide +kernel
theorem dL_law_573 : decode cL_law 573 = .ok (.iadd, 1) := by decide +kernel
theorem dL_law_574 : decode cL_law 574 = .ok (.iaload, 1) := by decide +kernel
theorem dL_law_575 : decode cL_law 575 = .ok (.aload_n 0, 1) := by decide +kernel
theorem dL_law_576 : decode cL_law 576 = .ok (.iload_n 3, 1) := by decide +kernel
theorem dL_law_577 : decode cL_law 577 = .ok (.iconst 2, 1) := by decide +kernel
theorem dL_law_578 : decode cL_law 578 = .ok (.iadd, 1) := by decide +kernel
theorem dL_law_579 : decode cL_law 579 = .ok (.iaload, 1) := by decide +kernel
theorem dL_law_580 : decode cL_law 580 = .ok (.aload_n 0, 1) := by decide +kernel
theorem dL_law_581 : decode cL_law 581 = .ok (.iload_n 3, 1) := by decide +kernel
theorem dL_law_582 : decode cL_law 582 = .ok (.iconst 3, 1) := by decide +kernel
theorem dL_law_583 : decode cL_law 583 = .ok (.iadd, 1) := by decide +kernel
theorem dL_law_584 : decode cL_law 584 = .ok (.iaload, 1) := by decide +kernel
theorem dL_law_585 : decode cL_law 585 = .ok (.aload_n 0, 1) := by decide +kernel
theorem dL_law_586 : decode cL_law 586 = .ok (.iload_n 3, 1) := by decide +kernel
theorem dL_law_587 : decode cL_law 587 = .ok (.iconst 4, 1) := by decide +kernel
theorem dL_law_588 : decode cL_law 588 = .ok (.iadd, 1) := by decide +kernel
theorem dL_law_589 : decode cL_law 589 = .ok (.iaload, 1) := by decide +kernel
theorem dL_law_590 : decode cL_law 590 = .ok (.invokevirtual 58, 3) := by decide +kernel
theorem dL_law_593 : decode cL_law 593 = .ok (.if_icmp .eq 1019, 3) := by decide +kernel
theorem dL_law_596 : decode cL_law 596 = .ok (.iconst 0, 1) := by decide +kernel
theorem dL_law_597 : decode cL_law 597 = .ok (.ireturn, 1) := by decide +kernel
theorem dL_law_598 : decode cL_law 598 = .ok (.aload_n 1, 1) := by decide +kernel
theorem dL_law_599 : decode cL_law 599 = .ok (.aload_n 0, 1) := by decide +kernel
theorem dL_law_600 : decode cL_law 600 = .ok (.iload_n 3, 1) := by decide +kernel
theorem dL_law_601 : decode cL_law 601 = .ok (.iconst 1, 1) := by decide +kernel
theorem dL_law_602 : decode cL_law 602 = .ok (.iadd, 1) := by decide +kernel
theorem dL_law_603 : decode cL_law 603 = .ok (.iaload, 1) := by decide +kernel
theorem dL_law_604 : decode cL_law 604 = .ok (.aload_n 0, 1) := by decide +kernel
theorem dL_law_605 : decode cL_law 605 = .ok (.iload_n 3, 1) := by decide +kernel
theorem dL_law_606 : decode cL_law 606 = .ok (.iconst 2, 1) := by decide +kernel
theorem dL_law_607 : decode cL_law 607 = .ok (.iadd, 1) := by decide +kernel
theorem dL_law_608 : decode cL_law 608 = .ok (.iaload, 1) := by decide +kernel
theorem dL_law_609 : decode cL_law 609 = .ok (.invokevirtual 59, 3) := by decide +kernel
theorem dL_law_612 : decode cL_law 612 = .ok (.aload_n 2, 1) := by decide +kernel
theorem dL_law_613 : decode cL_law 613 = .ok (.aload_n 0, 1) := by decide +kernel
theorem dL_law_614 : decode cL_law 614 = .ok (.iload_n 3, 1) := by decide +kernel
theorem dL_law_615 : decode cL_law 615 = .ok (.iconst 1, 1) := by decide +kernel
theorem dL_law_616 : decode cL_law 616 = .ok (.iadd, 1) := by decide +kernel
theorem dL_law_617 : decode cL_law 617 = .ok (.iaload, 1) := by decide +kernel
theorem dL_law_618 : decode cL_law 618 = .ok (.aload_n 0, 1) := by decide +kernel
theorem dL_law_619 : decode cL_law 619 = .ok (.iload_n 3, 1) := by decide +kernel
theorem dL_law_620 : decode cL_law 620 = .ok (.iconst 2, 1) := by decide +kernel
theorem dL_law_621 : decode cL_law 621 = .ok (.iadd, 1) := by decide +kernel
theorem dL_law_622 : decode cL_law 622 = .ok (.iaload, 1) := by decide +kernel
theorem dL_law_623 : decode cL_law 623 = .ok (.invokevirtual 62, 3) := by decide +kernel
theorem dL_law_626 : decode cL_law 626 = .ok (.if_icmp .eq 986, 3) := by decide +kernel
theorem dL_law_629 : decode cL_law 629 = .ok (.iconst 0, 1) := by decide +kernel
theorem dL_law_630 : decode cL_law 630 = .ok (.ireturn, 1) := by decide +kernel
theorem dL_law_631 : decode cL_law 631 = .ok (.aload_n 1, 1) := by decide +kernel
theorem dL_law_632 : decode cL_law 632 = .ok (.aload_n 0, 1) := by decide +kernel
theorem dL_law_633 : decode cL_law 633 = .ok (.iload_n 3, 1) := by decide +kernel
theorem dL_law_634 : decode cL_law 634 = .ok (.iconst 1, 1) := by decide +kernel
theorem dL_law_635 : decode cL_law 635 = .ok (.iadd, 1) := by decide +kernel
theorem dL_law_636 : decode cL_law 636 = .ok (.iaload, 1) := by decide +kernel
theorem dL_law_637 : decode cL_law 637 = .ok (.aload_n 0, 1) := by decide +kernel
theorem dL_law_638 : decode cL_law 638 = .ok (.iload_n 3, 1) := by decide +kernel
theorem dL_law_639 : decode cL_law 639 = .ok (.iconst 2, 1) := by decide +kernel
theorem dL_law_640 : decode cL_law 640 = .ok (.iadd, 1) := by decide +kernel
theorem dL_law_641 : decode cL_law 641 = .ok (.iaload, 1) := by decide +kernel
theorem dL_law_642 : decode cL_law 642 = .ok (.aload_n 0, 1) := by decide +kernel
theorem dL_law_643 : decode cL_law 643 = .ok (.iload_n 3, 1) := by decide +kernel
theorem dL_law_644 : decode cL_law 644 = .ok (.iconst 3, 1) := by decide +kernel
theorem dL_law_645 : decode cL_law 645 = .ok (.iadd, 1) := by decide +kernel
theorem dL_law_646 : decode cL_law 646 = .ok (.iaload, 1) := by decide +kernel
theorem dL_law_647 : decode cL_law 647 = .ok (.invokevirtual 63, 3) := by decide +kernel
theorem dL_law_650 : decode cL_law 650 = .ok (.aload_n 2, 1) := by decide +kernel
theorem dL_law_651 : decode cL_law 651 = .ok (.aload_n 0, 1) := by decide +kernel
theorem dL_law_652 : decode cL_law 652 = .ok (.iload_n 3, 1) := by decide +kernel
theorem dL_law_653 : decode cL_law 653 = .ok (.iconst 1, 1) := by decide +kernel
theorem dL_law_654 : decode cL_law 654 = .ok (.iadd, 1) := by decide +kernel
theorem dL_law_655 : decode cL_law 655 = .ok (.iaload, 1) := by decide +kernel
theorem dL_law_656 : decode cL_law 656 = .ok (.aload_n 0, 1) := by decide +kernel
theorem dL_law_657 : decode cL_law 657 = .ok (.iload_n 3, 1) := by decide +kernel
theorem dL_law_658 : decode cL_law 658 = .ok (.iconst 2, 1) := by decide +kernel
theorem dL_law_659 : decode cL_law 659 = .ok (.iadd, 1) := by decide +kernel
theorem dL_law_660 : decode cL_law 660 = .ok (.iaload, 1) := by decide +kernel
theorem dL_law_661 : decode cL_law 661 = .ok (.aload_n 0, 1) := by decide +kernel
theorem dL_law_662 : decode cL_law 662 = .ok (.iload_n 3, 1) := by decide +kernel
theorem dL_law_663 : decode cL_law 663 = .ok (.iconst 3, 1) := by decide +kernel
theorem dL_law_664 : decode cL_law 664 = .ok (.iadd, 1) := by decide +kernel
theorem dL_law_665 : decode cL_law 665 = .ok (.iaload, 1) := by decide +kernel
theorem dL_law_666 : decode cL_law 666 = .ok (.invokevirtual 66, 3) := by decide +kernel
theorem dL_law_669 : decode cL_law 669 = .ok (.if_icmp .eq 943, 3) := by decide +kernel
theorem dL_law_672 : decode cL_law 672 = .ok (.iconst 0, 1) := by decide +kernel
theorem dL_law_673 : decode cL_law 673 = .ok (.ireturn, 1) := by decide +kernel
theorem dL_law_674 : decode cL_law 674 = .ok (.aload_n 1, 1) := by decide +kernel
theorem dL_law_675 : decode cL_law 675 = .ok (.aload_n 0, 1) := by decide +kernel
theorem dL_law_676 : decode cL_law 676 = .ok (.iload_n 3, 1) := by decide +kernel
theorem dL_law_677 : decode cL_law 677 = .ok (.iconst 1, 1) := by decide +kernel
theorem dL_law_678 : decode cL_law 678 = .ok (.iadd, 1) := by decide +kernel
theorem dL_law_679 : decode cL_law 679 = .ok (.iaload, 1) := by decide +kernel
theorem dL_law_680 : decode cL_law 680 = .ok (.invokevirtual 67, 3) := by decide +kernel
theorem dL_law_683 : decode cL_law 683 = .ok (.aload_n 2, 1) := by decide +kernel
theorem dL_law_684 : decode cL_law 684 = .ok (.aload_n 0, 1) := by decide +kernel
theorem dL_law_685 : decode cL_law 685 = .ok (.iload_n 3, 1) := by decide +kernel
theorem dL_law_686 : decode cL_law 686 = .ok (.iconst 1, 1) := by decide +kernel
theorem dL_law_687 : decode cL_law 687 = .ok (.iadd, 1) := by decide +kernel
theorem dL_law_688 : decode cL_law 688 = .ok (.iaload, 1) := by decide +kernel
theorem dL_law_689 : decode cL_law 689 = .ok (.invokevirtual 70, 3) := by decide +kernel
theorem dL_law_692 : decode cL_law 692 = .ok (.if_icmp .eq 920, 3) := by decide +kernel
theorem dL_law_695 : decode cL_law 695 = .ok (.iconst 0, 1) := by decide +kernel
theorem dL_law_696 : decode cL_law 696 = .ok (.ireturn, 1) := by decide +kernel
theorem dL_law_697 : decode cL_law 697 = .ok (.aload_n 1, 1) := by decide +kernel
theorem dL_law_698 : decode cL_law 698 = .ok (.aload_n 0, 1) := by decide +kernel
theorem dL_law_699 : decode cL_law 699 = .ok (.iload_n 3, 1) := by decide +kernel
theorem dL_law_700 : decode cL_law 700 = .ok (.iconst 1, 1) := by decide +kernel
theorem dL_law_701 : decode cL_law 701 = .ok (.iadd, 1) := by decide +kernel
theorem dL_law_702 : decode cL_law 702 = .ok (.iaload, 1) := by decide +kernel
theorem dL_law_703 : decode cL_law 703 = .ok (.aload_n 0, 1) := by decide +kernel
theorem dL_law_704 : decode cL_law 704 = .ok (.iload_n 3, 1) := by decide +kernel
theorem dL_law_705 : decode cL_law 705 = .ok (.iconst 2, 1) := by decide +kernel
theorem dL_law_706 : decode cL_law 706 = .ok (.iadd, 1) := by decide +kernel
theorem dL_law_707 : decode cL_law 707 = .ok (.iaload, 1) := by decide +kernel
theorem dL_law_708 : decode cL_law 708 = .ok (.invokevirtual 71, 3) := by decide +kernel
theorem dL_law_711 : decode cL_law 711 = .ok (.aload_n 2, 1) := by decide +kernel
theorem dL_law_712 : decode cL_law 712 = .ok (.aload_n 0, 1) := by decide +kernel
theorem dL_law_713 : decode cL_law 713 = .ok (.iload_n 3, 1) := by decide +kernel
theorem dL_law_714 : decode cL_law 714 = .ok (.iconst 1, 1) := by decide +kernel
theorem dL_law_715 : decode cL_law 715 = .ok (.iadd, 1) := by decide +kernel
theorem dL_law_716 : decode cL_law 716 = .ok (.iaload, 1) := by decide +kernel
theorem dL_law_717 : decode cL_law 717 = .ok (.aload_n 0, 1) := by decide +kernel
theorem dL_law_718 : decode cL_law 718 = .ok (.iload_n 3, 1) := by decide +kernel
theorem dL_law_719 : decode cL_law 719 = .ok (.iconst 2, 1) := by decide +kernel
theorem dL_law_720 : decode cL_law 720 = .ok (.iadd, 1) := by decide +kernel
theorem dL_law_721 : decode cL_law 721 = .ok (.iaload, 1) := by decide +kernel
theorem dL_law_722 : decode cL_law 722 = .ok (.invokevirtual 74, 3) := by decide +kernel
theorem dL_law_725 : decode cL_law 725 = .ok (.if_icmp .eq 887, 3) := by decide +kernel
theorem dL_law_728 : decode cL_law 728 = .ok (.iconst 0, 1) := by decide +kernel
theorem dL_law_729 : decode cL_law 729 = .ok (.ireturn, 1) := by decide +kernel
theorem dL_law_730 : decode cL_law 730 = .ok (.aload_n 1, 1) := by decide +kernel
theorem dL_law_731 : decode cL_law 731 = .ok (.aload_n 0, 1) := by decide +kernel
theorem dL_law_732 : decode cL_law 732 = .ok (.iload_n 3, 1) := by decide +kernel
theorem dL_law_733 : decode cL_law 733 = .ok (.iconst 1, 1) := by decide +kernel
theorem dL_law_734 : decode cL_law 734 = .ok (.iadd, 1) := by decide +kernel
theorem dL_law_735 : decode cL_law 735 = .ok (.iaload, 1) := by decide +kernel
theorem dL_law_736 : decode cL_law 736 = .ok (.aload_n 0, 1) := by decide +kernel
theorem dL_law_737 : decode cL_law 737 = .ok (.iload_n 3, 1) := by decide +kernel
theorem dL_law_738 : decode cL_law 738 = .ok (.iconst 2, 1) := by decide +kernel
theorem dL_law_739 : decode cL_law 739 = .ok (.iadd, 1) := by decide +kernel
theorem dL_law_740 : decode cL_law 740 = .ok (.iaload, 1) := by decide +kernel
theorem dL_law_741 : decode cL_law 741 = .ok (.invokevirtual 75, 3) := by decide +kernel
theorem dL_law_744 : decode cL_law 744 = .ok (.aload_n 2, 1) := by decide +kernel
theorem dL_law_745 : decode cL_law 745 = .ok (.aload_n 0, 1) := by decide +kernel
theorem dL_law_746 : decode cL_law 746 = .ok (.iload_n 3, 1) := by decide +kernel
theorem dL_law_747 : decode cL_law 747 = .ok (.iconst 1, 1) := by decide +kernel
theorem dL_law_748 : decode cL_law 748 = .ok (.iadd, 1) := by decide +kernel
theorem dL_law_749 : decode cL_law 749 = .ok (.iaload, 1) := by decide +kernel
theorem dL_law_750 : decode cL_law 750 = .ok (.aload_n 0, 1) := by decide +kernel
theorem dL_law_751 : decode cL_law 751 = .ok (.iload_n 3, 1) := by decide +kernel
theorem dL_law_752 : decode cL_law 752 = .ok (.iconst 2, 1) := by decide +kernel
theorem dL_law_753 : decode cL_law 753 = .ok (.iadd, 1) := by decide +kernel
theorem dL_law_754 : decode cL_law 754 = .ok (.iaload, 1) := by decide +kernel
theorem dL_law_755 : decode cL_law 755 = .ok (.invokevirtual 78, 3) := by decide +kernel
theorem dL_law_758 : decode cL_law 758 = .ok (.if_icmp .eq 854, 3) := by decide +kernel
theorem dL_law_761 : decode cL_law 761 = .ok (.iconst 0, 1) := by decide +kernel
theorem dL_law_762 : decode cL_law 762 = .ok (.ireturn, 1) := by decide +kernel
theorem dL_law_763 : decode cL_law 763 = .ok (.aload_n 1, 1) := by decide +kernel
theorem dL_law_764 : decode cL_law 764 = .ok (.aload_n 0, 1) := by decide +kernel
theorem dL_law_765 : decode cL_law 765 = .ok (.iload_n 3, 1) := by decide +kernel
theorem dL_law_766 : decode cL_law 766 = .ok (.iconst 1, 1) := by decide +kernel
theorem dL_law_767 : decode cL_law 767 = .ok (.iadd, 1) := by decide +kernel
theorem dL_law_768 : decode cL_law 768 = .ok (.iaload, 1) := by decide +kernel
theorem dL_law_769 : decode cL_law 769 = .ok (.aload_n 0, 1) := by decide +kernel
theorem dL_law_770 : decode cL_law 770 = .ok (.iload_n 3, 1) := by decide +kernel
theorem dL_law_771 : decode cL_law 771 = .ok (.iconst 2, 1) := by decide +kernel
theorem dL_law_772 : decode cL_law 772 = .ok (.iadd, 1) := by decide +kernel
theorem dL_law_773 : decode cL_law 773 = .ok (.iaload, 1) := by decide +kernel
theorem dL_law_774 : decode cL_law 774 = .ok (.aload_n 0, 1) := by decide +kernel
theorem dL_law_775 : decode cL_law 775 = .ok (.iload_n 3, 1) := by decide +kernel
theorem dL_law_776 : decode cL_law 776 = .ok (.iconst 3, 1) := by decide +kernel
theorem dL_law_777 : decode cL_law 777 = .ok (.iadd, 1) := by decide +kernel
theorem dL_law_778 : decode cL_law 778 = .ok (.iaload, 1) := by decide +kernel
theorem dL_law_779 : decode cL_law 779 = .ok (.invokevirtual 79, 3) := by decide +kernel
theorem dL_law_782 : decode cL_law 782 = .ok (.aload_n 2, 1) := by decide +kernel
theorem dL_law_783 : decode cL_law 783 = .ok (.aload_n 0, 1) := by decide +kernel
theorem dL_law_784 : decode cL_law 784 = .ok (.iload_n 3, 1) := by decide +kernel
theorem dL_law_785 : decode cL_law 785 = .ok (.iconst 1, 1) := by decide +kernel
theorem dL_law_786 : decode cL_law 786 = .ok (.iadd, 1) := by decide +kernel
theorem dL_law_787 : decode cL_law 787 = .ok (.iaload, 1) := by decide +kernel
theorem dL_law_788 : decode cL_law 788 = .ok (.aload_n 0, 1) := by decide +kernel
theorem dL_law_789 : decode cL_law 789 = .ok (.iload_n 3, 1) := by decide +kernel
theorem dL_law_790 : decode cL_law 790 = .ok (.iconst 2, 1) := by decide +kernel
theorem dL_law_791 : decode cL_law 791 = .ok (.iadd, 1) := by decide +kernel
theorem dL_law_792 : decode cL_law 792 = .ok (.iaload, 1) := by decide +kernel
theorem dL_law_793 : decode cL_law 793 = .ok (.aload_n 0, 1) := by decide +kernel
theorem dL_law_794 : decode cL_law 794 = .ok (.iload_n 3, 1) := by decide +kernel
theorem dL_law_795 : decode cL_law 795 = .ok (.iconst 3, 1) := by decide +kernel
theorem dL_law_796 : decode cL_law 796 = .ok (.iadd, 1) := by decide +kernel
theorem dL_law_797 : decode cL_law 797 = .ok (.iaload, 1) := by decide +kernel
theorem dL_law_798 : decode cL_law 798 = .ok (.invokevirtual 82, 3) := by decide +kernel
theorem dL_law_801 : decode cL_law 801 = .ok (.if_icmp .eq 811, 3) := by decide +kernel
theorem dL_law_804 : decode cL_law 804 = .ok (.iconst 0, 1) := by decide +kernel
theorem dL_law_805 : decode cL_law 805 = .ok (.ireturn, 1) := by decide +kernel
theorem dL_law_806 : decode cL_law 806 = .ok (.aload_n 1, 1) := by decide +kernel
theorem dL_law_807 : decode cL_law 807 = .ok (.aload_n 0, 1) := by decide +kernel
theorem dL_law_808 : decode cL_law 808 = .ok (.iload_n 3, 1) := by decide +kernel
theorem dL_law_809 : decode cL_law 809 = .ok (.iconst 1, 1) := by decide +kernel
theorem dL_law_810 : decode cL_law 810 = .ok (.iadd, 1) := by decide +kernel
theorem dL_law_811 : decode cL_law 811 = .ok (.iaload, 1) := by decide +kernel
theorem dL_law_812 : decode cL_law 812 = .ok (.invokevirtual 83, 3) := by decide +kernel
theorem dL_law_815 : decode cL_law 815 = .ok (.aload_n 2, 1) := by decide +kernel
theorem dL_law_816 : decode cL_law 816 = .ok (.aload_n 0, 1) := by decide +kernel
theorem dL_law_817 : decode cL_law 817 = .ok (.iload_n 3, 1) := by decide +kernel
theorem dL_law_818 : decode cL_law 818 = .ok (.iconst 1, 1) := by decide +kernel
theorem dL_law_819 : decode cL_law 819 = .ok (.iadd, 1) := by decide +kernel
theorem dL_law_820 : decode cL_law 820 = .ok (.iaload, 1) := by decide +kernel
theorem dL_law_821 : decode cL_law 821 = .ok (.invokevirtual 86, 3) := by decide +kernel
theorem dL_law_824 : decode cL_law 824 = .ok (.if_icmp .eq 788, 3) := by decide +kernel
theorem dL_law_827 : decode cL_law 827 = .ok (.iconst 0, 1) := by decide +kernel
theorem dL_law_828 : decode cL_law 828 = .ok (.ireturn, 1) := by decide +kernel
theorem dL_law_829 : decode cL_law 829 = .ok (.aload_n 1, 1) := by decide +kernel
theorem dL_law_830 : decode cL_law 830 = .ok (.aload_n 0, 1) := by decide +kernel
theorem dL_law_831 : decode cL_law 831 = .ok (.iload_n 3, 1) := by decide +kernel
theorem dL_law_832 : decode cL_law 832 = .ok (.iconst 1, 1) := by decide +kernel
theorem dL_law_833 : decode cL_law 833 = .ok (.iadd, 1) := by decide +kernel
theorem dL_law_834 : decode cL_law 834 = .ok (.iaload, 1) := by decide +kernel
theorem dL_law_835 : decode cL_law 835 = .ok (.invokevirtual 87, 3) := by decide +kernel
theorem dL_law_838 : decode cL_law 838 = .ok (.aload_n 2, 1) := by decide +kernel
theorem dL_law_839 : decode cL_law 839 = .ok (.aload_n 0, 1) := by decide +kernel
theorem dL_law_840 : decode cL_law 840 = .ok (.iload_n 3, 1) := by decide +kernel
theorem dL_law_841 : decode cL_law 841 = .ok (.iconst 1, 1) := by decide +kernel
theorem dL_law_842 : decode cL_law 842 = .ok (.iadd, 1) := by decide +kernel
theorem dL_law_843 : decode cL_law 843 = .ok (.iaload, 1) := by decide +kernel
theorem dL_law_844 : decode cL_law 844 = .ok (.invokevirtual 90, 3) := by decide +kernel
theorem dL_law_847 : decode cL_law 847 = .ok (.if_icmp .eq 765, 3) := by decide +kernel
theorem dL_law_850 : decode cL_law 850 = .ok (.iconst 0, 1) := by decide +kernel
theorem dL_law_851 : decode cL_law 851 = .ok (.ireturn, 1) := by decide +kernel
theorem dL_law_852 : decode cL_law 852 = .ok (.aload_n 1, 1) := by decide +kernel
theorem dL_law_853 : decode cL_law 853 = .ok (.aload_n 0, 1) := by decide +kernel
theorem dL_law_854 : decode cL_law 854 = .ok (.iload_n 3, 1) := by decide +kernel
theorem dL_law_855 : decode cL_law 855 = .ok (.iconst 1, 1) := by decide +kernel
theorem dL_law_856 : decode cL_law 856 = .ok (.iadd, 1) := by decide +kernel
theorem dL_law_857 : decode cL_law 857 = .ok (.iaload, 1) := by decide +kernel
theorem dL_law_858 : decode cL_law 858 = .ok (.invokevirtual 91, 3) := by decide +kernel
theorem dL_law_861 : decode cL_law 861 = .ok (.aload_n 2, 1) := by decide +kernel
theorem dL_law_862 : decode cL_law 862 = .ok (.aload_n 0, 1) := by decide +kernel
theorem dL_law_863 : decode cL_law 863 = .ok (.iload_n 3, 1) := by decide +kernel
theorem dL_law_864 : decode cL_law 864 = .ok (.iconst 1, 1) := by decide +kernel
theorem dL_law_865 : decode cL_law 865 = .ok (.iadd, 1) := by decide +kernel
theorem dL_law_866 : decode cL_law 866 = .ok (.iaload, 1) := by decide +kernel
theorem dL_law_867 : decode cL_law 867 = .ok (.invokevirtual 94, 3) := by decide +kernel
theorem dL_law_870 : decode cL_law 870 = .ok (.if_icmp .eq 742, 3) := by decide +kernel
theorem dL_law_873 : decode cL_law 873 = .ok (.iconst 0, 1) := by decide +kernel
theorem dL_law_874 : decode cL_law 874 = .ok (.ireturn, 1) := by decide +kernel
theorem dL_law_875 : decode cL_law 875 = .ok (.aload_n 1, 1) := by decide +kernel
theorem dL_law_876 : decode cL_law 876 = .ok (.aload_n 0, 1) := by decide +kernel
theorem dL_law_877 : decode cL_law 877 = .ok (.iload_n 3, 1) := by decide +kernel
theorem dL_law_878 : decode cL_law 878 = .ok (.iconst 1, 1) := by decide +kernel
theorem dL_law_879 : decode cL_law 879 = .ok (.iadd, 1) := by decide +kernel
theorem dL_law_880 : decode cL_law 880 = .ok (.iaload, 1) := by decide +kernel
theorem dL_law_881 : decode cL_law 881 = .ok (.aload_n 0, 1) := by decide +kernel
theorem dL_law_882 : decode cL_law 882 = .ok (.iload_n 3, 1) := by decide +kernel
theorem dL_law_883 : decode cL_law 883 = .ok (.iconst 2, 1) := by decide +kernel
theorem dL_law_884 : decode cL_law 884 = .ok (.iadd, 1) := by decide +kernel
theorem dL_law_885 : decode cL_law 885 = .ok (.iaload, 1) := by decide +kernel
theorem dL_law_886 : decode cL_law 886 = .ok (.aload_n 0, 1) := by decide +kernel
theorem dL_law_887 : decode cL_law 887 = .ok (.iload_n 3, 1) := by decide +kernel
theorem dL_law_888 : decode cL_law 888 = .ok (.iconst 3, 1) := by decide +kernel
theorem dL_law_889 : decode cL_law 889 = .ok (.iadd, 1) := by decide +kernel
theorem dL_law_890 : decode cL_law 890 = .ok (.iaload, 1) := by decide +kernel
theorem dL_law_891 : decode cL_law 891 = .ok (.invokevirtual 95, 3) := by decide +kernel
theorem dL_law_894 : decode cL_law 894 = .ok (.aload_n 2, 1) := by decide +kernel
theorem dL_law_895 : decode cL_law 895 = .ok (.aload_n 0, 1) := by decide +kernel
theorem dL_law_896 : decode cL_law 896 = .ok (.iload_n 3, 1) := by decide +kernel
theorem dL_law_897 : decode cL_law 897 = .ok (.iconst 1, 1) := by decide +kernel
theorem dL_law_898 : decode cL_law 898 = .ok (.iadd, 1) := by decide +kernel
theorem dL_law_899 : decode cL_law 899 = .ok (.iaload, 1) := by decide +kernel
theorem dL_law_900 : decode cL_law 900 = .ok (.aload_n 0, 1) := by decide +kernel
theorem dL_law_901 : decode cL_law 901 = .ok (.iload_n 3, 1) := by decide +kernel
theorem dL_law_902 : decode cL_law 902 = .ok (.iconst 2, 1) := by decide +kernel
theorem dL_law_903 : decode cL_law 903 = .ok (.iadd, 1) := by decide +kernel
theorem dL_law_904 : decode cL_law 904 = .ok (.iaload, 1) := by decide +kernel
theorem dL_law_905 : decode cL_law 905 = .ok (.aload_n 0, 1) := by decide +kernel
theorem dL_law_906 : decode cL_law 906 = .ok (.iload_n 3, 1) := by decide +kernel
theorem dL_law_907 : decode cL_law 907 = .ok (.iconst 3, 1) := by decide +kernel
theorem dL_law_908 : decode cL_law 908 = .ok (.iadd, 1) := by decide +kernel
theorem dL_law_909 : decode cL_law 909 = .ok (.iaload, 1) := by decide +kernel
theorem dL_law_910 : decode cL_law 910 = .ok (.invokevirtual 98, 3) := by decide +kernel
theorem dL_law_913 : decode cL_law 913 = .ok (.if_icmp .eq 699, 3) := by decide +kernel
theorem dL_law_916 : decode cL_law 916 = .ok (.iconst 0, 1) := by decide +kernel
theorem dL_law_917 : decode cL_law 917 = .ok (.ireturn, 1) := by decide +kernel
theorem dL_law_918 : decode cL_law 918 = .ok (.aload_n 1, 1) := by decide +kernel
theorem dL_law_919 : decode cL_law 919 = .ok (.aload_n 0, 1) := by decide +kernel
theorem dL_law_920 : decode cL_law 920 = .ok (.iload_n 3, 1) := by decide +kernel
theorem dL_law_921 : decode cL_law 921 = .ok (.iconst 1, 1) := by decide +kernel
theorem dL_law_922 : decode cL_law 922 = .ok (.iadd, 1) := by decide +kernel
theorem dL_law_923 : decode cL_law 923 = .ok (.iaload, 1) := by decide +kernel
theorem dL_law_924 : decode cL_law 924 = .ok (.aload_n 0, 1) := by decide +kernel
theorem dL_law_925 : decode cL_law 925 = .ok (.iload_n 3, 1) := by decide +kernel
theorem dL_law_926 : decode cL_law 926 = .ok (.iconst 2, 1) := by decide +kernel
theorem dL_law_927 : decode cL_law 927 = .ok (.iadd, 1) := by decide +kernel
theorem dL_law_928 : decode cL_law 928 = .ok (.iaload, 1) := by decide +kernel
theorem dL_law_929 : decode cL_law 929 = .ok (.aload_n 0, 1) := by decide +kernel
theorem dL_law_930 : decode cL_law 930 = .ok (.iload_n 3, 1) := by decide +kernel
theorem dL_law_931 : decode cL_law 931 = .ok (.iconst 3, 1) := by decide +kernel
theorem dL_law_932 : decode cL_law 932 = .ok (.iadd, 1) := by decide +kernel
theorem dL_law_933 : decode cL_law 933 = .ok (.iaload, 1) := by decide +kernel
theorem dL_law_934 : decode cL_law 934 = .ok (.aload_n 0, 1) := by decide +kernel
theorem dL_law_935 : decode cL_law 935 = .ok (.iload_n 3, 1) := by decide +kernel
theorem dL_law_936 : decode cL_law 936 = .ok (.iconst 4, 1) := by decide +kernel
theorem dL_law_937 : decode cL_law 937 = .ok (.iadd, 1) := by decide +kernel
theorem dL_law_938 : decode cL_law 938 = .ok (.iaload, 1) := by decide +kernel
theorem dL_law_939 : decode cL_law 939 = .ok (.aload_n 0, 1) := by decide +kernel
theorem dL_law_940 : decode cL_law 940 = .ok (.iload_n 3, 1) := by decide +kernel
theorem dL_law_941 : decode cL_law 941 = .ok (.iconst 5, 1) := by decide +kernel
theorem dL_law_942 : decode cL_law 942 = .ok (.iadd, 1) := by decide +kernel
theorem dL_law_943 : decode cL_law 943 = .ok (.iaload, 1) := by decide +kernel
theorem dL_law_944 : decode cL_law 944 = .ok (.aload_n 0, 1) := by decide +kernel
theorem dL_law_945 : decode cL_law 945 = .ok (.iload_n 3, 1) := by decide +kernel
theorem dL_law_946 : decode cL_law 946 = .ok (.bipush 6, 2) := by decide +kernel
theorem dL_law_948 : decode cL_law 948 = .ok (.iadd, 1) := by decide +kernel
theorem dL_law_949 : decode cL_law 949 = .ok (.iaload, 1) := by decide +kernel
theorem dL_law_950 : decode cL_law 950 = .ok (.aload_n 0, 1) := by decide +kernel
theorem dL_law_951 : decode cL_law 951 = .ok (.iload_n 3, 1) := by decide +kernel
theorem dL_law_952 : decode cL_law 952 = .ok (.bipush 7, 2) := by decide +kernel
theorem dL_law_954 : decode cL_law 954 = .ok (.iadd, 1) := by decide +kernel
theorem dL_law_955 : decode cL_law 955 = .ok (.iaload, 1) := by decide +kernel
theorem dL_law_956 : decode cL_law 956 = .ok (.aload_n 0, 1) := by decide +kernel
theorem dL_law_957 : decode cL_law 957 = .ok (.iload_n 3, 1) := by decide +kernel
theorem dL_law_958 : decode cL_law 958 = .ok (.bipush 8, 2) := by decide +kernel
theorem dL_law_960 : decode cL_law 960 = .ok (.iadd, 1) := by decide +kernel
theorem dL_law_961 : decode cL_law 961 = .ok (.iaload, 1) := by decide +kernel
theorem dL_law_962 : decode cL_law 962 = .ok (.aload_n 0, 1) := by decide +kernel
theorem dL_law_963 : decode cL_law 963 = .ok (.iload_n 3, 1) := by decide +kernel
theorem dL_law_964 : decode cL_law 964 = .ok (.bipush 9, 2) := by decide +kernel
theorem dL_law_966 : decode cL_law 966 = .ok (.iadd, 1) := by decide +kernel
theorem dL_law_967 : decode cL_law 967 = .ok (.iaload, 1) := by decide +kernel
theorem dL_law_968 : decode cL_law 968 = .ok (.invokevirtual 99, 3) := by decide +kernel
theorem dL_law_971 : decode cL_law 971 = .ok (.aload_n 2, 1) := by decide +kernel
theorem dL_law_972 : decode cL_law 972 = .ok (.aload_n 0, 1) := by decide +kernel
theorem dL_law_973 : decode cL_law 973 = .ok (.iload_n 3, 1) := by decide +kernel
theorem dL_law_974 : decode cL_law 974 = .ok (.iconst 1, 1) := by decide +kernel
theorem dL_law_975 : decode cL_law 975 = .ok (.iadd, 1) := by decide +kernel
theorem dL_law_976 : decode cL_law 976 = .ok (.iaload, 1) := by decide +kernel
theorem dL_law_977 : decode cL_law 977 = .ok (.aload_n 0, 1) := by decide +kernel
theorem dL_law_978 : decode cL_law 978 = .ok (.iload_n 3, 1) := by decide +kernel
theorem dL_law_979 : decode cL_law 979 = .ok (.iconst 2, 1) := by decide +kernel
theorem dL_law_980 : decode cL_law 980 = .ok (.iadd, 1) := by decide +kernel
theorem dL_law_981 : decode cL_law 981 = .ok (.iaload, 1) := by decide +kernel
theorem dL_law_982 : decode cL_law 982 = .ok (.aload_n 0, 1) := by decide +kernel
theorem dL_law_983 : decode cL_law 983 = .ok (.iload_n 3, 1) := by decide +kernel
theorem dL_law_984 : decode cL_law 984 = .ok (.iconst 3, 1) := by decide +kernel
theorem dL_law_985 : decode cL_law 985 = .ok (.iadd, 1) := by decide +kernel
theorem dL_law_986 : decode cL_law 986 = .ok (.iaload, 1) := by decide +kernel
theorem dL_law_987 : decode cL_law 987 = .ok (.aload_n 0, 1) := by decide +kernel
theorem dL_law_988 : decode cL_law 988 = .ok (.iload_n 3, 1) := by decide +kernel
theorem dL_law_989 : decode cL_law 989 = .ok (.iconst 4, 1) := by decide +kernel
theorem dL_law_990 : decode cL_law 990 = .ok (.iadd, 1) := by decide +kernel
theorem dL_law_991 : decode cL_law 991 = .ok (.iaload, 1) := by decide +kernel
theorem dL_law_992 : decode cL_law 992 = .ok (.aload_n 0, 1) := by decide +kernel
theorem dL_law_993 : decode cL_law 993 = .ok (.iload_n 3, 1) := by decide +kernel
theorem dL_law_994 : decode cL_law 994 = .ok (.iconst 5, 1) := by decide +kernel
theorem dL_law_995 : decode cL_law 995 = .ok (.iadd, 1) := by decide +kernel
theorem dL_law_996 : decode cL_law 996 = .ok (.iaload, 1) := by decide +kernel
theorem dL_law_997 : decode cL_law 997 = .ok (.aload_n 0, 1) := by decide +kernel
theorem dL_law_998 : decode cL_law 998 = .ok (.iload_n 3, 1) := by decide +kernel
theorem dL_law_999 : decode cL_law 999 = .ok (.bipush 6, 2) := by decide +kernel
theorem dL_law_1001 : decode cL_law 1001 = .ok (.iadd, 1) := by decide +kernel
theorem dL_law_1002 : decode cL_law 1002 = .ok (.iaload, 1) := by decide +kernel
theorem dL_law_1003 : decode cL_law 1003 = .ok (.aload_n 0, 1) := by decide +kernel
theorem dL_law_1004 : decode cL_law 1004 = .ok (.iload_n 3, 1) := by decide +kernel
theorem dL_law_1005 : decode cL_law 1005 = .ok (.bipush 7, 2) := by decide +kernel
theorem dL_law_1007 : decode cL_law 1007 = .ok (.iadd, 1) := by decide +kernel
theorem dL_law_1008 : decode cL_law 1008 = .ok (.iaload, 1) := by decide +kernel
theorem dL_law_1009 : decode cL_law 1009 = .ok (.aload_n 0, 1) := by decide +kernel
theorem dL_law_1010 : decode cL_law 1010 = .ok (.iload_n 3, 1) := by decide +kernel
theorem dL_law_1011 : decode cL_law 1011 = .ok (.bipush 8, 2) := by decide +kernel
theorem dL_law_1013 : decode cL_law 1013 = .ok (.iadd, 1) := by decide +kernel
theorem dL_law_1014 : decode cL_law 1014 = .ok (.iaload, 1) := by decide +kernel
theorem dL_law_1015 : decode cL_law 1015 = .ok (.aload_n 0, 1) := by decide +kernel
theorem dL_law_1016 : decode cL_law 1016 = .ok (.iload_n 3, 1) := by decide +kernel
theorem dL_law_1017 : decode cL_law 1017 = .ok (.bipush 9, 2) := by decide +kernel
theorem dL_law_1019 : decode cL_law 1019 = .ok (.iadd, 1) := by decide +kernel
theorem dL_law_1020 : decode cL_law 1020 = .ok (.iaload, 1) := by decide +kernel
theorem dL_law_1021 : decode cL_law 1021 = .ok (.invokevirtual 103, 3) := by decide +kernel
theorem dL_law_1024 : decode cL_law 1024 = .ok (.lcmp, 1) := by decide +kernel
theorem dL_law_1025 : decode cL_law 1025 = .ok (.ifCond .eq 587, 3) := by decide +kernel
theorem dL_law_1028 : decode cL_law 1028 = .ok (.iconst 0, 1) := by decide +kernel
theorem dL_law_1029 : decode cL_law 1029 = .ok (.ireturn, 1) := by decide +kernel
theorem dL_law_1030 : decode cL_law 1030 = .ok (.aload_n 1, 1) := by decide +kernel
theorem dL_law_1031 : decode cL_law 1031 = .ok (.aload_n 0, 1) := by decide +kernel
theorem dL_law_1032 : decode cL_law 1032 = .ok (.iload_n 3, 1) := by decide +kernel
theorem dL_law_1033 : decode cL_law 1033 = .ok (.iconst 1, 1) := by decide +kernel
theorem dL_law_1034 : decode cL_law 1034 = .ok (.iadd, 1) := by decide +kernel
theorem dL_law_1035 : decode cL_law 1035 = .ok (.iaload, 1) := by decide +kernel
theorem dL_law_1036 : decode cL_law 1036 = .ok (.aload_n 0, 1) := by decide +kernel
theorem dL_law_1037 : decode cL_law 1037 = .ok (.iload_n 3, 1) := by decide +kernel
theorem dL_law_1038 : decode cL_law 1038 = .ok (.iconst 2, 1) := by decide +kernel
theorem dL_law_1039 : decode cL_law 1039 = .ok (.iadd, 1) := by decide +kernel
theorem dL_law_1040 : decode cL_law 1040 = .ok (.iaload, 1) := by decide +kernel
theorem dL_law_1041 : decode cL_law 1041 = .ok (.aload_n 0, 1) := by decide +kernel
theorem dL_law_1042 : decode cL_law 1042 = .ok (.iload_n 3, 1) := by decide +kernel
theorem dL_law_1043 : decode cL_law 1043 = .ok (.iconst 3, 1) := by decide +kernel
theorem dL_law_1044 : decode cL_law 1044 = .ok (.iadd, 1) := by decide +kernel
theorem dL_law_1045 : decode cL_law 1045 = .ok (.iaload, 1) := by decide +kernel
theorem dL_law_1046 : decode cL_law 1046 = .ok (.aload_n 0, 1) := by decide +kernel
theorem dL_law_1047 : decode cL_law 1047 = .ok (.iload_n 3, 1) := by decide +kernel
theorem dL_law_1048 : decode cL_law 1048 = .ok (.iconst 4, 1) := by decide +kernel
theorem dL_law_1049 : decode cL_law 1049 = .ok (.iadd, 1) := by decide +kernel
theorem dL_law_1050 : decode cL_law 1050 = .ok (.iaload, 1) := by decide +kernel
theorem dL_law_1051 : decode cL_law 1051 = .ok (.aload_n 0, 1) := by decide +kernel
theorem dL_law_1052 : decode cL_law 1052 = .ok (.iload_n 3, 1) := by decide +kernel
theorem dL_law_1053 : decode cL_law 1053 = .ok (.iconst 5, 1) := by decide +kernel
theorem dL_law_1054 : decode cL_law 1054 = .ok (.iadd, 1) := by decide +kernel
theorem dL_law_1055 : decode cL_law 1055 = .ok (.iaload, 1) := by decide +kernel
theorem dL_law_1056 : decode cL_law 1056 = .ok (.aload_n 0, 1) := by decide +kernel
theorem dL_law_1057 : decode cL_law 1057 = .ok (.iload_n 3, 1) := by decide +kernel
theorem dL_law_1058 : decode cL_law 1058 = .ok (.bipush 6, 2) := by decide +kernel
theorem dL_law_1060 : decode cL_law 1060 = .ok (.iadd, 1) := by decide +kernel
theorem dL_law_1061 : decode cL_law 1061 = .ok (.iaload, 1) := by decide +kernel
theorem dL_law_1062 : decode cL_law 1062 = .ok (.aload_n 0, 1) := by decide +kernel
theorem dL_law_1063 : decode cL_law 1063 = .ok (.iload_n 3, 1) := by decide +kernel
theorem dL_law_1064 : decode cL_law 1064 = .ok (.bipush 7, 2) := by decide +kernel
theorem dL_law_1066 : decode cL_law 1066 = .ok (.iadd, 1) := by decide +kernel
theorem dL_law_1067 : decode cL_law 1067 = .ok (.iaload, 1) := by decide +kernel
theorem dL_law_1068 : decode cL_law 1068 = .ok (.invokevirtual 104, 3) := by decide +kernel
theorem dL_law_1071 : decode cL_law 1071 = .ok (.aload_n 2, 1) := by decide +kernel
theorem dL_law_1072 : decode cL_law 1072 = .ok (.aload_n 0, 1) := by decide +kernel
theorem dL_law_1073 : decode cL_law 1073 = .ok (.iload_n 3, 1) := by decide +kernel
theorem dL_law_1074 : decode cL_law 1074 = .ok (.iconst 1, 1) := by decide +kernel
theorem dL_law_1075 : decode cL_law 1075 = .ok (.iadd, 1) := by decide +kernel
theorem dL_law_1076 : decode cL_law 1076 = .ok (.iaload, 1) := by decide +kernel
theorem dL_law_1077 : decode cL_law 1077 = .ok (.aload_n 0, 1) := by decide +kernel
theorem dL_law_1078 : decode cL_law 1078 = .ok (.iload_n 3, 1) := by decide +kernel
theorem dL_law_1079 : decode cL_law 1079 = .ok (.iconst 2, 1) := by decide +kernel
theorem dL_law_1080 : decode cL_law 1080 = .ok (.iadd, 1) := by decide +kernel
theorem dL_law_1081 : decode cL_law 1081 = .ok (.iaload, 1) := by decide +kernel
theorem dL_law_1082 : decode cL_law 1082 = .ok (.aload_n 0, 1) := by decide +kernel
theorem dL_law_1083 : decode cL_law 1083 = .ok (.iload_n 3, 1) := by decide +kernel
theorem dL_law_1084 : decode cL_law 1084 = .ok (.iconst 3, 1) := by decide +kernel
theorem dL_law_1085 : decode cL_law 1085 = .ok (.iadd, 1) := by decide +kernel
theorem dL_law_1086 : decode cL_law 1086 = .ok (.iaload, 1) := by decide +kernel
theorem dL_law_1087 : decode cL_law 1087 = .ok (.aload_n 0, 1) := by decide +kernel
theorem dL_law_1088 : decode cL_law 1088 = .ok (.iload_n 3, 1) := by decide +kernel
theorem dL_law_1089 : decode cL_law 1089 = .ok (.iconst 4, 1) := by decide +kernel
theorem dL_law_1090 : decode cL_law 1090 = .ok (.iadd, 1) := by decide +kernel
theorem dL_law_1091 : decode cL_law 1091 = .ok (.iaload, 1) := by decide +kernel
theorem dL_law_1092 : decode cL_law 1092 = .ok (.aload_n 0, 1) := by decide +kernel
theorem dL_law_1093 : decode cL_law 1093 = .ok (.iload_n 3, 1) := by decide +kernel
theorem dL_law_1094 : decode cL_law 1094 = .ok (.iconst 5, 1) := by decide +kernel
theorem dL_law_1095 : decode cL_law 1095 = .ok (.iadd, 1) := by decide +kernel
theorem dL_law_1096 : decode cL_law 1096 = .ok (.iaload, 1) := by decide +kernel
theorem dL_law_1097 : decode cL_law 1097 = .ok (.aload_n 0, 1) := by decide +kernel
theorem dL_law_1098 : decode cL_law 1098 = .ok (.iload_n 3, 1) := by decide +kernel
theorem dL_law_1099 : decode cL_law 1099 = .ok (.bipush 6, 2) := by decide +kernel
theorem dL_law_1101 : decode cL_law 1101 = .ok (.iadd, 1) := by decide +kernel
theorem dL_law_1102 : decode cL_law 1102 = .ok (.iaload, 1) := by decide +kernel
theorem dL_law_1103 : decode cL_law 1103 = .ok (.aload_n 0, 1) := by decide +kernel
theorem dL_law_1104 : decode cL_law 1104 = .ok (.iload_n 3, 1) := by decide +kernel
theorem dL_law_1105 : decode cL_law 1105 = .ok (.bipush 7, 2) := by decide +kernel
theorem dL_law_1107 : decode cL_law 1107 = .ok (.iadd, 1) := by decide +kernel
theorem dL_law_1108 : decode cL_law 1108 = .ok (.iaload, 1) := by decide +kernel
theorem dL_law_1109 : decode cL_law 1109 = .ok (.invokevirtual 108, 3) := by decide +kernel
theorem dL_law_1112 : decode cL_law 1112 = .ok (.if_icmp .eq 500, 3) := by decide +kernel
theorem dL_law_1115 : decode cL_law 1115 = .ok (.iconst 0, 1) := by decide +kernel
theorem dL_law_1116 : decode cL_law 1116 = .ok (.ireturn, 1) := by decide +kernel
theorem dL_law_1117 : decode cL_law 1117 = .ok (.aload_n 1, 1) := by decide +kernel
theorem dL_law_1118 : decode cL_law 1118 = .ok (.aload_n 0, 1) := by decide +kernel
theorem dL_law_1119 : decode cL_law 1119 = .ok (.iload_n 3, 1) := by decide +kernel
theorem dL_law_1120 : decode cL_law 1120 = .ok (.iconst 1, 1) := by decide +kernel
theorem dL_law_1121 : decode cL_law 1121 = .ok (.iadd, 1) := by decide +kernel
theorem dL_law_1122 : decode cL_law 1122 = .ok (.iaload, 1) := by decide +kernel
theorem dL_law_1123 : decode cL_law 1123 = .ok (.aload_n 0, 1) := by decide +kernel
theorem dL_law_1124 : decode cL_law 1124 = .ok (.iload_n 3, 1) := by decide +kernel
theorem dL_law_1125 : decode cL_law 1125 = .ok (.iconst 2, 1) := by decide +kernel
theorem dL_law_1126 : decode cL_law 1126 = .ok (.iadd, 1) := by decide +kernel
theorem dL_law_1127 : decode cL_law 1127 = .ok (.iaload, 1) := by decide +kernel
theorem dL_law_1128 : decode cL_law 1128 = .ok (.aload_n 0, 1) := by decide +kernel
theorem dL_law_1129 : decode cL_law 1129 = .ok (.iload_n 3, 1) := by decide +kernel
theorem dL_law_1130 : decode cL_law 1130 = .ok (.iconst 3, 1) := by decide +kernel
theorem dL_law_1131 : decode cL_law 1131 = .ok (.iadd, 1) := by decide +kernel
theorem dL_law_1132 : decode cL_law 1132 = .ok (.iaload, 1) := by decide +kernel
theorem dL_law_1133 : decode cL_law 1133 = .ok (.invokevirtual 109, 3) := by decide +kernel
theorem dL_law_1136 : decode cL_law 1136 = .ok (.aload_n 2, 1) := by decide +kernel
theorem dL_law_1137 : decode cL_law 1137 = .ok (.aload_n 0, 1) := by decide +kernel
theorem dL_law_1138 : decode cL_law 1138 = .ok (.iload_n 3, 1) := by decide +kernel
theorem dL_law_1139 : decode cL_law 1139 = .ok (.iconst 1, 1) := by decide +kernel
theorem dL_law_1140 : decode cL_law 1140 = .ok (.iadd, 1) := by decide +kernel
theorem dL_law_1141 : decode cL_law 1141 = .ok (.iaload, 1) := by decide +kernel
theorem dL_law_1142 : decode cL_law 1142 = .ok (.aload_n 0, 1) := by decide +kernel
theorem dL_law_1143 : decode cL_law 1143 = .ok (.iload_n 3, 1) := by decide +kernel
theorem dL_law_1144 : decode cL_law 1144 = .ok (.iconst 2, 1) := by decide +kernel
theorem dL_law_1145 : decode cL_law 1145 = .ok (.iadd, 1) := by decide +kernel
theorem dL_law_1146 : decode cL_law 1146 = .ok (.iaload, 1) := by decide +kernel
theorem dL_law_1147 : decode cL_law 1147 = .ok (.aload_n 0, 1) := by decide +kernel
theorem dL_law_1148 : decode cL_law 1148 = .ok (.iload_n 3, 1) := by decide +kernel
theorem dL_law_1149 : decode cL_law 1149 = .ok (.iconst 3, 1) := by decide +kernel
theorem dL_law_1150 : decode cL_law 1150 = .ok (.iadd, 1) := by decide +kernel
theorem dL_law_1151 : decode cL_law 1151 = .ok (.iaload, 1) := by decide +kernel
theorem dL_law_1152 : decode cL_law 1152 = .ok (.invokevirtual 113, 3) := by decide +kernel
theorem dL_law_1155 : decode cL_law 1155 = .ok (.lcmp, 1) := by decide +kernel
theorem dL_law_1156 : decode cL_law 1156 = .ok (.ifCond .eq 456, 3) := by decide +kernel
theorem dL_law_1159 : decode cL_law 1159 = .ok (.iconst 0, 1) := by decide +kernel
theorem dL_law_1160 : decode cL_law 1160 = .ok (.ireturn, 1) := by decide +kernel
theorem dL_law_1161 : decode cL_law 1161 = .ok (.aload_n 1, 1) := by decide +kernel
theorem dL_law_1162 : decode cL_law 1162 = .ok (.aload_n 0, 1) := by decide +kernel
theorem dL_law_1163 : decode cL_law 1163 = .ok (.iload_n 3, 1) := by decide +kernel
theorem dL_law_1164 : decode cL_law 1164 = .ok (.iconst 1, 1) := by decide +kernel
theorem dL_law_1165 : decode cL_law 1165 = .ok (.iadd, 1) := by decide +kernel
theorem dL_law_1166 : decode cL_law 1166 = .ok (.iaload, 1) := by decide +kernel
theorem dL_law_1167 : decode cL_law 1167 = .ok (.aload_n 0, 1) := by decide +kernel
theorem dL_law_1168 : decode cL_law 1168 = .ok (.iload_n 3, 1) := by decide +kernel
theorem dL_law_1169 : decode cL_law 1169 = .ok (.iconst 2, 1) := by decide +kernel
theorem dL_law_1170 : decode cL_law 1170 = .ok (.iadd, 1) := by decide +kernel
theorem dL_law_1171 : decode cL_law 1171 = .ok (.iaload, 1) := by decide +kernel
theorem dL_law_1172 : decode cL_law 1172 = .ok (.aload_n 0, 1) := by decide +kernel
theorem dL_law_1173 : decode cL_law 1173 = .ok (.iload_n 3, 1) := by decide +kernel
theorem dL_law_1174 : decode cL_law 1174 = .ok (.iconst 3, 1) := by decide +kernel
theorem dL_law_1175 : decode cL_law 1175 = .ok (.iadd, 1) := by decide +kernel
theorem dL_law_1176 : decode cL_law 1176 = .ok (.iaload, 1) := by decide +kernel
theorem dL_law_1177 : decode cL_law 1177 = .ok (.invokevirtual 114, 3) := by decide +kernel
theorem dL_law_1180 : decode cL_law 1180 = .ok (.aload_n 2, 1) := by decide +kernel
theorem dL_law_1181 : decode cL_law 1181 = .ok (.aload_n 0, 1) := by decide +kernel
theorem dL_law_1182 : decode cL_law 1182 = .ok (.iload_n 3, 1) := by decide +kernel
theorem dL_law_1183 : decode cL_law 1183 = .ok (.iconst 1, 1) := by decide +kernel
theorem dL_law_1184 : decode cL_law 1184 = .ok (.iadd, 1) := by decide +kernel
theorem dL_law_1185 : decode cL_law 1185 = .ok (.iaload, 1) := by decide +kernel
theorem dL_law_1186 : decode cL_law 1186 = .ok (.aload_n 0, 1) := by decide +kernel
theorem dL_law_1187 : decode cL_law 1187 = .ok (.iload_n 3, 1) := by decide +kernel
theorem dL_law_1188 : decode cL_law 1188 = .ok (.iconst 2, 1) := by decide +kernel
theorem dL_law_1189 : decode cL_law 1189 = .ok (.iadd, 1) := by decide +kernel
theorem dL_law_1190 : decode cL_law 1190 = .ok (.iaload, 1) := by decide +kernel
theorem dL_law_1191 : decode cL_law 1191 = .ok (.aload_n 0, 1) := by decide +kernel
theorem dL_law_1192 : decode cL_law 1192 = .ok (.iload_n 3, 1) := by decide +kernel
theorem dL_law_1193 : decode cL_law 1193 = .ok (.iconst 3, 1) := by decide +kernel
theorem dL_law_1194 : decode cL_law 1194 = .ok (.iadd, 1) := by decide +kernel
theorem dL_law_1195 : decode cL_law 1195 = .ok (.iaload, 1) := by decide +kernel
theorem dL_law_1196 : decode cL_law 1196 = .ok (.invokevirtual 117, 3) := by decide +kernel
theorem dL_law_1199 : decode cL_law 1199 = .ok (.if_icmp .eq 413, 3) := by decide +kernel
theorem dL_law_1202 : decode cL_law 1202 = .ok (.iconst 0, 1) := by decide +kernel
theorem dL_law_1203 : decode cL_law 1203 = .ok (.ireturn, 1) := by decide +kernel
theorem dL_law_1204 : decode cL_law 1204 = .ok (.aload_n 1, 1) := by decide +kernel
theorem dL_law_1205 : decode cL_law 1205 = .ok (.aload_n 0, 1) := by decide +kernel
theorem dL_law_1206 : decode cL_law 1206 = .ok (.iload_n 3, 1) := by decide +kernel
theorem dL_law_1207 : decode cL_law 1207 = .ok (.iconst 1, 1) := by decide +kernel
theorem dL_law_1208 : decode cL_law 1208 = .ok (.iadd, 1) := by decide +kernel
theorem dL_law_1209 : decode cL_law 1209 = .ok (.iaload, 1) := by decide +kernel
theorem dL_law_1210 : decode cL_law 1210 = .ok (.aload_n 0, 1) := by decide +kernel
theorem dL_law_1211 : decode cL_law 1211 = .ok (.iload_n 3, 1) := by decide +kernel
theorem dL_law_1212 : decode cL_law 1212 = .ok (.iconst 2, 1) := by decide +kernel
theorem dL_law_1213 : decode cL_law 1213 = .ok (.iadd, 1) := by decide +kernel
theorem dL_law_1214 : decode cL_law 1214 = .ok (.iaload, 1) := by decide +kernel
theorem dL_law_1215 : decode cL_law 1215 = .ok (.aload_n 0, 1) := by decide +kernel
theorem dL_law_1216 : decode cL_law 1216 = .ok (.iload_n 3, 1) := by decide +kernel
theorem dL_law_1217 : decode cL_law 1217 = .ok (.iconst 3, 1) := by decide +kernel
theorem dL_law_1218 : decode cL_law 1218 = .ok (.iadd, 1) := by decide +kernel
theorem dL_law_1219 : decode cL_law 1219 = .ok (.iaload, 1) := by decide +kernel
theorem dL_law_1220 : decode cL_law 1220 = .ok (.aload_n 0, 1) := by decide +kernel
theorem dL_law_1221 : decode cL_law 1221 = .ok (.iload_n 3, 1) := by decide +kernel
theorem dL_law_1222 : decode cL_law 1222 = .ok (.iconst 4, 1) := by decide +kernel
theorem dL_law_1223 : decode cL_law 1223 = .ok (.iadd, 1) := by decide +kernel
theorem dL_law_1224 : decode cL_law 1224 = .ok (.iaload, 1) := by decide +kernel
theorem dL_law_1225 : decode cL_law 1225 = .ok (.aload_n 0, 1) := by decide +kernel
theorem dL_law_1226 : decode cL_law 1226 = .ok (.iload_n 3, 1) := by decide +kernel
theorem dL_law_1227 : decode cL_law 1227 = .ok (.iconst 5, 1) := by decide +kernel
theorem dL_law_1228 : decode cL_law 1228 = .ok (.iadd, 1) := by decide +kernel
theorem dL_law_1229 : decode cL_law 1229 = .ok (.iaload, 1) := by decide +kernel
theorem dL_law_1230 : decode cL_law 1230 = .ok (.invokevirtual 118, 3) := by decide +kernel
theorem dL_law_1233 : decode cL_law 1233 = .ok (.aload_n 2, 1) := by decide +kernel
theorem dL_law_1234 : decode cL_law 1234 = .ok (.aload_n 0, 1) := by decide +kernel
theorem dL_law_1235 : decode cL_law 1235 = .ok (.iload_n 3, 1) := by decide +kernel
theorem dL_law_1236 : decode cL_law 1236 = .ok (.iconst 1, 1) := by decide +kernel
theorem dL_law_1237 : decode cL_law 1237 = .ok (.iadd, 1) := by decide +kernel
theorem dL_law_1238 : decode cL_law 1238 = .ok (.iaload, 1) := by decide +kernel
theorem dL_law_1239 : decode cL_law 1239 = .ok (.aload_n 0, 1) := by decide +kernel
theorem dL_law_1240 : decode cL_law 1240 = .ok (.iload_n 3, 1) := by decide +kernel
theorem dL_law_1241 : decode cL_law 1241 = .ok (.iconst 2, 1) := by decide +kernel
theorem dL_law_1242 : decode cL_law 1242 = .ok (.iadd, 1) := by decide +kernel
theorem dL_law_1243 : decode cL_law 1243 = .ok (.iaload, 1) := by decide +kernel
theorem dL_law_1244 : decode cL_law 1244 = .ok (.aload_n 0, 1) := by decide +kernel
theorem dL_law_1245 : decode cL_law 1245 = .ok (.iload_n 3, 1) := by decide +kernel
theorem dL_law_1246 : decode cL_law 1246 = .ok (.iconst 3, 1) := by decide +kernel
theorem dL_law_1247 : decode cL_law 1247 = .ok (.iadd, 1) := by decide +kernel
theorem dL_law_1248 : decode cL_law 1248 = .ok (.iaload, 1) := by decide +kernel
theorem dL_law_1249 : decode cL_law 1249 = .ok (.aload_n 0, 1) := by decide +kernel
theorem dL_law_1250 : decode cL_law 1250 = .ok (.iload_n 3, 1) := by decide +kernel
theorem dL_law_1251 : decode cL_law 1251 = .ok (.iconst 4, 1) := by decide +kernel
theorem dL_law_1252 : decode cL_law 1252 = .ok (.iadd, 1) := by decide +kernel
theorem dL_law_1253 : decode cL_law 1253 = .ok (.iaload, 1) := by decide +kernel
theorem dL_law_1254 : decode cL_law 1254 = .ok (.aload_n 0, 1) := by decide +kernel
theorem dL_law_1255 : decode cL_law 1255 = .ok (.iload_n 3, 1) := by decide +kernel
theorem dL_law_1256 : decode cL_law 1256 = .ok (.iconst 5, 1) := by decide +kernel
theorem dL_law_1257 : decode cL_law 1257 = .ok (.iadd, 1) := by decide +kernel
theorem dL_law_1258 : decode cL_law 1258 = .ok (.iaload, 1) := by decide +kernel
theorem dL_law_1259 : decode cL_law 1259 = .ok (.invokevirtual 122, 3) := by decide +kernel
theorem dL_law_1262 : decode cL_law 1262 = .ok (.lcmp, 1) := by decide +kernel
theorem dL_law_1263 : decode cL_law 1263 = .ok (.ifCond .eq 349, 3) := by decide +kernel
theorem dL_law_1266 : decode cL_law 1266 = .ok (.iconst 0, 1) := by decide +kernel
theorem dL_law_1267 : decode cL_law 1267 = .ok (.ireturn, 1) := by decide +kernel
theorem dL_law_1268 : decode cL_law 1268 = .ok (.aload_n 1, 1) := by decide +kernel
theorem dL_law_1269 : decode cL_law 1269 = .ok (.aload_n 0, 1) := by decide +kernel
theorem dL_law_1270 : decode cL_law 1270 = .ok (.iload_n 3, 1) := by decide +kernel
theorem dL_law_1271 : decode cL_law 1271 = .ok (.iconst 1, 1) := by decide +kernel
theorem dL_law_1272 : decode cL_law 1272 = .ok (.iadd, 1) := by decide +kernel
theorem dL_law_1273 : decode cL_law 1273 = .ok (.iaload, 1) := by decide +kernel
theorem dL_law_1274 : decode cL_law 1274 = .ok (.aload_n 0, 1) := by decide +kernel
theorem dL_law_1275 : decode cL_law 1275 = .ok (.iload_n 3, 1) := by decide +kernel
theorem dL_law_1276 : decode cL_law 1276 = .ok (.iconst 2, 1) := by decide +kernel
theorem dL_law_1277 : decode cL_law 1277 = .ok (.iadd, 1) := by decide +kernel
theorem dL_law_1278 : decode cL_law 1278 = .ok (.iaload, 1) := by decide +kernel
theorem dL_law_1279 : decode cL_law 1279 = .ok (.aload_n 0, 1) := by decide +kernel
theorem dL_law_1280 : decode cL_law 1280 = .ok (.iload_n 3, 1) := by decide +kernel
theorem dL_law_1281 : decode cL_law 1281 = .ok (.iconst 3, 1) := by decide +kernel
theorem dL_law_1282 : decode cL_law 1282 = .ok (.iadd, 1) := by decide +kernel
theorem dL_law_1283 : decode cL_law 1283 = .ok (.iaload, 1) := by decide +kernel
theorem dL_law_1284 : decode cL_law 1284 = .ok (.invokevirtual 123, 3) := by decide +kernel
theorem dL_law_1287 : decode cL_law 1287 = .ok (.aload_n 2, 1) := by decide +kernel
theorem dL_law_1288 : decode cL_law 1288 = .ok (.aload_n 0, 1) := by decide +kernel
theorem dL_law_1289 : decode cL_law 1289 = .ok (.iload_n 3, 1) := by decide +kernel
theorem dL_law_1290 : decode cL_law 1290 = .ok (.iconst 1, 1) := by decide +kernel
theorem dL_law_1291 : decode cL_law 1291 = .ok (.iadd, 1) := by decide +kernel
theorem dL_law_1292 : decode cL_law 1292 = .ok (.iaload, 1) := by decide +kernel
theorem dL_law_1293 : decode cL_law 1293 = .ok (.aload_n 0, 1) := by decide +kernel
theorem dL_law_1294 : decode cL_law 1294 = .ok (.iload_n 3, 1) := by decide +kernel
theorem dL_law_1295 : decode cL_law 1295 = .ok (.iconst 2, 1) := by decide +kernel
theorem dL_law_1296 : decode cL_law 1296 = .ok (.iadd, 1) := by decide +kernel
theorem dL_law_1297 : decode cL_law 1297 = .ok (.iaload, 1) := by decide +kernel
theorem dL_law_1298 : decode cL_law 1298 = .ok (.aload_n 0, 1) := by decide +kernel
theorem dL_law_1299 : decode cL_law 1299 = .ok (.iload_n 3, 1) := by decide +kernel
theorem dL_law_1300 : decode cL_law 1300 = .ok (.iconst 3, 1) := by decide +kernel
theorem dL_law_1301 : decode cL_law 1301 = .ok (.iadd, 1) := by decide +kernel
theorem dL_law_1302 : decode cL_law 1302 = .ok (.iaload, 1) := by decide +kernel
theorem dL_law_1303 : decode cL_law 1303 = .ok (.invokevirtual 126, 3) := by decide +kernel
theorem dL_law_1306 : decode cL_law 1306 = .ok (.if_icmp .eq 306, 3) := by decide +kernel
theorem dL_law_1309 : decode cL_law 1309 = .ok (.iconst 0, 1) := by decide +kernel
theorem dL_law_1310 : decode cL_law 1310 = .ok (.ireturn, 1) := by decide +kernel
theorem dL_law_1311 : decode cL_law 1311 = .ok (.aload_n 1, 1) := by decide +kernel
theorem dL_law_1312 : decode cL_law 1312 = .ok (.aload_n 0, 1) := by decide +kernel
theorem dL_law_1313 : decode cL_law 1313 = .ok (.iload_n 3, 1) := by decide +kernel
theorem dL_law_1314 : decode cL_law 1314 = .ok (.iconst 1, 1) := by decide +kernel
theorem dL_law_1315 : decode cL_law 1315 = .ok (.iadd, 1) := by decide +kernel
theorem dL_law_1316 : decode cL_law 1316 = .ok (.iaload, 1) := by decide +kernel
theorem dL_law_1317 : decode cL_law 1317 = .ok (.invokevirtual 127, 3) := by decide +kernel
theorem dL_law_1320 : decode cL_law 1320 = .ok (.aload_n 2, 1) := by decide +kernel
theorem dL_law_1321 : decode cL_law 1321 = .ok (.aload_n 0, 1) := by decide +kernel
theorem dL_law_1322 : decode cL_law 1322 = .ok (.iload_n 3, 1) := by decide +kernel
theorem dL_law_1323 : decode cL_law 1323 = .ok (.iconst 1, 1) := by decide +kernel
theorem dL_law_1324 : decode cL_law 1324 = .ok (.iadd, 1) := by decide +kernel
theorem dL_law_1325 : decode cL_law 1325 = .ok (.iaload, 1) := by decide +kernel
theorem dL_law_1326 : decode cL_law 1326 = .ok (.invokevirtual 130, 3) := by decide +kernel
theorem dL_law_1329 : decode cL_law 1329 = .ok (.if_icmp .eq 283, 3) := by decide +kernel
theorem dL_law_1332 : decode cL_law 1332 = .ok (.iconst 0, 1) := by decide +kernel
theorem dL_law_1333 : decode cL_law 1333 = .ok (.ireturn, 1) := by decide +kernel
theorem dL_law_1334 : decode cL_law 1334 = .ok (.aload_n 1, 1) := by decide +kernel
theorem dL_law_1335 : decode cL_law 1335 = .ok (.aload_n 0, 1) := by decide +kernel
theorem dL_law_1336 : decode cL_law 1336 = .ok (.iload_n 3, 1) := by decide +kernel
theorem dL_law_1337 : decode cL_law 1337 = .ok (.iconst 1, 1) := by decide +kernel
theorem dL_law_1338 : decode cL_law 1338 = .ok (.iadd, 1) := by decide +kernel
theorem dL_law_1339 : decode cL_law 1339 = .ok (.iaload, 1) := by decide +kernel
theorem dL_law_1340 : decode cL_law 1340 = .ok (.aload_n 0, 1) := by decide +kernel
theorem dL_law_1341 : decode cL_law 1341 = .ok (.iload_n 3, 1) := by decide +kernel
theorem dL_law_1342 : decode cL_law 1342 = .ok (.iconst 2, 1) := by decide +kernel
theorem dL_law_1343 : decode cL_law 1343 = .ok (.iadd, 1) := by decide +kernel
theorem dL_law_1344 : decode cL_law 1344 = .ok (.iaload, 1) := by decide +kernel
theorem dL_law_1345 : decode cL_law 1345 = .ok (.aload_n 0, 1) := by decide +kernel
theorem dL_law_1346 : decode cL_law 1346 = .ok (.iload_n 3, 1) := by decide +kernel
theorem dL_law_1347 : decode cL_law 1347 = .ok (.iconst 3, 1) := by decide +kernel
theorem dL_law_1348 : decode cL_law 1348 = .ok (.iadd, 1) := by decide +kernel
theorem dL_law_1349 : decode cL_law 1349 = .ok (.iaload, 1) := by decide +kernel
theorem dL_law_1350 : decode cL_law 1350 = .ok (.invokevirtual 131, 3) := by decide +kernel
theorem dL_law_1353 : decode cL_law 1353 = .ok (.aload_n 2, 1) := by decide +kernel
theorem dL_law_1354 : decode cL_law 1354 = .ok (.aload_n 0, 1) := by decide +kernel
theorem dL_law_1355 : decode cL_law 1355 = .ok (.iload_n 3, 1) := by decide +kernel
theorem dL_law_1356 : decode cL_law 1356 = .ok (.iconst 1, 1) := by decide +kernel
theorem dL_law_1357 : decode cL_law 1357 = .ok (.iadd, 1) := by decide +kernel
theorem dL_law_1358 : decode cL_law 1358 = .ok (.iaload, 1) := by decide +kernel
theorem dL_law_1359 : decode cL_law 1359 = .ok (.aload_n 0, 1) := by decide +kernel
theorem dL_law_1360 : decode cL_law 1360 = .ok (.iload_n 3, 1) := by decide +kernel
theorem dL_law_1361 : decode cL_law 1361 = .ok (.iconst 2, 1) := by decide +kernel
theorem dL_law_1362 : decode cL_law 1362 = .ok (.iadd, 1) := by decide +kernel
theorem dL_law_1363 : decode cL_law 1363 = .ok (.iaload, 1) := by decide +kernel
theorem dL_law_1364 : decode cL_law 1364 = .ok (.aload_n 0, 1) := by decide +kernel
theorem dL_law_1365 : decode cL_law 1365 = .ok (.iload_n 3, 1) := by decide +kernel
theorem dL_law_1366 : decode cL_law 1366 = .ok (.iconst 3, 1) := by decide +kernel
theorem dL_law_1367 : decode cL_law 1367 = .ok (.iadd, 1) := by decide +kernel
theorem dL_law_1368 : decode cL_law 1368 = .ok (.iaload, 1) := by decide +kernel
theorem dL_law_1369 : decode cL_law 1369 = .ok (.invokevirtual 134, 3) := by decide +kernel
theorem dL_law_1372 : decode cL_law 1372 = .ok (.if_icmp .eq 240, 3) := by decide +kernel
theorem dL_law_1375 : decode cL_law 1375 = .ok (.iconst 0, 1) := by decide +kernel
theorem dL_law_1376 : decode cL_law 1376 = .ok (.ireturn, 1) := by decide +kernel
theorem dL_law_1377 : decode cL_law 1377 = .ok (.aload_n 1, 1) := by decide +kernel
theorem dL_law_1378 : decode cL_law 1378 = .ok (.aload_n 0, 1) := by decide +kernel
theorem dL_law_1379 : decode cL_law 1379 = .ok (.iload_n 3, 1) := by decide +kernel
theorem dL_law_1380 : decode cL_law 1380 = .ok (.iconst 1, 1) := by decide +kernel
theorem dL_law_1381 : decode cL_law 1381 = .ok (.iadd, 1) := by decide +kernel
theorem dL_law_1382 : decode cL_law 1382 = .ok (.iaload, 1) := by decide +kernel
theorem dL_law_1383 : decode cL_law 1383 = .ok (.aload_n 0, 1) := by decide +kernel
theorem dL_law_1384 : decode cL_law 1384 = .ok (.iload_n 3, 1) := by decide +kernel
theorem dL_law_1385 : decode cL_law 1385 = .ok (.iconst 2, 1) := by decide +kernel
theorem dL_law_1386 : decode cL_law 1386 = .ok (.iadd, 1) := by decide +kernel
theorem dL_law_1387 : decode cL_law 1387 = .ok (.iaload, 1) := by decide +kernel
theorem dL_law_1388 : decode cL_law 1388 = .ok (.aload_n 0, 1) := by decide +kernel
theorem dL_law_1389 : decode cL_law 1389 = .ok (.iload_n 3, 1) := by decide +kernel
theorem dL_law_1390 : decode cL_law 1390 = .ok (.iconst 3, 1) := by decide +kernel
theorem dL_law_1391 : decode cL_law 1391 = .ok (.iadd, 1) := by decide +kernel
theorem dL_law_1392 : decode cL_law 1392 = .ok (.iaload, 1) := by decide +kernel
theorem dL_law_1393 : decode cL_law 1393 = .ok (.invokevirtual 135, 3) := by decide +kernel
theorem dL_law_1396 : decode cL_law 1396 = .ok (.aload_n 2, 1) := by decide +kernel
theorem dL_law_1397 : decode cL_law 1397 = .ok (.aload_n 0, 1) := by decide +kernel
theorem dL_law_1398 : decode cL_law 1398 = .ok (.iload_n 3, 1) := by decide +kernel
theorem dL_law_1399 : decode cL_law 1399 = .ok (.iconst 1, 1) := by decide +kernel
theorem dL_law_1400 : decode cL_law 1400 = .ok (.iadd, 1) := by decide +kernel
theorem dL_law_1401 : decode cL_law 1401 = .ok (.iaload, 1) := by decide +kernel
theorem dL_law_1402 : decode cL_law 1402 = .ok (.aload_n 0, 1) := by decide +kernel
theorem dL_law_1403 : decode cL_law 1403 = .ok (.iload_n 3, 1) := by decide +kernel
theorem dL_law_1404 : decode cL_law 1404 = .ok (.iconst 2, 1) := by decide +kernel
theorem dL_law_1405 : decode cL_law 1405 = .ok (.iadd, 1) := by decide +kernel
theorem dL_law_1406 : decode cL_law 1406 = .ok (.iaload, 1) := by decide +kernel
theorem dL_law_1407 : decode cL_law 1407 = .ok (.aload_n 0, 1) := by decide +kernel
theorem dL_law_1408 : decode cL_law 1408 = .ok (.iload_n 3, 1) := by decide +kernel
theorem dL_law_1409 : decode cL_law 1409 = .ok (.iconst 3, 1) := by decide +kernel
theorem dL_law_1410 : decode cL_law 1410 = .ok (.iadd, 1) := by decide +kernel
theorem dL_law_1411 : decode cL_law 1411 = .ok (.iaload, 1) := by decide +kernel
theorem dL_law_1412 : decode cL_law 1412 = .ok (.invokevirtual 138, 3) := by decide +kernel
theorem dL_law_1415 : decode cL_law 1415 = .ok (.lcmp, 1) := by decide +kernel
theorem dL_law_1416 : decode cL_law 1416 = .ok (.ifCond .eq 196, 3) := by decide +kernel
theorem dL_law_1419 : decode cL_law 1419 = .ok (.iconst 0, 1) := by decide +kernel
theorem dL_law_1420 : decode cL_law 1420 = .ok (.ireturn, 1) := by decide +kernel
theorem dL_law_1421 : decode cL_law 1421 = .ok (.aload_n 1, 1) := by decide +kernel
theorem dL_law_1422 : decode cL_law 1422 = .ok (.aload_n 0, 1) := by decide +kernel
theorem dL_law_1423 : decode cL_law 1423 = .ok (.iload_n 3, 1) := by decide +kernel
theorem dL_law_1424 : decode cL_law 1424 = .ok (.iconst 1, 1) := by decide +kernel
theorem dL_law_1425 : decode cL_law 1425 = .ok (.iadd, 1) := by decide +kernel
theorem dL_law_1426 : decode cL_law 1426 = .ok (.iaload, 1) := by decide +kernel
theorem dL_law_1427 : decode cL_law 1427 = .ok (.aload_n 0, 1) := by decide +kernel
theorem dL_law_1428 : decode cL_law 1428 = .ok (.iload_n 3, 1) := by decide +kernel
theorem dL_law_1429 : decode cL_law 1429 = .ok (.iconst 2, 1) := by decide +kernel
theorem dL_law_1430 : decode cL_law 1430 = .ok (.iadd, 1) := by decide +kernel
theorem dL_law_1431 : decode cL_law 1431 = .ok (.iaload, 1) := by decide +kernel
theorem dL_law_1432 : decode cL_law 1432 = .ok (.aload_n 0, 1) := by decide +kernel
theorem dL_law_1433 : decode cL_law 1433 = .ok (.iload_n 3, 1) := by decide +kernel
theorem dL_law_1434 : decode cL_law 1434 = .ok (.iconst 3, 1) := by decide +kernel
theorem dL_law_1435 : decode cL_law 1435 = .ok (.iadd, 1) := by decide +kernel
theorem dL_law_1436 : decode cL_law 1436 = .ok (.iaload, 1) := by decide +kernel
theorem dL_law_1437 : decode cL_law 1437 = .ok (.aload_n 0, 1) := by decide +kernel
theorem dL_law_1438 : decode cL_law 1438 = .ok (.iload_n 3, 1) := by decide +kernel
theorem dL_law_1439 : decode cL_law 1439 = .ok (.iconst 4, 1) := by decide +kernel
theorem dL_law_1440 : decode cL_law 1440 = .ok (.iadd, 1) := by decide +kernel
theorem dL_law_1441 : decode cL_law 1441 = .ok (.iaload, 1) := by decide +kernel
theorem dL_law_1442 : decode cL_law 1442 = .ok (.aload_n 0, 1) := by decide +kernel
theorem dL_law_1443 : decode cL_law 1443 = .ok (.iload_n 3, 1) := by decide +kernel
theorem dL_law_1444 : decode cL_law 1444 = .ok (.iconst 5, 1) := by decide +kernel
theorem dL_law_1445 : decode cL_law 1445 = .ok (.iadd, 1) := by decide +kernel
theorem dL_law_1446 : decode cL_law 1446 = .ok (.iaload, 1) := by decide +kernel
theorem dL_law_1447 : decode cL_law 1447 = .ok (.invokevirtual 139, 3) := by decide +kernel
theorem dL_law_1450 : decode cL_law 1450 = .ok (.aload_n 2, 1) := by decide +kernel
theorem dL_law_1451 : decode cL_law 1451 = .ok (.aload_n 0, 1) := by decide +kernel
theorem dL_law_1452 : decode cL_law 1452 = .ok (.iload_n 3, 1) := by decide +kernel
theorem dL_law_1453 : decode cL_law 1453 = .ok (.iconst 1, 1) := by decide +kernel
theorem dL_law_1454 : decode cL_law 1454 = .ok (.iadd, 1) := by decide +kernel
theorem dL_law_1455 : decode cL_law 1455 = .ok (.iaload, 1) := by decide +kernel
theorem dL_law_1456 : decode cL_law 1456 = .ok (.aload_n 0, 1) := by decide +kernel
theorem dL_law_1457 : decode cL_law 1457 = .ok (.iload_n 3, 1) := by decide +kernel
theorem dL_law_1458 : decode cL_law 1458 = .ok (.iconst 2, 1) := by decide +kernel
theorem dL_law_1459 : decode cL_law 1459 = .ok (.iadd, 1) := by decide +kernel
theorem dL_law_1460 : decode cL_law 1460 = .ok (.iaload, 1) := by decide +kernel
theorem dL_law_1461 : decode cL_law 1461 = .ok (.aload_n 0, 1) := by decide +kernel
theorem dL_law_1462 : decode cL_law 1462 = .ok (.iload_n 3, 1) := by decide +kernel
theorem dL_law_1463 : decode cL_law 1463 = .ok (.iconst 3, 1) := by decide +kernel
theorem dL_law_1464 : decode cL_law 1464 = .ok (.iadd, 1) := by decide +kernel
theorem dL_law_1465 : decode cL_law 1465 = .ok (.iaload, 1) := by decide +kernel
theorem dL_law_1466 : decode cL_law 1466 = .ok (.aload_n 0, 1) := by decide +kernel
theorem dL_law_1467 : decode cL_law 1467 = .ok (.iload_n 3, 1) := by decide +kernel
theorem dL_law_1468 : decode cL_law 1468 = .ok (.iconst 4, 1) := by decide +kernel
theorem dL_law_1469 : decode cL_law 1469 = .ok (.iadd, 1) := by decide +kernel
theorem dL_law_1470 : decode cL_law 1470 = .ok (.iaload, 1) := by decide +kernel
theorem dL_law_1471 : decode cL_law 1471 = .ok (.aload_n 0, 1) := by decide +kernel
theorem dL_law_1472 : decode cL_law 1472 = .ok (.iload_n 3, 1) := by decide +kernel
theorem dL_law_1473 : decode cL_law 1473 = .ok (.iconst 5, 1) := by decide +kernel
theorem dL_law_1474 : decode cL_law 1474 = .ok (.iadd, 1) := by decide +kernel
theorem dL_law_1475 : decode cL_law 1475 = .ok (.iaload, 1) := by decide +kernel
theorem dL_law_1476 : decode cL_law 1476 = .ok (.invokevirtual 142, 3) := by decide +kernel
theorem dL_law_1479 : decode cL_law 1479 = .ok (.if_icmp .eq 133, 3) := by decide +kernel
theorem dL_law_1482 : decode cL_law 1482 = .ok (.iconst 0, 1) := by decide +kernel
theorem dL_law_1483 : decode cL_law 1483 = .ok (.ireturn, 1) := by decide +kernel
theorem dL_law_1484 : decode cL_law 1484 = .ok (.aload_n 1, 1) := by decide +kernel
theorem dL_law_1485 : decode cL_law 1485 = .ok (.aload_n 0, 1) := by decide +kernel
theorem dL_law_1486 : decode cL_law 1486 = .ok (.iload_n 3, 1) := by decide +kernel
theorem dL_law_1487 : decode cL_law 1487 = .ok (.iconst 1, 1) := by decide +kernel
theorem dL_law_1488 : decode cL_law 1488 = .ok (.iadd, 1) := by decide +kernel
theorem dL_law_1489 : decode cL_law 1489 = .ok (.iaload, 1) := by decide +kernel
theorem dL_law_1490 : decode cL_law 1490 = .ok (.invokevirtual 143, 3) := by decide +kernel
theorem dL_law_1493 : decode cL_law 1493 = .ok (.aload_n 2, 1) := by decide +kernel
theorem dL_law_1494 : decode cL_law 1494 = .ok (.aload_n 0, 1) := by decide +kernel
theorem dL_law_1495 : decode cL_law 1495 = .ok (.iload_n 3, 1) := by decide +kernel
theorem dL_law_1496 : decode cL_law 1496 = .ok (.iconst 1, 1) := by decide +kernel
theorem dL_law_1497 : decode cL_law 1497 = .ok (.iadd, 1) := by decide +kernel
theorem dL_law_1498 : decode cL_law 1498 = .ok (.iaload, 1) := by decide +kernel
theorem dL_law_1499 : decode cL_law 1499 = .ok (.invokevirtual 146, 3) := by decide +kernel
theorem dL_law_1502 : decode cL_law 1502 = .ok (.if_icmp .eq 110, 3) := by decide +kernel
theorem dL_law_1505 : decode cL_law 1505 = .ok (.iconst 0, 1) := by decide +kernel
theorem dL_law_1506 : decode cL_law 1506 = .ok (.ireturn, 1) := by decide +kernel
theorem dL_law_1507 : decode cL_law 1507 = .ok (.aload_n 1, 1) := by decide +kernel
theorem dL_law_1508 : decode cL_law 1508 = .ok (.aload_n 0, 1) := by decide +kernel
theorem dL_law_1509 : decode cL_law 1509 = .ok (.iload_n 3, 1) := by decide +kernel
theorem dL_law_1510 : decode cL_law 1510 = .ok (.iconst 1, 1) := by decide +kernel
theorem dL_law_1511 : decode cL_law 1511 = .ok (.iadd, 1) := by decide +kernel
theorem dL_law_1512 : decode cL_law 1512 = .ok (.iaload, 1) := by decide +kernel
theorem dL_law_1513 : decode cL_law 1513 = .ok (.invokevirtual 147, 3) := by decide +kernel
theorem dL_law_1516 : decode cL_law 1516 = .ok (.aload_n 2, 1) := by decide +kernel
theorem dL_law_1517 : decode cL_law 1517 = .ok (.aload_n 0, 1) := by decide +kernel
theorem dL_law_1518 : decode cL_law 1518 = .ok (.iload_n 3, 1) := by decide +kernel
theorem dL_law_1519 : decode cL_law 1519 = .ok (.iconst 1, 1) := by decide +kernel
theorem dL_law_1520 : decode cL_law 1520 = .ok (.iadd, 1) := by decide +kernel
theorem dL_law_1521 : decode cL_law 1521 = .ok (.iaload, 1) := by decide +kernel
theorem dL_law_1522 : decode cL_law 1522 = .ok (.invokevirtual 150, 3) := by decide +kernel
theorem dL_law_1525 : decode cL_law 1525 = .ok (.if_icmp .eq 87, 3) := by decide +kernel
theorem dL_law_1528 : decode cL_law 1528 = .ok (.iconst 0, 1) := by decide +kernel
theorem dL_law_1529 : decode cL_law 1529 = .ok (.ireturn, 1) := by decide +kernel
theorem dL_law_1530 : decode cL_law 1530 = .ok (.aload_n 1, 1) := by decide +kernel
theorem dL_law_1531 : decode cL_law 1531 = .ok (.aload_n 0, 1) := by decide +kernel
theorem dL_law_1532 : decode cL_law 1532 = .ok (.iload_n 3, 1) := by decide +kernel
theorem dL_law_1533 : decode cL_law 1533 = .ok (.iconst 1, 1) := by decide +kernel
theorem dL_law_1534 : decode cL_law 1534 = .ok (.iadd, 1) := by decide +kernel
theorem dL_law_1535 : decode cL_law 1535 = .ok (.iaload, 1) := by decide +kernel
theorem dL_law_1536 : decode cL_law 1536 = .ok (.aload_n 0, 1) := by decide +kernel
theorem dL_law_1537 : decode cL_law 1537 = .ok (.iload_n 3, 1) := by decide +kernel
theorem dL_law_1538 : decode cL_law 1538 = .ok (.iconst 2, 1) := by decide +kernel
theorem dL_law_1539 : decode cL_law 1539 = .ok (.iadd, 1) := by decide +kernel
theorem dL_law_1540 : decode cL_law 1540 = .ok (.iaload, 1) := by decide +kernel
theorem dL_law_1541 : decode cL_law 1541 = .ok (.invokevirtual 151, 3) := by decide +kernel
theorem dL_law_1544 : decode cL_law 1544 = .ok (.aload_n 2, 1) := by decide +kernel
theorem dL_law_1545 : decode cL_law 1545 = .ok (.aload_n 0, 1) := by decide +kernel
theorem dL_law_1546 : decode cL_law 1546 = .ok (.iload_n 3, 1) := by decide +kernel
theorem dL_law_1547 : decode cL_law 1547 = .ok (.iconst 1, 1) := by decide +kernel
theorem dL_law_1548 : decode cL_law 1548 = .ok (.iadd, 1) := by decide +kernel
theorem dL_law_1549 : decode cL_law 1549 = .ok (.iaload, 1) := by decide +kernel
theorem dL_law_1550 : decode cL_law 1550 = .ok (.aload_n 0, 1) := by decide +kernel
theorem dL_law_1551 : decode cL_law 1551 = .ok (.iload_n 3, 1) := by decide +kernel
theorem dL_law_1552 : decode cL_law 1552 = .ok (.iconst 2, 1) := by decide +kernel
theorem dL_law_1553 : decode cL_law 1553 = .ok (.iadd, 1) := by decide +kernel
theorem dL_law_1554 : decode cL_law 1554 = .ok (.iaload, 1) := by decide +kernel
theorem dL_law_1555 : decode cL_law 1555 = .ok (.invokevirtual 154, 3) := by decide +kernel
theorem dL_law_1558 : decode cL_law 1558 = .ok (.if_icmp .eq 54, 3) := by decide +kernel
theorem dL_law_1561 : decode cL_law 1561 = .ok (.iconst 0, 1) := by decide +kernel
theorem dL_law_1562 : decode cL_law 1562 = .ok (.ireturn, 1) := by decide +kernel
theorem dL_law_1563 : decode cL_law 1563 = .ok (.aload_n 1, 1) := by decide +kernel
theorem dL_law_1564 : decode cL_law 1564 = .ok (.invokevirtual 155, 3) := by decide +kernel
theorem dL_law_1567 : decode cL_law 1567 = .ok (.aload_n 2, 1) := by decide +kernel
theorem dL_law_1568 : decode cL_law 1568 = .ok (.invokevirtual 159, 3) := by decide +kernel
theorem dL_law_1571 : decode cL_law 1571 = .ok (.if_icmp .eq 41, 3) := by decide +kernel
theorem dL_law_1574 : decode cL_law 1574 = .ok (.iconst 0, 1) := by decide +kernel
theorem dL_law_1575 : decode cL_law 1575 = .ok (.ireturn, 1) := by decide +kernel
theorem dL_law_1576 : decode cL_law 1576 = .ok (.aload_n 1, 1) := by decide +kernel
theorem dL_law_1577 : decode cL_law 1577 = .ok (.invokevirtual 160, 3) := by decide +kernel
theorem dL_law_1580 : decode cL_law 1580 = .ok (.aload_n 2, 1) := by decide +kernel
theorem dL_law_1581 : decode cL_law 1581 = .ok (.invokevirtual 163, 3) := by decide +kernel
theorem dL_law_1584 : decode cL_law 1584 = .ok (.if_icmp .eq 28, 3) := by decide +kernel
theorem dL_law_1587 : decode cL_law 1587 = .ok (.iconst 0, 1) := by decide +kernel
theorem dL_law_1588 : decode cL_law 1588 = .ok (.ireturn, 1) := by decide +kernel
theorem dL_law_1589 : decode cL_law 1589 = .ok (.aload_n 1, 1) := by decide +kernel
theorem dL_law_1590 : decode cL_law 1590 = .ok (.aload_n 0, 1) := by decide +kernel
theorem dL_law_1591 : decode cL_law 1591 = .ok (.iload_n 3, 1) := by decide +kernel
theorem dL_law_1592 : decode cL_law 1592 = .ok (.iconst 1, 1) := by decide +kernel
theorem dL_law_1593 : decode cL_law 1593 = .ok (.iadd, 1) := by decide +kernel
theorem dL_law_1594 : decode cL_law 1594 = .ok (.iaload, 1) := by decide +kernel
theorem dL_law_1595 : decode cL_law 1595 = .ok (.invokevirtual 164, 3) := by decide +kernel
theorem dL_law_1598 : decode cL_law 1598 = .ok (.aload_n 2, 1) := by decide +kernel
theorem dL_law_1599 : decode cL_law 1599 = .ok (.aload_n 0, 1) := by decide +kernel
theorem dL_law_1600 : decode cL_law 1600 = .ok (.iload_n 3, 1) := by decide +kernel
theorem dL_law_1601 : decode cL_law 1601 = .ok (.iconst 1, 1) := by decide +kernel
theorem dL_law_1602 : decode cL_law 1602 = .ok (.iadd, 1) := by decide +kernel
theorem dL_law_1603 : decode cL_law 1603 = .ok (.iaload, 1) := by decide +kernel
theorem dL_law_1604 : decode cL_law 1604 = .ok (.invokevirtual 167, 3) := by decide +kernel
theorem dL_law_1607 : decode cL_law 1607 = .ok (.if_icmp .eq 5, 3) := by decide +kernel
theorem dL_law_1610 : decode cL_law 1610 = .ok (.iconst 0, 1) := by decide +kernel
theorem dL_law_1611 : decode cL_law 1611 = .ok (.ireturn, 1) := by decide +kernel
theorem dL_law_1612 : decode cL_law 1612 = .ok (.iinc 3 10, 3) := by decide +kernel
theorem dL_law_1615 : decode cL_law 1615 = .ok (.goto (-1597), 3) := by decide +kernel
theorem dL_law_1618 : decode cL_law 1618 = .ok (.iconst 1, 1) := by decide +kernel
theorem dL_law_1619 : decode cL_law 1619 = .ok (.ireturn, 1) := by decide +kernel
end
section
/-! THE LAYER: the whole world (the class's objects, its trial day, the reference) read as one memory of integers; rows that walk over it -/
abbrev InR (x : Int) : Prop := -2147483648 ≤ x ∧ x < 2147483648
abbrev InL (x : Int) : Prop := -9223372036854775808 ≤ x ∧ x < 9223372036854775808
def iv (x : Int) : Value := .int (Int32.ofInt x)
def jv (x : Int) : Value := .long (Int64.ofInt x)
noncomputable def b01 (P : Prop) : Int := @ite Int P (Classical.propDecidable P) 1 0
theorem b01_t {P : Prop} (h : P) : b01 P = 1 := by unfold b01; rw [if_pos h]
theorem b01_f {P : Prop} (h : ¬ P) : b01 P = 0 := by unfold b01; rw [if_neg h]
theorem b01_r (P : Prop) : b01 P = 0 ∨ b01 P = 1 := by
  by_cases h : P
  · exact Or.inr (b01_t h)
  · exact Or.inl (b01_f h)
theorem b01_e {P Q : Prop} (h : P ↔ Q) : b01 P = b01 Q := by rw [propext h]
theorem b01_1 {P : Prop} : b01 P = 1 ↔ P := by
  by_cases h : P
  · rw [b01_t h]; exact ⟨fun _ => h, fun _ => rfl⟩
  · rw [b01_f h]; exact ⟨fun q => by omega, fun q => absurd q h⟩
theorem b01_0 {P : Prop} : b01 P = 0 ↔ ¬ P := by
  by_cases h : P
  · rw [b01_t h]; exact ⟨fun q => by omega, fun q => absurd h q⟩
  · rw [b01_f h]; exact ⟨fun _ => h, fun _ => rfl⟩
theorem tI {x : Int} (h : InR x) : (Int32.ofInt x).toInt = x := Int32.toInt_ofInt_of_le (by have := h.1; omega) (by have := h.2; omega)
theorem tL {x : Int} (h : InL x) : (Int64.ofInt x).toInt = x := Int64.toInt_ofInt_of_le (by have := h.1; omega) (by have := h.2; omega)
theorem RL_ {x : Int} (h : InR x) : InL x := ⟨by have := h.1; omega, by have := h.2; omega⟩
theorem R_ {x : Int} (h0 : -2147483648 ≤ x) (h1 : x < 2147483648) : InR x := ⟨h0, h1⟩
theorem toR (x : Int32) : InR x.toInt := ⟨by have := x.le_toInt; omega, by have := x.toInt_lt; omega⟩
theorem ivT (x : Int32) : iv x.toInt = .int x := by unfold iv; rw [Int32.ofInt_toInt]
theorem clI {x : Int} (h0 : 0 ≤ x) (h1 : x < 2147483648) : (Int32.ofInt x).toNatClampNeg = x.toNat := Int32.toNatClampNeg_ofInt_of_le (by omega) (by omega)
theorem ltI {x y : Int} (hx : InR x) (hy : InR y) : Int32.ofInt x < Int32.ofInt y ↔ x < y := by rw [Int32.lt_iff_toInt_lt, tI hx, tI hy]
theorem leI {x y : Int} (hx : InR x) (hy : InR y) : Int32.ofInt x ≤ Int32.ofInt y ↔ x ≤ y := by rw [Int32.le_iff_toInt_le, tI hx, tI hy]
theorem eqI {x y : Int} (hx : InR x) (hy : InR y) : Int32.ofInt x = Int32.ofInt y ↔ x = y := by rw [← Int32.toInt_inj, tI hx, tI hy]
theorem z0I : (0 : Int32) = Int32.ofInt 0 := by decide
theorem r0I : InR 0 := by unfold InR; omega
theorem lt0I {x : Int} (hx : InR x) : Int32.ofInt x < 0 ↔ x < 0 := by rw [z0I]; exact ltI hx r0I
theorem gt0I {x : Int} (hx : InR x) : 0 < Int32.ofInt x ↔ 0 < x := by rw [z0I]; exact ltI r0I hx
theorem le0I {x : Int} (hx : InR x) : Int32.ofInt x ≤ 0 ↔ x ≤ 0 := by rw [z0I]; exact leI hx r0I
theorem ge0I {x : Int} (hx : InR x) : 0 ≤ Int32.ofInt x ↔ 0 ≤ x := by rw [z0I]; exact leI r0I hx
theorem eq0I {x : Int} (hx : InR x) : Int32.ofInt x = 0 ↔ x = 0 := by rw [z0I]; exact eqI hx r0I
theorem ltL {x y : Int} (hx : InL x) (hy : InL y) : Int64.ofInt x < Int64.ofInt y ↔ x < y := by rw [Int64.lt_iff_toInt_lt, tL hx, tL hy]
theorem eqL {x y : Int} (hx : InL x) (hy : InL y) : Int64.ofInt x = Int64.ofInt y ↔ x = y := by rw [← Int64.toInt_inj, tL hx, tL hy]
theorem inI {x : Int} {n : Nat} (h0 : 0 ≤ x) (h1 : x < n) (hn : n < 2147483648) : vp_in (Int32.ofInt x) n := by
  unfold vp_in
  rw [clI h0 (by omega), lt0I ⟨by omega, by omega⟩]
  omega
/-- how two longs stand -/
def cmpI (x y : Int) : Int := if y < x then 1 else if x = y then 0 else -1
theorem cmpI_ok {x y : Int} (hx : InL x) (hy : InL y) : lg_cmp (Int64.ofInt x) (Int64.ofInt y) = Int32.ofInt (cmpI x y) := by
  unfold lg_cmp cmpI
  by_cases h1 : y < x
  · rw [if_pos h1, if_pos ((ltL hy hx).mpr h1)]; decide
  · rw [if_neg h1, if_neg (fun h => h1 ((ltL hy hx).mp h))]
    by_cases h2 : x = y
    · rw [if_pos h2, if_pos ((eqL hx hy).mpr h2)]; decide
    · rw [if_neg h2, if_neg (fun h => h2 ((eqL hx hy).mp h))]; decide
theorem cmpI_r (x y : Int) : InR (cmpI x y) := by
  unfold cmpI InR
  split
  · omega
  · split <;> omega
theorem cmpI_lt {x y : Int} : cmpI x y < 0 ↔ x < y := by unfold cmpI; split; omega; split <;> omega
theorem cmpI_gt {x y : Int} : 0 < cmpI x y ↔ y < x := by unfold cmpI; split; omega; split <;> omega
theorem cmpI_eq {x y : Int} : cmpI x y = 0 ↔ x = y := by unfold cmpI; split; omega; split <;> omega
theorem cmpI_le {x y : Int} : cmpI x y ≤ 0 ↔ x ≤ y := by unfold cmpI; split; omega; split <;> omega
theorem cmpI_ge {x y : Int} : 0 ≤ cmpI x y ↔ y ≤ x := by unfold cmpI; split; omega; split <;> omega
/-- a day's memory: cell kind, row, place; the memory: who (0 today, 1 trial, 2 the rest of the class, 3 the reference) -/
abbrev DM : Type := Nat → Int → Int → Int
abbrev Mem : Type := Nat → DM
def fup (f : Int → Int) (i v : Int) : Int → Int := fun j => if j = i then v else f j
def vup (V : DM) (k : Nat) (r i v : Int) : DM := fun k' r' => if k' = k ∧ r' = r then fup (V k r) i v else V k' r'
def mst (M : Mem) (d : Nat) (V : DM) : Mem := fun e => if e = d then V else M e
theorem fup_s (f : Int → Int) (i v : Int) : fup f i v i = v := if_pos rfl
theorem fup_o (f : Int → Int) {i j : Int} (v : Int) (h : j ≠ i) : fup f i v j = f j := if_neg h
theorem mst_s (M : Mem) (d : Nat) (V : DM) : mst M d V d = V := if_pos rfl
theorem mst_o (M : Mem) {d e : Nat} (V : DM) (h : e ≠ d) : mst M d V e = M e := if_neg h
theorem mst_m (M : Mem) (d : Nat) (V U : DM) : mst (mst M d V) d U = mst M d U := by
  funext e; unfold mst; split <;> rfl
theorem mst_i (M : Mem) (d : Nat) : mst M d (M d) = M := by
  funext e; unfold mst; split
  · next h => rw [h]
  · rfl
theorem vup_s (V : DM) (k : Nat) (r i v : Int) : vup V k r i v k r = fup (V k r) i v := if_pos ⟨rfl, rfl⟩
theorem vup_k (V : DM) {k k' : Nat} (r i v : Int) (h : k' ≠ k) (r' : Int) : vup V k r i v k' r' = V k' r' := if_neg (fun q => h q.1)
theorem vup_r (V : DM) (k : Nat) {r r' : Int} (i v : Int) (h : r' ≠ r) : vup V k r i v k r' = V k r' := if_neg (fun q => h q.2)
theorem vup_v (V : DM) (k : Nat) (r i v k' : Int) : vup V k r i v k r i = v := by rw [vup_s, fup_s]
theorem vup_j (V : DM) (k : Nat) (r : Int) {i j : Int} (v : Int) (h : j ≠ i) : vup V k r i v k r j = V k r j := by rw [vup_s, fup_o _ _ h]
def VR (V : DM) : Prop := ∀ k r i, InR (V k r i)
def MR (M : Mem) : Prop := ∀ d, VR (M d)
theorem VR.up {V : DM} (h : VR V) {k : Nat} {r i v : Int} (hv : InR v) : VR (vup V k r i v) := by
  intro k' r' j
  unfold vup
  split
  · unfold fup; split
    · exact hv
    · exact h _ _ _
  · exact h _ _ _
theorem MR.mst {M : Mem} (h : MR M) {d : Nat} {V : DM} (hV : VR V) : MR (mst M d V) := by
  intro e
  show VR (if e = d then V else M e)
  split
  · exact hV
  · exact h _
/-- the static side of a world: classes' numbers and slots; addresses; the classes of int[], boolean[], int[][] -/
abbrev SW : Type := va_G × (Nat → Nat → Int → Nat) × ClassId × ClassId × ClassId
/-- a cell's shape: 0 ints, 1 booleans, 2 rows, 3 an object; length or class; fields (0 int, 1 long, 2 who, cell) -/
abbrev SH : Type := Nat × Nat × List (Nat × Nat × Nat)
def rv (S : SW) (d k : Nat) (r : Int) : Value := .ref (S.2.1 d k r)
def fv (S : SW) (q : Nat × Nat × Nat) (x : Int) : Value := if q.1 = 0 then iv x else if q.1 = 1 then jv x else rv S q.2.1 q.2.2 0
def flds (S : SW) : List (Nat × Nat × Nat) → (Int → Int) → Int → List Value
  | [], _, _ => []
  | q :: t, f, k => fv S q (f k) :: flds S t f (k + 1)
def cellOf (S : SW) (sh : SH) (f : Int → Int) : va_E :=
  if sh.1 = 0 then .inl (S.2.2.1, sh.2.1, .inl (fun i => Int32.ofInt (f i)))
  else if sh.1 = 1 then .inl (S.2.2.2.1, sh.2.1, .inl (fun i => Int32.ofInt (f i)))
  else if sh.1 = 2 then .inl (S.2.2.2.2, sh.2.1, .inr (.inr (.inr (.inr (fun i => if i < sh.2.1 then some (S.2.1 (sh.2.2.headD (0, 0, 0)).2.1 (sh.2.2.headD (0, 0, 0)).2.2 i) else none)))))
  else .inr (sh.2.1, flds S sh.2.2 f 0)
def dayShp (d k : Nat) : SH := match k with
  | 0 => (3, 1, [(2, d, 1), (2, d, 8), (2, d, 13), (2, d, 14), (2, d, 15), (2, d, 16), (2, d, 17), (2, d, 18), (2, d, 19), (0, 0, 0), (0, 0, 0), (0, 0, 0), (0, 0, 0)])
  | 1 => (3, 6, [(2, d, 2), (2, d, 3), (2, d, 4), (2, d, 5), (2, d, 6), (0, 0, 0), (0, 0, 0), (0, 0, 0), (0, 0, 0)])
  | 2 => (0, 4, [])
  | 3 => (0, 4, [])
  | 4 => (0, 4, [])
  | 5 => (0, 4, [])
  | 6 => (2, 4, [(0, d, 7)])
  | 7 => (0, 8, [])
  | 8 => (3, 0, [(2, d, 9), (2, d, 10), (2, d, 11), (2, d, 12), (0, 0, 0)])
  | 9 => (0, 10, [])
  | 10 => (0, 10, [])
  | 11 => (0, 10, [])
  | 12 => (0, 10, [])
  | 13 => (0, 4, [])
  | 14 => (0, 4, [])
  | 15 => (0, 4, [])
  | 16 => (0, 10, [])
  | 17 => (0, 10, [])
  | 18 => (0, 10, [])
  | 19 => (0, 10, [])
  | _ => (9, 0, [])
def clsShp (k : Nat) : SH := match k with
  | 0 => (3, 7, [(2, 0, 0), (2, 2, 1), (2, 2, 5), (2, 2, 10), (2, 2, 12), (0, 0, 0), (0, 0, 0)])
  | 1 => (3, 4, [(2, 1, 0), (2, 2, 2), (2, 2, 3), (2, 2, 4), (0, 0, 0), (0, 0, 0), (0, 0, 0)])
  | 2 => (0, 4, [])
  | 3 => (1, 4, [])
  | 4 => (0, 4, [])
  | 5 => (3, 5, [(2, 2, 6), (2, 2, 8), (2, 2, 9)])
  | 6 => (2, 4, [(0, 2, 7)])
  | 7 => (0, 60, [])
  | 8 => (0, 4, [])
  | 9 => (0, 4, [])
  | 10 => (3, 3, [(2, 2, 11), (0, 0, 0), (0, 0, 0)])
  | 11 => (0, 20, [])
  | 12 => (3, 2, [(2, 2, 13), (2, 2, 14)])
  | 13 => (0, 4, [])
  | 14 => (0, 4, [])
  | _ => (9, 0, [])
def mdlShp (k : Nat) : SH := match k with
  | 0 => (3, 8, [(0, 0, 0), (0, 0, 0), (0, 0, 0), (2, 3, 4), (2, 3, 5), (2, 3, 6), (2, 3, 7), (2, 3, 8), (0, 0, 0), (0, 0, 0), (0, 0, 0), (0, 0, 0), (0, 0, 0), (0, 0, 0), (2, 3, 15), (0, 0, 0), (2, 3, 17), (2, 3, 18), (2, 3, 19), (2, 3, 20), (2, 3, 21), (0, 0, 0), (2, 3, 23), (2, 3, 24), (2, 3, 25), (2, 3, 26), (2, 3, 27), (2, 3, 28), (2, 3, 29), (2, 3, 30), (2, 3, 31), (2, 3, 32), (1, 0, 0), (1, 0, 0), (2, 3, 35), (2, 3, 36), (2, 3, 37), (2, 3, 38), (0, 0, 0)])
  | 4 => (0, 4, [])
  | 5 => (0, 4, [])
  | 6 => (0, 4, [])
  | 7 => (0, 4, [])
  | 8 => (0, 32, [])
  | 15 => (0, 16, [])
  | 17 => (0, 10, [])
  | 18 => (0, 10, [])
  | 19 => (0, 10, [])
  | 20 => (0, 10, [])
  | 21 => (0, 4, [])
  | 23 => (0, 10, [])
  | 24 => (0, 10, [])
  | 25 => (0, 10, [])
  | 26 => (0, 10, [])
  | 27 => (0, 4, [])
  | 28 => (0, 4, [])
  | 29 => (0, 32, [])
  | 30 => (0, 4, [])
  | 31 => (0, 4, [])
  | 32 => (0, 4, [])
  | 35 => (0, 4, [])
  | 36 => (0, 4, [])
  | 37 => (0, 240, [])
  | 38 => (0, 60, [])
  | _ => (9, 0, [])
def shp (d k : Nat) : SH := if d < 2 then dayShp d k else if d = 2 then clsShp k else mdlShp k
def allPos : List (Nat × Nat × Int) := [(0, 0, 0), (0, 1, 0), (0, 2, 0), (0, 3, 0), (0, 4, 0), (0, 5, 0), (0, 6, 0), (0, 7, 0), (0, 7, 1), (0, 7, 2), (0, 7, 3), (0, 8, 0), (0, 9, 0), (0, 10, 0), (0, 11, 0), (0, 12, 0), (0, 13, 0), (0, 14, 0), (0, 15, 0), (0, 16, 0), (0, 17, 0), (0, 18, 0), (0, 19, 0), (1, 0, 0), (1, 1, 0), (1, 2, 0), (1, 3, 0), (1, 4, 0), (1, 5, 0), (1, 6, 0), (1, 7, 0), (1, 7, 1), (1, 7, 2), (1, 7, 3), (1, 8, 0), (1, 9, 0), (1, 10, 0), (1, 11, 0), (1, 12, 0), (1, 13, 0), (1, 14, 0), (1, 15, 0), (1, 16, 0), (1, 17, 0), (1, 18, 0), (1, 19, 0), (2, 0, 0), (2, 1, 0), (2, 2, 0), (2, 3, 0), (2, 4, 0), (2, 5, 0), (2, 6, 0), (2, 7, 0), (2, 7, 1), (2, 7, 2), (2, 7, 3), (2, 8, 0), (2, 9, 0), (2, 10, 0), (2, 11, 0), (2, 12, 0), (2, 13, 0), (2, 14, 0), (3, 0, 0), (3, 4, 0), (3, 5, 0), (3, 6, 0), (3, 7, 0), (3, 8, 0), (3, 15, 0), (3, 17, 0), (3, 18, 0), (3, 19, 0), (3, 20, 0), (3, 21, 0), (3, 23, 0), (3, 24, 0), (3, 25, 0), (3, 26, 0), (3, 27, 0), (3, 28, 0), (3, 29, 0), (3, 30, 0), (3, 31, 0), (3, 32, 0), (3, 35, 0), (3, 36, 0), (3, 37, 0), (3, 38, 0)]
theorem shpD {d : Nat} (hd : d < 2) (k : Nat) : shp d k = dayShp d k := if_pos hd
theorem d01 {d : Nat} (hd : d < 2) : d = 0 ∨ d = 1 := by omega
/-- an array of ints: where it lies, how long it is -/
def AR (d k : Nat) (r : Int) (n : Nat) : Prop := shp d k = (0, n, []) ∧ (d, k, r) ∈ allPos
/-- an object: its class, its fields -/
def OB (d k c : Nat) (fs : List (Nat × Nat × Nat)) : Prop := shp d k = (3, c, fs) ∧ (d, k, 0) ∈ allPos
/-- an array of rows -/
def AQ (d k n k2 : Nat) : Prop := shp d k = (2, n, [(0, d, k2)]) ∧ (d, k, 0) ∈ allPos
theorem oD_0 {d : Nat} (hd : d < 2) : OB d 0 1 (dayShp d 0).2.2 := by
  rcases d01 hd with rfl | rfl
  · exact ⟨rfl, by decide⟩
  · exact ⟨rfl, by decide⟩
theorem oD_1 {d : Nat} (hd : d < 2) : OB d 1 6 (dayShp d 1).2.2 := by
  rcases d01 hd with rfl | rfl
  · exact ⟨rfl, by decide⟩
  · exact ⟨rfl, by decide⟩
theorem aD_2 {d : Nat} (hd : d < 2) : AR d 2 0 4 := by
  rcases d01 hd with rfl | rfl
  · exact ⟨rfl, by decide⟩
  · exact ⟨rfl, by decide⟩
theorem aD_3 {d : Nat} (hd : d < 2) : AR d 3 0 4 := by
  rcases d01 hd with rfl | rfl
  · exact ⟨rfl, by decide⟩
  · exact ⟨rfl, by decide⟩
theorem aD_4 {d : Nat} (hd : d < 2) : AR d 4 0 4 := by
  rcases d01 hd with rfl | rfl
  · exact ⟨rfl, by decide⟩
  · exact ⟨rfl, by decide⟩
theorem aD_5 {d : Nat} (hd : d < 2) : AR d 5 0 4 := by
  rcases d01 hd with rfl | rfl
  · exact ⟨rfl, by decide⟩
  · exact ⟨rfl, by decide⟩
theorem qD_6 {d : Nat} (hd : d < 2) : AQ d 6 4 7 := by
  rcases d01 hd with rfl | rfl
  · exact ⟨rfl, by decide⟩
  · exact ⟨rfl, by decide⟩
theorem oD_8 {d : Nat} (hd : d < 2) : OB d 8 0 (dayShp d 8).2.2 := by
  rcases d01 hd with rfl | rfl
  · exact ⟨rfl, by decide⟩
  · exact ⟨rfl, by decide⟩
theorem aD_9 {d : Nat} (hd : d < 2) : AR d 9 0 10 := by
  rcases d01 hd with rfl | rfl
  · exact ⟨rfl, by decide⟩
  · exact ⟨rfl, by decide⟩
theorem aD_10 {d : Nat} (hd : d < 2) : AR d 10 0 10 := by
  rcases d01 hd with rfl | rfl
  · exact ⟨rfl, by decide⟩
  · exact ⟨rfl, by decide⟩
theorem aD_11 {d : Nat} (hd : d < 2) : AR d 11 0 10 := by
  rcases d01 hd with rfl | rfl
  · exact ⟨rfl, by decide⟩
  · exact ⟨rfl, by decide⟩
theorem aD_12 {d : Nat} (hd : d < 2) : AR d 12 0 10 := by
  rcases d01 hd with rfl | rfl
  · exact ⟨rfl, by decide⟩
  · exact ⟨rfl, by decide⟩
theorem aD_13 {d : Nat} (hd : d < 2) : AR d 13 0 4 := by
  rcases d01 hd with rfl | rfl
  · exact ⟨rfl, by decide⟩
  · exact ⟨rfl, by decide⟩
theorem aD_14 {d : Nat} (hd : d < 2) : AR d 14 0 4 := by
  rcases d01 hd with rfl | rfl
  · exact ⟨rfl, by decide⟩
  · exact ⟨rfl, by decide⟩
theorem aD_15 {d : Nat} (hd : d < 2) : AR d 15 0 4 := by
  rcases d01 hd with rfl | rfl
  · exact ⟨rfl, by decide⟩
  · exact ⟨rfl, by decide⟩
theorem aD_16 {d : Nat} (hd : d < 2) : AR d 16 0 10 := by
  rcases d01 hd with rfl | rfl
  · exact ⟨rfl, by decide⟩
  · exact ⟨rfl, by decide⟩
theorem aD_17 {d : Nat} (hd : d < 2) : AR d 17 0 10 := by
  rcases d01 hd with rfl | rfl
  · exact ⟨rfl, by decide⟩
  · exact ⟨rfl, by decide⟩
theorem aD_18 {d : Nat} (hd : d < 2) : AR d 18 0 10 := by
  rcases d01 hd with rfl | rfl
  · exact ⟨rfl, by decide⟩
  · exact ⟨rfl, by decide⟩
theorem aD_19 {d : Nat} (hd : d < 2) : AR d 19 0 10 := by
  rcases d01 hd with rfl | rfl
  · exact ⟨rfl, by decide⟩
  · exact ⟨rfl, by decide⟩
theorem aD_7 {d : Nat} (hd : d < 2) {r : Int} (h0 : 0 ≤ r) (h1 : r < 4) : AR d 7 r 8 := by
  have h : r = 0 ∨ r = 1 ∨ r = 2 ∨ r = 3 := by omega
  rcases d01 hd with rfl | rfl <;> rcases h with rfl | rfl | rfl | rfl <;> exact ⟨rfl, by decide⟩
theorem oC_0 : OB 2 0 7 (clsShp 0).2.2 := ⟨rfl, by decide⟩
theorem oC_1 : OB 2 1 4 (clsShp 1).2.2 := ⟨rfl, by decide⟩
theorem aC_2 : AR 2 2 0 4 := ⟨rfl, by decide⟩
theorem aC_4 : AR 2 4 0 4 := ⟨rfl, by decide⟩
theorem oC_5 : OB 2 5 5 (clsShp 5).2.2 := ⟨rfl, by decide⟩
theorem qC_6 : AQ 2 6 4 7 := ⟨rfl, by decide⟩
theorem aC_8 : AR 2 8 0 4 := ⟨rfl, by decide⟩
theorem aC_9 : AR 2 9 0 4 := ⟨rfl, by decide⟩
theorem oC_10 : OB 2 10 3 (clsShp 10).2.2 := ⟨rfl, by decide⟩
theorem aC_11 : AR 2 11 0 20 := ⟨rfl, by decide⟩
theorem oC_12 : OB 2 12 2 (clsShp 12).2.2 := ⟨rfl, by decide⟩
theorem aC_13 : AR 2 13 0 4 := ⟨rfl, by decide⟩
theorem aC_14 : AR 2 14 0 4 := ⟨rfl, by decide⟩
theorem oM_0 : OB 3 0 8 (mdlShp 0).2.2 := ⟨rfl, by decide⟩
theorem aM_4 : AR 3 4 0 4 := ⟨rfl, by decide⟩
theorem aM_5 : AR 3 5 0 4 := ⟨rfl, by decide⟩
theorem aM_6 : AR 3 6 0 4 := ⟨rfl, by decide⟩
theorem aM_7 : AR 3 7 0 4 := ⟨rfl, by decide⟩
theorem aM_8 : AR 3 8 0 32 := ⟨rfl, by decide⟩
theorem aM_15 : AR 3 15 0 16 := ⟨rfl, by decide⟩
theorem aM_17 : AR 3 17 0 10 := ⟨rfl, by decide⟩
theorem aM_18 : AR 3 18 0 10 := ⟨rfl, by decide⟩
theorem aM_19 : AR 3 19 0 10 := ⟨rfl, by decide⟩
theorem aM_20 : AR 3 20 0 10 := ⟨rfl, by decide⟩
theorem aM_21 : AR 3 21 0 4 := ⟨rfl, by decide⟩
theorem aM_23 : AR 3 23 0 10 := ⟨rfl, by decide⟩
theorem aM_24 : AR 3 24 0 10 := ⟨rfl, by decide⟩
theorem aM_25 : AR 3 25 0 10 := ⟨rfl, by decide⟩
theorem aM_26 : AR 3 26 0 10 := ⟨rfl, by decide⟩
theorem aM_27 : AR 3 27 0 4 := ⟨rfl, by decide⟩
theorem aM_28 : AR 3 28 0 4 := ⟨rfl, by decide⟩
theorem aM_29 : AR 3 29 0 32 := ⟨rfl, by decide⟩
theorem aM_30 : AR 3 30 0 4 := ⟨rfl, by decide⟩
theorem aM_31 : AR 3 31 0 4 := ⟨rfl, by decide⟩
theorem aM_32 : AR 3 32 0 4 := ⟨rfl, by decide⟩
theorem aM_35 : AR 3 35 0 4 := ⟨rfl, by decide⟩
theorem aM_36 : AR 3 36 0 4 := ⟨rfl, by decide⟩
theorem aM_37 : AR 3 37 0 240 := ⟨rfl, by decide⟩
theorem aM_38 : AR 3 38 0 60 := ⟨rfl, by decide⟩
theorem aC_7 {r : Int} (h0 : 0 ≤ r) (h1 : r < 4) : AR 2 7 r 60 := by
  have h : r = 0 ∨ r = 1 ∨ r = 2 ∨ r = 3 := by omega
  rcases h with rfl | rfl | rfl | rfl <;> exact ⟨rfl, by decide⟩
theorem bC_3 : shp 2 3 = (1, 4, []) ∧ ((2, 3, 0) : Nat × Nat × Int) ∈ allPos := ⟨rfl, by decide⟩
def wsOf (S : SW) (M : Mem) : va_W := allPos.map (fun q => (S.2.1 q.1 q.2.1 q.2.2, cellOf S (shp q.1 q.2.1) (M q.1 q.2.1 q.2.2)))
def tysOf (S : SW) : List (ClassId × FieldType) := [(S.2.2.1, .int), (S.2.2.2.1, .boolean), (S.2.2.2.2, .array .int)]
def SOk (S : SW) : Prop := ∀ p ∈ allPos, ∀ q ∈ allPos, S.2.1 p.1 p.2.1 p.2.2 = S.2.1 q.1 q.2.1 q.2.2 → p = q
def wsA (S : SW) : Nat → Prop := fun a => ∃ q ∈ allPos, a = S.2.1 q.1 q.2.1 q.2.2
theorem pos_nd : allPos.Nodup := by decide +kernel
theorem pos_inj {i j : Nat} {p : Nat × Nat × Int} (hi : allPos[i]? = some p) (hj : allPos[j]? = some p) : i = j := by
  have h1 := (List.getElem?_eq_some_iff.mp hi).1
  exact (List.getElem?_inj h1 pos_nd).mp (hi.trans hj.symm)
theorem ws_get {d k : Nat} {r : Int} (h : (d, k, r) ∈ allPos) (S : SW) (M : Mem) : ∃ j : Nat, allPos[j]? = some (d, k, r) ∧ (wsOf S M)[j]? = some (S.2.1 d k r, cellOf S (shp d k) (M d k r)) := by
  obtain ⟨j, hj⟩ := List.getElem?_of_mem h
  exact ⟨j, hj, by unfold wsOf; rw [List.getElem?_map, hj]; rfl⟩
theorem ws_set {d k : Nat} {r : Int} {j : Nat} (hj : allPos[j]? = some (d, k, r)) (S : SW) (M : Mem) (i v : Int) : (wsOf S M).set j (S.2.1 d k r, cellOf S (shp d k) (fup (M d k r) i v)) = wsOf S (mst M d (vup (M d) k r i v)) := by
  apply List.ext_getElem?
  intro n
  by_cases hn : n = j
  · subst hn
    have hlt := (List.getElem?_eq_some_iff.mp hj).1
    rw [List.getElem?_set_self (by unfold wsOf; rw [List.length_map]; exact hlt)]
    unfold wsOf
    rw [List.getElem?_map, hj]
    show some _ = some (_, cellOf S (shp d k) (mst M d (vup (M d) k r i v) d k r))
    rw [mst_s, vup_s]
  · rw [List.getElem?_set_ne (Ne.symm hn)]
    unfold wsOf
    rw [List.getElem?_map, List.getElem?_map]
    cases hq : allPos[n]? with
    | none => rfl
    | some q =>
      obtain ⟨d', k', r'⟩ := q
      have hne : ¬ (d' = d ∧ k' = k ∧ r' = r) := by
        rintro ⟨rfl, rfl, rfl⟩
        exact hn (pos_inj hq hj)
      show some (_, cellOf S (shp d' k') (M d' k' r')) = some (_, cellOf S (shp d' k') (mst M d (vup (M d) k r i v) d' k' r'))
      have e : mst M d (vup (M d) k r i v) d' k' r' = M d' k' r' := by
        unfold mst
        split
        · next h =>
          subst h
          exact if_neg (fun q => hne ⟨rfl, q.1, q.2⟩)
        · rfl
      rw [e]
theorem ws_D {S : SW} {A : Nat → Prop} (hS : SOk S) (hA : ∀ q ∈ allPos, A (S.2.1 q.1 q.2.1 q.2.2)) (M : Mem) : va_D A (wsOf S M) := by
  have key : ∀ (j : Nat) (x : Nat × va_E), (wsOf S M)[j]? = some x → ∃ q, allPos[j]? = some q ∧ x.1 = S.2.1 q.1 q.2.1 q.2.2 := by
    intro j x hx
    unfold wsOf at hx
    rw [List.getElem?_map] at hx
    cases hq : allPos[j]? with
    | none => rw [hq] at hx; cases hx
    | some q => rw [hq] at hx; cases hx; exact ⟨q, rfl, rfl⟩
  refine ⟨fun i j x y hi hj hxy => ?_, fun j x hx => ?_⟩
  · obtain ⟨p, h1, h2⟩ := key i x hi
    obtain ⟨q, h3, h4⟩ := key j y hj
    have e := hS p (List.mem_of_getElem? h1) q (List.mem_of_getElem? h3) (by rw [← h2, ← h4]; exact hxy)
    subst e
    exact pos_inj h1 h3
  · obtain ⟨q, h1, h2⟩ := key j x hx
    rw [h2]
    exact hA q (List.mem_of_getElem? h1)
theorem flds_get (S : SW) : ∀ (fs : List (Nat × Nat × Nat)) (f : Int → Int) (k : Int) (n : Nat), (flds S fs f k)[n]? = fs[n]?.map (fun q => fv S q (f (k + n)))
  | [], _, _, n => by simp [flds]
  | q :: t, f, k, 0 => by simp [flds]
  | q :: t, f, k, n + 1 => by
    rw [flds, List.getElem?_cons_succ, List.getElem?_cons_succ, flds_get S t f (k + 1) n]
    congr 2
    funext x
    congr 2
    omega
theorem flds_set {S : SW} {fs : List (Nat × Nat × Nat)} {f : Int → Int} {n : Nat} {q : Nat × Nat × Nat} {v : Int} (hq : fs[n]? = some q) : (flds S fs f 0).set n (fv S q v) = flds S fs (fup f n v) 0 := by
  apply List.ext_getElem?
  intro j
  have hlt : n < (flds S fs f 0).length := by
    have h1 : (flds S fs f 0)[n]? = some (fv S q (f (0 + n))) := by rw [flds_get, hq]; rfl
    exact (List.getElem?_eq_some_iff.mp h1).1
  rw [flds_get]
  by_cases h : j = n
  · subst h
    rw [List.getElem?_set_self hlt, hq]
    show some _ = some (fv S q (fup f j v (0 + j)))
    rw [show (0 : Int) + (j : Int) = j by omega, fup_s]
  · rw [List.getElem?_set_ne (Ne.symm h), flds_get]
    congr 1
    funext x
    rw [fup_o]
    omega
end
section
/-! THE LAYER, second part: the judgement PW, contracts PM, and rows -/
def tbl0 : List Cond := lw_tbl.filter goodWord
def nst : List Cond := tables_1.filter (fun w => match w with | .methodLinkNest _ _ _ _ => true | _ => false)
theorem inT {w : Cond} (i : Nat) (h : tables_1[i]? = some w) (hg : goodWord w = true) : w ∈ tbl0 := List.mem_filter.mpr ⟨List.mem_append_right _ (List.mem_of_getElem? h), hg⟩
theorem inP {w : Cond} (i : Nat) (h : (k2_sels lw_privs)[i]? = some w) (hg : goodWord w = true) : w ∈ tbl0 := List.mem_filter.mpr ⟨List.mem_append_left _ (List.mem_of_getElem? h), hg⟩
theorem inN {a : String} {n : Nat} {y : MethodName} {h : String} (i : Nat) (hh : tables_1[i]? = some (.methodLinkNest a n y h)) : Cond.methodLinkNest a n y h ∈ nst := List.mem_filter.mpr ⟨List.mem_of_getElem? hh, rfl⟩
theorem nst_form {w : Cond} (h : w ∈ nst) : ∃ a n y b, w = .methodLinkNest a n y b := by
  have h2 := (List.mem_filter.mp h).2
  cases w <;> first | exact ⟨_, _, _, _, rfl⟩ | cases h2
def nestOk (U : State) : Prop := ∀ w ∈ nst, va_Nw w U
theorem nest_warm {s U : State} (hW : s.WarmedH U.vm) (h : nestOk s) : nestOk U := by
  intro w hw
  obtain ⟨a, n, y, b, rfl⟩ := nst_form hw
  exact va_Nw.warmM hW (h _ hw)
theorem nest_same {s U : State} (e : s.vm = U.vm) (h : nestOk s) : nestOk U := by
  intro w hw
  obtain ⟨a, n, y, b, rfl⟩ := nst_form hw
  exact va_Nw.same rfl e (h _ hw)
/-- program, launch, env, room, state, method's number, its arguments, frames below, method, code, goal, cells that may change, cells and slots made, locals -/
abbrev PX : Type := Program × Launch × Env × Room × State × MethodId × Array Value × List Frame × Method × Code × (State → Prop) × (Nat → Prop) × Nat × Nat × Nat
def xR (X : PX) : Room := X.2.2.2.1
def xs (X : PX) : State := X.2.2.2.2.1
def xm (X : PX) : MethodId := X.2.2.2.2.2.1
def xa (X : PX) : Array Value := X.2.2.2.2.2.2.1
def xb (X : PX) : List Frame := X.2.2.2.2.2.2.2.1
def xM (X : PX) : Method := X.2.2.2.2.2.2.2.2.1
def xc (X : PX) : Code := X.2.2.2.2.2.2.2.2.2.1
def xQ (X : PX) : State → Prop := X.2.2.2.2.2.2.2.2.2.2.1
def xA (X : PX) : Nat → Prop := X.2.2.2.2.2.2.2.2.2.2.2.1
def xk (X : PX) : Nat := X.2.2.2.2.2.2.2.2.2.2.2.2.1
def xn (X : PX) : Nat := X.2.2.2.2.2.2.2.2.2.2.2.2.2.1
def xL (X : PX) : Nat := X.2.2.2.2.2.2.2.2.2.2.2.2.2.2
def xW (X : PX) (H : Heap) (locs : List Loc) (g : JFrame) : Prop := W X.1 X.2.1 X.2.2.1 (xR X) (xs X) (xm X) (xa X) (xb X) (xM X) (xc X) H locs (xk X) (xn X) (xQ X) g
def lvOf : Nat → List (Option Value) → List (Nat × Value)
  | _, [] => []
  | i, some v :: t => (i, v) :: lvOf (i + 1) t
  | i, none :: t => lvOf (i + 1) t
theorem lvOf_mem : ∀ (l : List (Option Value)) (i : Nat) (q : Nat × Value), q ∈ lvOf i l ↔ ∃ j, q.1 = i + j ∧ l[j]? = some (some q.2)
  | [], i, q => by simp [lvOf]
  | some v :: t, i, q => by
    rw [lvOf, List.mem_cons, lvOf_mem t (i + 1) q]
    constructor
    · rintro (rfl | ⟨j, h1, h2⟩)
      · exact ⟨0, rfl, rfl⟩
      · exact ⟨j + 1, by omega, h2⟩
    · rintro ⟨j, h1, h2⟩
      cases j with
      | zero => left; obtain ⟨a, b⟩ := q; simp at h1 h2; rw [h1, h2]
      | succ j => right; exact ⟨j, by omega, h2⟩
  | none :: t, i, q => by
    rw [lvOf, lvOf_mem t (i + 1) q]
    constructor
    · rintro ⟨j, h1, h2⟩
      exact ⟨j + 1, by omega, h2⟩
    · rintro ⟨j, h1, h2⟩
      cases j with
      | zero => simp at h2
      | succ j => exact ⟨j, by omega, h2⟩
def PW (X : PX) (S : SW) (M : Mem) (pc : Nat) (ls : List (Option Value)) (st : List Value) : Prop :=
  ls.length = xL X → MR M → ∀ (H : Heap) (locs : List Loc) (la : Array Slot), va_P S.1 vwCl (wsOf S M) H → va_S (xA X) (xs X).heap H locs → lv_has la (xL X) (lvOf 0 ls) → xW X H locs (F0 (xm X) pc la st)
def Cx (X : PX) (S : SW) (own : String) (cc : ByteArray) (f lo : Nat) : Prop :=
  X.1.tables.exec = Jvm.exec ∧ (xc X).code = cc ∧ (xc X).maxLocals = xL X ∧ (xs X).vm.findClass own = some (xm X).cls ∧ (∀ w ∈ tbl0, w.before (xa X) (xs X) = true) ∧ nestOk (xs X) ∧ va_K S.1 vwCl (tysOf S) (xs X) ∧ SOk S ∧ (∀ q ∈ allPos, xA X (S.2.1 q.1 q.2.1 q.2.2)) ∧ (xR X).frames = f ∧ (xR X).locals = lo ∧ xk X ≤ (xR X).cells ∧ xn X ≤ (xR X).slots
def wsA' (S : SW) : Nat → Prop := wsA S
def pwPc (S : SW) (as : List Value) (M : Mem) : Array Value → State → Prop := va_Pc as (fun U => va_P S.1 vwCl (wsOf S M) U.heap ∧ va_K S.1 vwCl (tysOf S) U ∧ nestOk U)
def pwQ (S : SW) (P : Option Value → Mem → Prop) : Array Value → State → Outcome → State → Prop := fun _ st oc t => (∃ (v : Option Value) (N : Mem), oc = .returned v ∧ P v N ∧ MR N ∧ va_P S.1 vwCl (wsOf S N) t.heap) ∧ va_F (wsA S) st t
def PM (l : Launch) (S : SW) (y : MethodName) (cc : ByteArray) (maxL : Nat) (ret : Option FieldType) (f lo : Nat) (as : List Value) (M : Mem) (P : Option Value → Mem → Prop) : Prop :=
  SOk S → MR M → Met l y (Cond.code y cc maxL ret :: tbl0) { frames := f, cells := 0, slots := 0, locals := lo } (pwPc S as M) (pwQ S P) 0 0 (wsA S)
/-- the end of a method's walk -/
def CR (X : PX) (S : SW) (P : Option Value → Mem → Prop) (ret : Option FieldType) : Prop :=
  xQ X = MQ (xb X) (pwQ S P) (xa X) (xs X) 0 0 (wsA S) ∧ xk X = 0 ∧ xn X = 0 ∧ xA X = wsA S ∧ (xM X).sig.returnType = ret ∧ (xM X).locks = false
theorem PM.of {l : Launch} {S : SW} {y : MethodName} {own : String} {cc : ByteArray} {maxL : Nat} {ret : Option FieldType} {f lo : Nat} {as : List Value} {M : Mem} {P : Option Value → Mem → Prop} (hy : plainName y.cls = true) (ho : y.cls = own) (ls : List (Option Value)) (hl : lvOf 0 ls = lv_args 0 as) (hn : ls.length = maxL) (hm : (lg_sl as).length ≤ maxL)
    (h : ∀ X : PX, X.2.1 = l → Cx X S own cc f lo → CR X S P ret → PW X S M 0 ls []) : PM l S y cc maxL ret f lo as M P := by
  intro hS hR
  subst ho
  refine Met.ofW (cc := cc) (maxL := maxL) (ret := ret) hy rfl ?_
  intro p e s m args below meth c s₁ B hml hv
  obtain ⟨rfl, hP, hK, hN⟩ := hv
  have hts := atoms_spec (ws := Cond.code y cc maxL ret :: tbl0) B.pre
  have hA : ∀ q ∈ allPos, wsA S (S.2.1 q.1 q.2.1 q.2.2) := fun q hq => ⟨q, hq, rfl⟩
  have k := h (p, l, e, (headSpec (Cond.code y cc maxL ret :: tbl0) { frames := f, cells := 0, slots := 0, locals := lo }).room, s, m, as.toArray, below, meth, c, MQ below (pwQ S P) as.toArray s 0 0 (wsA S), wsA S, 0, 0, maxL) rfl
    ⟨B.exec, B.bytes, hml, findClass_of_methodNamed B.named, fun w hw => hts w (List.mem_cons_of_mem _ hw), hN, hK, hS, hA, rfl, rfl, Nat.zero_le _, Nat.zero_le _⟩
    ⟨rfl, rfl, rfl, rfl, B.returns, B.notSynchronized⟩
  have hla := lv_entry as (n := maxL) hm
  rw [lg_entry_eq]
  exact k hn hR s.heap [] _ hP va_S.rf (by rw [hl]; exact hla)
section PWR
variable {X : PX} {S : SW} {M : Mem} {own : String} {cc : ByteArray} {f lo : Nat} {pc : Nat} {ls : List (Option Value)} {st : List Value} {P : Option Value → Mem → Prop}
theorem pw_at {pc2 : Nat} (h : pc = pc2) (k : PW X S M pc2 ls st) : PW X S M pc ls st := h ▸ k
theorem pw_mem {M2 : Mem} (h : M = M2) (k : PW X S M2 pc ls st) : PW X S M pc ls st := h ▸ k
/-- the memory seen from who -/
theorem pw_V (d : Nat) (k : PW X S (mst M d (M d)) pc ls st) : PW X S M pc ls st := by rw [mst_i] at k; exact k
theorem pw_R (k : MR M → PW X S M pc ls st) : PW X S M pc ls st := fun hn hR => k hR hn hR
theorem pw_ld {la : Array Slot} {i : Nat} {v : Value} (h : lv_has la (xL X) (lvOf 0 ls)) (hi : ls[i]? = some (some v)) : la[i]? = some (.val v) := h.2.2 (i, v) ((lvOf_mem ls 0 (i, v)).mpr ⟨i, by simp, hi⟩)
theorem pw_iload (C : Cx X S own cc f lo) {i : Nat} {x : Int} (hd : decode cc pc = .ok (.iload i, 2)) (hi : ls[i]? = some (some (iv x))) (k : PW X S M (pc + 2) ls (iv x :: st)) : PW X S M pc ls st :=
  fun hn hR H locs la hP hS hl => lv_iload C.1 C.2.1 hd (pw_ld hl hi) (k hn hR H locs la hP hS hl)
theorem pw_iload_n (C : Cx X S own cc f lo) {i : Fin 4} {x : Int} (hd : decode cc pc = .ok (.iload_n i, 1)) (hi : ls[(i : Nat)]? = some (some (iv x))) (k : PW X S M (pc + 1) ls (iv x :: st)) : PW X S M pc ls st :=
  fun hn hR H locs la hP hS hl => lv_iload_n C.1 C.2.1 hd rfl (pw_ld hl hi) (k hn hR H locs la hP hS hl)
theorem pw_lload (C : Cx X S own cc f lo) {i : Nat} {x : Int} (hd : decode cc pc = .ok (.lload i, 2)) (hi : ls[i]? = some (some (jv x))) (k : PW X S M (pc + 2) ls (jv x :: st)) : PW X S M pc ls st :=
  fun hn hR H locs la hP hS hl => lv_lload C.1 C.2.1 hd (pw_ld hl hi) (k hn hR H locs la hP hS hl)
theorem pw_lload_n (C : Cx X S own cc f lo) {i : Fin 4} {x : Int} (hd : decode cc pc = .ok (.lload_n i, 1)) (hi : ls[(i : Nat)]? = some (some (jv x))) (k : PW X S M (pc + 1) ls (jv x :: st)) : PW X S M pc ls st :=
  fun hn hR H locs la hP hS hl => lv_lload_n C.1 C.2.1 hd rfl (pw_ld hl hi) (k hn hR H locs la hP hS hl)
theorem pw_aload (C : Cx X S own cc f lo) {i a : Nat} (hd : decode cc pc = .ok (.aload i, 2)) (hi : ls[i]? = some (some (.ref a))) (k : PW X S M (pc + 2) ls (.ref a :: st)) : PW X S M pc ls st :=
  fun hn hR H locs la hP hS hl => lv_aload C.1 C.2.1 hd (pw_ld hl hi) (k hn hR H locs la hP hS hl)
theorem pw_aload_n (C : Cx X S own cc f lo) {i : Fin 4} {d k : Nat} {r : Int} (hd : decode cc pc = .ok (.aload_n i, 1)) (hi : ls[(i : Nat)]? = some (some (rv S d k r))) (kk : PW X S M (pc + 1) ls (rv S d k r :: st)) : PW X S M pc ls st :=
  fun hn hR H locs la hP hS hl => lv_aload_n C.1 C.2.1 hd rfl (pw_ld hl hi) (kk hn hR H locs la hP hS hl)
theorem pw_iconst (C : Cx X S own cc f lo) {n : Int} (hd : decode cc pc = .ok (.iconst n, 1)) (k : PW X S M (pc + 1) ls (iv n :: st)) : PW X S M pc ls st :=
  fun hn hR H locs la hP hS hl => lv_iconst C.1 C.2.1 hd rfl (k hn hR H locs la hP hS hl)
theorem pw_bipush (C : Cx X S own cc f lo) {n : Int} (hd : decode cc pc = .ok (.bipush n, 2)) (hv : (Int8.ofInt n).toInt32 = Int32.ofInt n) (k : PW X S M (pc + 2) ls (iv n :: st)) : PW X S M pc ls st :=
  fun hn hR H locs la hP hS hl => lv_bipush C.1 C.2.1 hd hv (k hn hR H locs la hP hS hl)
theorem pw_sipush (C : Cx X S own cc f lo) {n : Int} (hd : decode cc pc = .ok (.sipush n, 3)) (hv : (Int16.ofInt n).toInt32 = Int32.ofInt n) (k : PW X S M (pc + 3) ls (iv n :: st)) : PW X S M pc ls st :=
  fun hn hR H locs la hP hS hl => lv_sipush C.1 C.2.1 hd hv (k hn hR H locs la hP hS hl)
theorem pw_lconst0 (C : Cx X S own cc f lo) (hd : decode cc pc = .ok (.lconst 0, 1)) (k : PW X S M (pc + 1) ls (jv 0 :: st)) : PW X S M pc ls st :=
  fun hn hR H locs la hP hS hl => lv_lconst C.1 C.2.1 hd (v := Int64.ofInt 0) (by decide) (k hn hR H locs la hP hS hl)
theorem pw_lconst1 (C : Cx X S own cc f lo) (hd : decode cc pc = .ok (.lconst 1, 1)) (k : PW X S M (pc + 1) ls (jv 1 :: st)) : PW X S M pc ls st :=
  fun hn hR H locs la hP hS hl => lv_lconst C.1 C.2.1 hd (v := Int64.ofInt 1) (by decide) (k hn hR H locs la hP hS hl)
theorem pw_ldc2 (C : Cx X S own cc f lo) {ix : Nat} {v : Int64} {n : Int} (hw : Cond.constantLong own ix v ∈ tbl0) (hv : v = Int64.ofInt n) (hd : decode cc pc = .ok (.ldc2_w ix, 3)) (k : PW X S M (pc + 3) ls (jv n :: st)) : PW X S M pc ls st := by
  subst hv
  exact fun hn hR H locs la hP hS hl => lv_ldc2 C.1 C.2.1 C.2.2.2.1 (C.2.2.2.2.1 _ hw) hd (k hn hR H locs la hP hS hl)
theorem pw_ldc (C : Cx X S own cc f lo) {ix : Nat} {v : Int32} {n : Int} (hw : Cond.constant own ix v ∈ tbl0) (hv : v = Int32.ofInt n) (hd : decode cc pc = .ok (.ldc ix, 2)) (k : PW X S M (pc + 2) ls (iv n :: st)) : PW X S M pc ls st := by
  subst hv
  exact fun hn hR H locs la hP hS hl => lv_ldc C.1 C.2.1 C.2.2.2.1 (C.2.2.2.2.1 _ hw) hd (k hn hR H locs la hP hS hl)
theorem pw_iadd (C : Cx X S own cc f lo) {x y : Int} (hd : decode cc pc = .ok (.iadd, 1)) (k : PW X S M (pc + 1) ls (iv (x + y) :: st)) : PW X S M pc ls (iv y :: iv x :: st) :=
  fun hn hR H locs la hP hS hl => lv_iadd C.1 C.2.1 hd (by rw [← Int32.ofInt_add]; exact k hn hR H locs la hP hS hl)
theorem pw_isub (C : Cx X S own cc f lo) {x y : Int} (hd : decode cc pc = .ok (.isub, 1)) (k : PW X S M (pc + 1) ls (iv (x - y) :: st)) : PW X S M pc ls (iv y :: iv x :: st) :=
  fun hn hR H locs la hP hS hl => lv_isub C.1 C.2.1 hd (by rw [← Int32.ofInt_sub]; exact k hn hR H locs la hP hS hl)
theorem pw_imul (C : Cx X S own cc f lo) {x y : Int} (hd : decode cc pc = .ok (.imul, 1)) (k : PW X S M (pc + 1) ls (iv (x * y) :: st)) : PW X S M pc ls (iv y :: iv x :: st) :=
  fun hn hR H locs la hP hS hl => lv_imul C.1 C.2.1 hd (by rw [← Int32.ofInt_mul]; exact k hn hR H locs la hP hS hl)
theorem pw_ineg (C : Cx X S own cc f lo) {x : Int} (hd : decode cc pc = .ok (.ineg, 1)) (k : PW X S M (pc + 1) ls (iv (-x) :: st)) : PW X S M pc ls (iv x :: st) :=
  fun hn hR H locs la hP hS hl => lv_ineg C.1 C.2.1 hd (by rw [← Int32.ofInt_neg]; exact k hn hR H locs la hP hS hl)
theorem pw_ladd (C : Cx X S own cc f lo) {x y : Int} (hd : decode cc pc = .ok (.ladd, 1)) (k : PW X S M (pc + 1) ls (jv (x + y) :: st)) : PW X S M pc ls (jv y :: jv x :: st) :=
  fun hn hR H locs la hP hS hl => lv_ladd C.1 C.2.1 hd (by rw [← Int64.ofInt_add]; exact k hn hR H locs la hP hS hl)
theorem pw_lsub (C : Cx X S own cc f lo) {x y : Int} (hd : decode cc pc = .ok (.lsub, 1)) (k : PW X S M (pc + 1) ls (jv (x - y) :: st)) : PW X S M pc ls (jv y :: jv x :: st) :=
  fun hn hR H locs la hP hS hl => lv_lsub C.1 C.2.1 hd (by rw [← Int64.ofInt_sub]; exact k hn hR H locs la hP hS hl)
theorem pw_lmul (C : Cx X S own cc f lo) {x y : Int} (hd : decode cc pc = .ok (.lmul, 1)) (k : PW X S M (pc + 1) ls (jv (x * y) :: st)) : PW X S M pc ls (jv y :: jv x :: st) :=
  fun hn hR H locs la hP hS hl => lv_lmul C.1 C.2.1 hd (by rw [← Int64.ofInt_mul]; exact k hn hR H locs la hP hS hl)
theorem pw_lneg (C : Cx X S own cc f lo) {x : Int} (hd : decode cc pc = .ok (.lneg, 1)) (k : PW X S M (pc + 1) ls (jv (-x) :: st)) : PW X S M pc ls (jv x :: st) :=
  fun hn hR H locs la hP hS hl => lv_lneg C.1 C.2.1 hd (by rw [← Int64.ofInt_neg]; exact k hn hR H locs la hP hS hl)
theorem pw_i2l (C : Cx X S own cc f lo) {x : Int} (hx : InR x) (hd : decode cc pc = .ok (.i2l, 1)) (k : PW X S M (pc + 1) ls (jv x :: st)) : PW X S M pc ls (iv x :: st) :=
  fun hn hR H locs la hP hS hl => lv_i2l C.1 C.2.1 hd (v := Int64.ofInt x) (by rw [← Int64.ofInt_int32ToInt, tI hx]) (k hn hR H locs la hP hS hl)
def i8 (x : Int) : Int := (Int8.ofInt x).toInt
def i16 (x : Int) : Int := (Int16.ofInt x).toInt
theorem i8_R (x : Int) : InR (i8 x) := by
  have h1 := (Int8.ofInt x).le_toInt
  have h2 := (Int8.ofInt x).toInt_lt
  unfold i8
  exact ⟨by omega, by omega⟩
theorem i16_R (x : Int) : InR (i16 x) := by
  have h1 := (Int16.ofInt x).le_toInt
  have h2 := (Int16.ofInt x).toInt_lt
  unfold i16
  exact ⟨by omega, by omega⟩
theorem pw_i2b (C : Cx X S own cc f lo) {x : Int} (hd : decode cc pc = .ok (.i2b, 1)) (k : PW X S M (pc + 1) ls (iv (i8 x) :: st)) : PW X S M pc ls (iv x :: st) :=
  fun hn hR H locs la hP hS hl => lv_i2b C.1 C.2.1 hd (v := Int32.ofInt (i8 x)) (by unfold i8; rw [Int32.ofInt_int8ToInt, Int32.toInt8_ofInt]) (k hn hR H locs la hP hS hl)
theorem pw_i2s (C : Cx X S own cc f lo) {x : Int} (hd : decode cc pc = .ok (.i2s, 1)) (k : PW X S M (pc + 1) ls (iv (i16 x) :: st)) : PW X S M pc ls (iv x :: st) :=
  fun hn hR H locs la hP hS hl => lv_i2s C.1 C.2.1 hd (v := Int32.ofInt (i16 x)) (by unfold i16; rw [Int32.ofInt_int16ToInt, Int32.toInt16_ofInt]) (k hn hR H locs la hP hS hl)
theorem pw_idiv (C : Cx X S own cc f lo) {x y : Int} (h0 : 0 ≤ x) (h1 : x < 2147483648) (h2 : 0 < y) (h3 : y < 2147483648) (hd : decode cc pc = .ok (.idiv, 1)) (k : PW X S M (pc + 1) ls (iv (x / y) :: st)) : PW X S M pc ls (iv y :: iv x :: st) :=
  fun hn hR H locs la hP hS hl => lv_idiv C.1 C.2.1 hd (by rw [eq0I ⟨by omega, h3⟩]; omega) (by
    rw [← Int32.ofInt_tdiv (by rw [show Int32.minValue.toInt = -2147483648 by decide]; omega) (by rw [show Int32.maxValue.toInt = 2147483647 by decide]; omega) (by rw [show Int32.minValue.toInt = -2147483648 by decide]; omega) (by rw [show Int32.maxValue.toInt = 2147483647 by decide]; omega), Int.tdiv_eq_ediv_of_nonneg h0]
    exact k hn hR H locs la hP hS hl)
theorem pw_irem (C : Cx X S own cc f lo) {x y : Int} (h0 : 0 ≤ x) (h1 : x < 2147483648) (h2 : 0 < y) (h3 : y < 2147483648) (hd : decode cc pc = .ok (.irem, 1)) (k : PW X S M (pc + 1) ls (iv (x % y) :: st)) : PW X S M pc ls (iv y :: iv x :: st) :=
  fun hn hR H locs la hP hS hl => lv_irem C.1 C.2.1 hd (by rw [eq0I ⟨by omega, h3⟩]; omega) (by
    rw [← Int32.ofInt_tdiv (by rw [show Int32.minValue.toInt = -2147483648 by decide]; omega) (by rw [show Int32.maxValue.toInt = 2147483647 by decide]; omega) (by rw [show Int32.minValue.toInt = -2147483648 by decide]; omega) (by rw [show Int32.maxValue.toInt = 2147483647 by decide]; omega), Int.tdiv_eq_ediv_of_nonneg h0, ← Int32.ofInt_mul, ← Int32.ofInt_sub, show x - x / y * y = x % y by rw [Int.emod_def, Int.mul_comm]]
    exact k hn hR H locs la hP hS hl)
theorem pw_ldiv (C : Cx X S own cc f lo) {x y : Int} (hx : InL x) (h2 : 0 < y) (h3 : y < 9223372036854775808) (hd : decode cc pc = .ok (.ldiv, 1)) (k : PW X S M (pc + 1) ls (jv (x.tdiv y) :: st)) : PW X S M pc ls (jv y :: jv x :: st) :=
  fun hn hR H locs la hP hS hl => lv_ldiv C.1 C.2.1 hd (by rw [show (0 : Int64) = Int64.ofInt 0 by decide, eqL ⟨by omega, h3⟩ ⟨by omega, by omega⟩]; omega) (by
    have h4 := hx.1
    have h5 := hx.2
    rw [← Int64.ofInt_tdiv (by rw [show Int64.minValue.toInt = -9223372036854775808 by decide]; omega) (by rw [show Int64.maxValue.toInt = 9223372036854775807 by decide]; omega) (by rw [show Int64.minValue.toInt = -9223372036854775808 by decide]; omega) (by rw [show Int64.maxValue.toInt = 9223372036854775807 by decide]; omega)]
    exact k hn hR H locs la hP hS hl)
theorem pw_lrem (C : Cx X S own cc f lo) {x y : Int} (h0 : 0 ≤ x) (h1 : x < 9223372036854775808) (h2 : 0 < y) (h3 : y < 9223372036854775808) (hd : decode cc pc = .ok (.lrem, 1)) (k : PW X S M (pc + 1) ls (jv (x % y) :: st)) : PW X S M pc ls (jv y :: jv x :: st) :=
  fun hn hR H locs la hP hS hl => lv_lrem C.1 C.2.1 hd (by rw [show (0 : Int64) = Int64.ofInt 0 by decide, eqL ⟨by omega, h3⟩ ⟨by omega, by omega⟩]; omega) (by
    rw [← Int64.ofInt_tdiv (by rw [show Int64.minValue.toInt = -9223372036854775808 by decide]; omega) (by rw [show Int64.maxValue.toInt = 9223372036854775807 by decide]; omega) (by rw [show Int64.minValue.toInt = -9223372036854775808 by decide]; omega) (by rw [show Int64.maxValue.toInt = 9223372036854775807 by decide]; omega), Int.tdiv_eq_ediv_of_nonneg h0, ← Int64.ofInt_mul, ← Int64.ofInt_sub, show x - x / y * y = x % y by rw [Int.emod_def, Int.mul_comm]]
    exact k hn hR H locs la hP hS hl)
theorem pw_ixor (C : Cx X S own cc f lo) {x y z : Int} (h : Int32.ofInt x ^^^ Int32.ofInt y = Int32.ofInt z) (hd : decode cc pc = .ok (.ixor, 1)) (k : PW X S M (pc + 1) ls (iv z :: st)) : PW X S M pc ls (iv y :: iv x :: st) :=
  fun hn hR H locs la hP hS hl => lv_ixor C.1 C.2.1 hd (by rw [h]; exact k hn hR H locs la hP hS hl)
theorem pw_ior (C : Cx X S own cc f lo) {x y z : Int} (h : Int32.ofInt x ||| Int32.ofInt y = Int32.ofInt z) (hd : decode cc pc = .ok (.ior, 1)) (k : PW X S M (pc + 1) ls (iv z :: st)) : PW X S M pc ls (iv y :: iv x :: st) :=
  fun hn hR H locs la hP hS hl => lv_ior C.1 C.2.1 hd (by rw [h]; exact k hn hR H locs la hP hS hl)
theorem pw_iand (C : Cx X S own cc f lo) {x y z : Int} (h : Int32.ofInt x &&& Int32.ofInt y = Int32.ofInt z) (hd : decode cc pc = .ok (.iand, 1)) (k : PW X S M (pc + 1) ls (iv z :: st)) : PW X S M pc ls (iv y :: iv x :: st) :=
  fun hn hR H locs la hP hS hl => lv_iand C.1 C.2.1 hd (by rw [h]; exact k hn hR H locs la hP hS hl)
theorem pw_ishl (C : Cx X S own cc f lo) {x y z : Int} (h : Int32.ofInt x <<< (Int32.ofInt y &&& 31) = Int32.ofInt z) (hd : decode cc pc = .ok (.ishl, 1)) (k : PW X S M (pc + 1) ls (iv z :: st)) : PW X S M pc ls (iv y :: iv x :: st) :=
  fun hn hR H locs la hP hS hl => lv_ishl C.1 C.2.1 hd (by rw [h]; exact k hn hR H locs la hP hS hl)
theorem pw_dup (C : Cx X S own cc f lo) {v : Value} (hd : decode cc pc = .ok (.dup, 1)) (hv : v.category = 1) (k : PW X S M (pc + 1) ls (v :: v :: st)) : PW X S M pc ls (v :: st) :=
  fun hn hR H locs la hP hS hl => lv_dup C.1 C.2.1 hd hv (k hn hR H locs la hP hS hl)
theorem pw_dup2 (C : Cx X S own cc f lo) {v w : Value} (hd : decode cc pc = .ok (.dup2, 1)) (hv : v.category = 1) (hw : w.category = 1) (k : PW X S M (pc + 1) ls (v :: w :: v :: w :: st)) : PW X S M pc ls (v :: w :: st) :=
  fun hn hR H locs la hP hS hl => lv_dup2_11 C.1 C.2.1 hd hv hw (k hn hR H locs la hP hS hl)
theorem pw_pop (C : Cx X S own cc f lo) {v : Value} (hd : decode cc pc = .ok (.pop, 1)) (hv : v.category = 1) (k : PW X S M (pc + 1) ls st) : PW X S M pc ls (v :: st) :=
  fun hn hR H locs la hP hS hl => lv_pop C.1 C.2.1 hd hv (k hn hR H locs la hP hS hl)
theorem pw_goto (C : Cx X S own cc f lo) {off : Int} {tgt : Nat} (hd : decode cc pc = .ok (.goto off, 3)) (ht : (pc : Int) + off = (tgt : Int)) (k : PW X S M tgt ls st) : PW X S M pc ls st :=
  fun hn hR H locs la hP hS hl => lv_goto C.1 C.2.1 hd ht (k hn hR H locs la hP hS hl)
theorem pw_icmp_lt (C : Cx X S own cc f lo) {x y off : Int} {tgt : Nat} (hd : decode cc pc = .ok (.if_icmp .lt off, 3)) (ht : (pc : Int) + off = (tgt : Int)) (hx : InR x) (hy : InR y) (kt : x < y → PW X S M tgt ls st) (kf : y ≤ x → PW X S M (pc + 3) ls st) : PW X S M pc ls (iv y :: iv x :: st) :=
  fun hn hR H locs la hP hS hl => lv_icmp_lt C.1 C.2.1 hd ht (fun h => kt ((ltI hx hy).mp h) hn hR H locs la hP hS hl) (fun h => kf (by have h2 := mt (ltI hx hy).mpr h; omega) hn hR H locs la hP hS hl)
theorem pw_if_lt (C : Cx X S own cc f lo) {x off : Int} {tgt : Nat} (hd : decode cc pc = .ok (.ifCond .lt off, 3)) (ht : (pc : Int) + off = (tgt : Int)) (hx : InR x) (kt : x < 0 → PW X S M tgt ls st) (kf : 0 ≤ x → PW X S M (pc + 3) ls st) : PW X S M pc ls (iv x :: st) :=
  fun hn hR H locs la hP hS hl => lv_if_lt C.1 C.2.1 hd ht (fun h => kt ((lt0I hx).mp h) hn hR H locs la hP hS hl) (fun h => kf (by have h2 := mt (lt0I hx).mpr h; omega) hn hR H locs la hP hS hl)
theorem pw_icmp_ge (C : Cx X S own cc f lo) {x y off : Int} {tgt : Nat} (hd : decode cc pc = .ok (.if_icmp .ge off, 3)) (ht : (pc : Int) + off = (tgt : Int)) (hx : InR x) (hy : InR y) (kt : y ≤ x → PW X S M tgt ls st) (kf : x < y → PW X S M (pc + 3) ls st) : PW X S M pc ls (iv y :: iv x :: st) :=
  fun hn hR H locs la hP hS hl => lv_icmp_ge C.1 C.2.1 hd ht (fun h => kt ((leI hy hx).mp h) hn hR H locs la hP hS hl) (fun h => kf (by have h2 := mt (leI hy hx).mpr h; omega) hn hR H locs la hP hS hl)
theorem pw_if_ge (C : Cx X S own cc f lo) {x off : Int} {tgt : Nat} (hd : decode cc pc = .ok (.ifCond .ge off, 3)) (ht : (pc : Int) + off = (tgt : Int)) (hx : InR x) (kt : 0 ≤ x → PW X S M tgt ls st) (kf : x < 0 → PW X S M (pc + 3) ls st) : PW X S M pc ls (iv x :: st) :=
  fun hn hR H locs la hP hS hl => lv_if_ge C.1 C.2.1 hd ht (fun h => kt ((ge0I hx).mp h) hn hR H locs la hP hS hl) (fun h => kf (by have h2 := mt (ge0I hx).mpr h; omega) hn hR H locs la hP hS hl)
theorem pw_icmp_gt (C : Cx X S own cc f lo) {x y off : Int} {tgt : Nat} (hd : decode cc pc = .ok (.if_icmp .gt off, 3)) (ht : (pc : Int) + off = (tgt : Int)) (hx : InR x) (hy : InR y) (kt : y < x → PW X S M tgt ls st) (kf : x ≤ y → PW X S M (pc + 3) ls st) : PW X S M pc ls (iv y :: iv x :: st) :=
  fun hn hR H locs la hP hS hl => lv_icmp_gt C.1 C.2.1 hd ht (fun h => kt ((ltI hy hx).mp h) hn hR H locs la hP hS hl) (fun h => kf (by have h2 := mt (ltI hy hx).mpr h; omega) hn hR H locs la hP hS hl)
theorem pw_if_gt (C : Cx X S own cc f lo) {x off : Int} {tgt : Nat} (hd : decode cc pc = .ok (.ifCond .gt off, 3)) (ht : (pc : Int) + off = (tgt : Int)) (hx : InR x) (kt : 0 < x → PW X S M tgt ls st) (kf : x ≤ 0 → PW X S M (pc + 3) ls st) : PW X S M pc ls (iv x :: st) :=
  fun hn hR H locs la hP hS hl => lv_if_gt C.1 C.2.1 hd ht (fun h => kt ((gt0I hx).mp h) hn hR H locs la hP hS hl) (fun h => kf (by have h2 := mt (gt0I hx).mpr h; omega) hn hR H locs la hP hS hl)
theorem pw_icmp_le (C : Cx X S own cc f lo) {x y off : Int} {tgt : Nat} (hd : decode cc pc = .ok (.if_icmp .le off, 3)) (ht : (pc : Int) + off = (tgt : Int)) (hx : InR x) (hy : InR y) (kt : x ≤ y → PW X S M tgt ls st) (kf : y < x → PW X S M (pc + 3) ls st) : PW X S M pc ls (iv y :: iv x :: st) :=
  fun hn hR H locs la hP hS hl => lv_icmp_le C.1 C.2.1 hd ht (fun h => kt ((leI hx hy).mp h) hn hR H locs la hP hS hl) (fun h => kf (by have h2 := mt (leI hx hy).mpr h; omega) hn hR H locs la hP hS hl)
theorem pw_if_le (C : Cx X S own cc f lo) {x off : Int} {tgt : Nat} (hd : decode cc pc = .ok (.ifCond .le off, 3)) (ht : (pc : Int) + off = (tgt : Int)) (hx : InR x) (kt : x ≤ 0 → PW X S M tgt ls st) (kf : 0 < x → PW X S M (pc + 3) ls st) : PW X S M pc ls (iv x :: st) :=
  fun hn hR H locs la hP hS hl => lv_if_le C.1 C.2.1 hd ht (fun h => kt ((le0I hx).mp h) hn hR H locs la hP hS hl) (fun h => kf (by have h2 := mt (le0I hx).mpr h; omega) hn hR H locs la hP hS hl)
theorem pw_icmp_eq (C : Cx X S own cc f lo) {x y off : Int} {tgt : Nat} (hd : decode cc pc = .ok (.if_icmp .eq off, 3)) (ht : (pc : Int) + off = (tgt : Int)) (hx : InR x) (hy : InR y) (kt : x = y → PW X S M tgt ls st) (kf : x ≠ y → PW X S M (pc + 3) ls st) : PW X S M pc ls (iv y :: iv x :: st) :=
  fun hn hR H locs la hP hS hl => lv_icmp_eq C.1 C.2.1 hd ht (fun h => kt ((eqI hx hy).mp h) hn hR H locs la hP hS hl) (fun h => kf (mt (eqI hx hy).mpr h) hn hR H locs la hP hS hl)
theorem pw_if_eq (C : Cx X S own cc f lo) {x off : Int} {tgt : Nat} (hd : decode cc pc = .ok (.ifCond .eq off, 3)) (ht : (pc : Int) + off = (tgt : Int)) (hx : InR x) (kt : x = 0 → PW X S M tgt ls st) (kf : x ≠ 0 → PW X S M (pc + 3) ls st) : PW X S M pc ls (iv x :: st) :=
  fun hn hR H locs la hP hS hl => lv_if_eq C.1 C.2.1 hd ht (fun h => kt ((eq0I hx).mp h) hn hR H locs la hP hS hl) (fun h => kf (mt (eq0I hx).mpr h) hn hR H locs la hP hS hl)
theorem pw_icmp_ne (C : Cx X S own cc f lo) {x y off : Int} {tgt : Nat} (hd : decode cc pc = .ok (.if_icmp .ne off, 3)) (ht : (pc : Int) + off = (tgt : Int)) (hx : InR x) (hy : InR y) (kt : x ≠ y → PW X S M tgt ls st) (kf : x = y → PW X S M (pc + 3) ls st) : PW X S M pc ls (iv y :: iv x :: st) :=
  fun hn hR H locs la hP hS hl => lv_icmp_ne C.1 C.2.1 hd ht (fun h => kt (mt (eqI hx hy).mpr h) hn hR H locs la hP hS hl) (fun h => kf ((eqI hx hy).mp h) hn hR H locs la hP hS hl)
theorem pw_if_ne (C : Cx X S own cc f lo) {x off : Int} {tgt : Nat} (hd : decode cc pc = .ok (.ifCond .ne off, 3)) (ht : (pc : Int) + off = (tgt : Int)) (hx : InR x) (kt : x ≠ 0 → PW X S M tgt ls st) (kf : x = 0 → PW X S M (pc + 3) ls st) : PW X S M pc ls (iv x :: st) :=
  fun hn hR H locs la hP hS hl => lv_if_ne C.1 C.2.1 hd ht (fun h => kt (mt (eq0I hx).mpr h) hn hR H locs la hP hS hl) (fun h => kf ((eq0I hx).mp h) hn hR H locs la hP hS hl)
theorem b01_R (Q : Prop) : InR (b01 Q) := by rcases b01_r Q with h | h <;> rw [h] <;> unfold InR <;> omega
theorem pw_if_ne_b (C : Cx X S own cc f lo) {Q : Prop} {off : Int} {tgt : Nat} (hd : decode cc pc = .ok (.ifCond .ne off, 3)) (ht : (pc : Int) + off = (tgt : Int)) (kt : Q → PW X S M tgt ls st) (kf : ¬ Q → PW X S M (pc + 3) ls st) : PW X S M pc ls (iv (b01 Q) :: st) :=
  pw_if_ne C hd ht (b01_R Q) (fun h => kt (Classical.byContradiction fun q => h (b01_f q))) (fun h => kf (b01_0.mp h))
theorem pw_if_eq_b (C : Cx X S own cc f lo) {Q : Prop} {off : Int} {tgt : Nat} (hd : decode cc pc = .ok (.ifCond .eq off, 3)) (ht : (pc : Int) + off = (tgt : Int)) (kt : ¬ Q → PW X S M tgt ls st) (kf : Q → PW X S M (pc + 3) ls st) : PW X S M pc ls (iv (b01 Q) :: st) :=
  pw_if_eq C hd ht (b01_R Q) (fun h => kt (b01_0.mp h)) (fun h => kf (Classical.byContradiction fun q => h (b01_f q)))
theorem pw_lcmp (C : Cx X S own cc f lo) {x y : Int} (hx : InL x) (hy : InL y) (hd : decode cc pc = .ok (.lcmp, 1)) (k : PW X S M (pc + 1) ls (iv (cmpI x y) :: st)) : PW X S M pc ls (jv y :: jv x :: st) :=
  fun hn hR H locs la hP hS hl => W.lcmp C.1 C.2.1 hd (by rw [cmpI_ok hx hy]; exact k hn hR H locs la hP hS hl)
theorem pw_lif_lt (C : Cx X S own cc f lo) {x y off : Int} {tgt : Nat} (hd : decode cc pc = .ok (.ifCond .lt off, 3)) (ht : (pc : Int) + off = (tgt : Int)) (kt : x < y → PW X S M tgt ls st) (kf : y ≤ x → PW X S M (pc + 3) ls st) : PW X S M pc ls (iv (cmpI x y) :: st) :=
  pw_if_lt C hd ht (cmpI_r x y) (fun h => kt (cmpI_lt.mp h)) (fun h => kf (cmpI_ge.mp h))
theorem pw_lif_ge (C : Cx X S own cc f lo) {x y off : Int} {tgt : Nat} (hd : decode cc pc = .ok (.ifCond .ge off, 3)) (ht : (pc : Int) + off = (tgt : Int)) (kt : y ≤ x → PW X S M tgt ls st) (kf : x < y → PW X S M (pc + 3) ls st) : PW X S M pc ls (iv (cmpI x y) :: st) :=
  pw_if_ge C hd ht (cmpI_r x y) (fun h => kt (cmpI_ge.mp h)) (fun h => kf (cmpI_lt.mp h))
theorem pw_lif_gt (C : Cx X S own cc f lo) {x y off : Int} {tgt : Nat} (hd : decode cc pc = .ok (.ifCond .gt off, 3)) (ht : (pc : Int) + off = (tgt : Int)) (kt : y < x → PW X S M tgt ls st) (kf : x ≤ y → PW X S M (pc + 3) ls st) : PW X S M pc ls (iv (cmpI x y) :: st) :=
  pw_if_gt C hd ht (cmpI_r x y) (fun h => kt (cmpI_gt.mp h)) (fun h => kf (cmpI_le.mp h))
theorem pw_lif_le (C : Cx X S own cc f lo) {x y off : Int} {tgt : Nat} (hd : decode cc pc = .ok (.ifCond .le off, 3)) (ht : (pc : Int) + off = (tgt : Int)) (kt : x ≤ y → PW X S M tgt ls st) (kf : y < x → PW X S M (pc + 3) ls st) : PW X S M pc ls (iv (cmpI x y) :: st) :=
  pw_if_le C hd ht (cmpI_r x y) (fun h => kt (cmpI_le.mp h)) (fun h => kf (cmpI_gt.mp h))
theorem pw_lif_eq (C : Cx X S own cc f lo) {x y off : Int} {tgt : Nat} (hd : decode cc pc = .ok (.ifCond .eq off, 3)) (ht : (pc : Int) + off = (tgt : Int)) (kt : x = y → PW X S M tgt ls st) (kf : x ≠ y → PW X S M (pc + 3) ls st) : PW X S M pc ls (iv (cmpI x y) :: st) :=
  pw_if_eq C hd ht (cmpI_r x y) (fun h => kt (cmpI_eq.mp h)) (fun h => kf (mt cmpI_eq.mpr h))
theorem pw_lif_ne (C : Cx X S own cc f lo) {x y off : Int} {tgt : Nat} (hd : decode cc pc = .ok (.ifCond .ne off, 3)) (ht : (pc : Int) + off = (tgt : Int)) (kt : x ≠ y → PW X S M tgt ls st) (kf : x = y → PW X S M (pc + 3) ls st) : PW X S M pc ls (iv (cmpI x y) :: st) :=
  pw_if_ne C hd ht (cmpI_r x y) (fun h => kt (mt cmpI_eq.mpr h)) (fun h => kf (cmpI_eq.mp h))
end PWR
end
section
/-! THE LAYER, third part: stores, fields, arrays, calls, ends -/
def vset (V : DM) (k : Nat) (r : Int) (f : Int → Int) : DM := fun k' r' => if k' = k ∧ r' = r then f else V k' r'
theorem vset_s (V : DM) (k : Nat) (r : Int) (f : Int → Int) : vset V k r f k r = f := if_pos ⟨rfl, rfl⟩
theorem vset_k (V : DM) {k k' : Nat} (r : Int) (f : Int → Int) (h : k' ≠ k) (r' : Int) : vset V k r f k' r' = V k' r' := if_neg (fun q => h q.1)
theorem vset_r (V : DM) (k : Nat) {r r' : Int} (f : Int → Int) (h : r' ≠ r) : vset V k r f k r' = V k r' := if_neg (fun q => h q.2)
theorem vset_u (V : DM) (k : Nat) (r i v : Int) : vset V k r (fup (V k r) i v) = vup V k r i v := rfl
theorem VR.set {V : DM} (h : VR V) {k : Nat} {r : Int} {f : Int → Int} (hf : ∀ i, InR (f i)) : VR (vset V k r f) := by
  intro k' r' j
  unfold vset
  split
  · exact hf j
  · exact h _ _ _
theorem ws_setf {d k : Nat} {r : Int} {j : Nat} (hj : allPos[j]? = some (d, k, r)) (S : SW) (M : Mem) (f : Int → Int) : (wsOf S M).set j (S.2.1 d k r, cellOf S (shp d k) f) = wsOf S (mst M d (vset (M d) k r f)) := by
  apply List.ext_getElem?
  intro n
  by_cases hn : n = j
  · subst hn
    have hlt := (List.getElem?_eq_some_iff.mp hj).1
    rw [List.getElem?_set_self (by unfold wsOf; rw [List.length_map]; exact hlt)]
    unfold wsOf
    rw [List.getElem?_map, hj]
    show some _ = some (_, cellOf S (shp d k) (mst M d (vset (M d) k r f) d k r))
    rw [mst_s, vset_s]
  · rw [List.getElem?_set_ne (Ne.symm hn)]
    unfold wsOf
    rw [List.getElem?_map, List.getElem?_map]
    cases hq : allPos[n]? with
    | none => rfl
    | some q =>
      obtain ⟨d', k', r'⟩ := q
      have hne : ¬ (d' = d ∧ k' = k ∧ r' = r) := by
        rintro ⟨rfl, rfl, rfl⟩
        exact hn (pos_inj hq hj)
      show some (_, cellOf S (shp d' k') (M d' k' r')) = some (_, cellOf S (shp d' k') (mst M d (vset (M d) k r f) d' k' r'))
      have e : mst M d (vset (M d) k r f) d' k' r' = M d' k' r' := by
        unfold mst
        split
        · next h =>
          subst h
          exact if_neg (fun q => hne ⟨rfl, q.1, q.2⟩)
        · rfl
      rw [e]
def nl (o : Option Value) : Bool := match o with
  | some v => v.category != 2
  | none => true
def lvok (ls : List (Option Value)) (i : Nat) : Prop := match i with
  | 0 => True
  | j + 1 => nl (ls.getD j none) = true
theorem lv_up1 {la : Array Slot} {nL i : Nat} {ls : List (Option Value)} {v : Value} (h : lv_has la nL ((i, v) :: (lvOf 0 ls).filter (fun q => !(q.1 == i) && !(q.1 + 1 == i && q.2.category == 2)))) (hk : lvok ls i) : lv_has la nL (lvOf 0 (ls.set i (some v))) := by
  refine ⟨h.1, h.2.1, fun q hq => ?_⟩
  obtain ⟨j, e, hj⟩ := (lvOf_mem _ 0 q).mp hq
  have e : q.1 = j := by omega
  by_cases hji : j = i
  · subst hji
    have hlt : j < ls.length := by
      have := (List.getElem?_eq_some_iff.mp hj).1
      simpa using this
    rw [List.getElem?_set_self hlt] at hj
    have hq2 : q = (j, v) := by
      obtain ⟨a, b⟩ := q
      simp at hj e
      rw [e, hj]
    rw [hq2]
    exact h.2.2 (j, v) List.mem_cons_self
  · rw [List.getElem?_set_ne (Ne.symm hji)] at hj
    refine h.2.2 q (List.mem_cons_of_mem _ (List.mem_filter.mpr ⟨(lvOf_mem _ 0 q).mpr ⟨j, by omega, hj⟩, ?_⟩))
    have h1 : (q.1 == i) = false := by simp; omega
    have h2 : (q.1 + 1 == i && q.2.category == 2) = false := by
      by_cases h3 : q.1 + 1 = i
      · cases i with
        | zero => omega
        | succ i =>
          have hq1 : j = i := by omega
          subst hq1
          have h4 : nl (ls.getD j none) = true := hk
          rw [List.getD_eq_getElem?_getD, hj] at h4
          have h5 : (q.2.category != 2) = true := h4
          simp at h5 ⊢
          omega
      · simp [h3]
    simp only [h1, h2]
    rfl
theorem lv_up2 {la : Array Slot} {nL i : Nat} {ls : List (Option Value)} {v : Value} (h : lv_has la nL ((i, v) :: (lvOf 0 ls).filter (fun q => !(q.1 == i) && (!(q.1 == i + 1) && !(q.1 + 1 == i && q.2.category == 2))))) (hk : lvok ls i) : lv_has la nL (lvOf 0 ((ls.set i (some v)).set (i + 1) none)) := by
  refine ⟨h.1, h.2.1, fun q hq => ?_⟩
  obtain ⟨j, e, hj⟩ := (lvOf_mem _ 0 q).mp hq
  have e : q.1 = j := by omega
  have hji1 : j ≠ i + 1 := by
    rintro rfl
    have hlt : i + 1 < (ls.set i (some v)).length := by
      have := (List.getElem?_eq_some_iff.mp hj).1
      simpa using this
    rw [List.getElem?_set_self hlt] at hj
    cases hj
  rw [List.getElem?_set_ne (Ne.symm hji1)] at hj
  by_cases hji : j = i
  · subst hji
    have hlt : j < ls.length := by
      have := (List.getElem?_eq_some_iff.mp hj).1
      simpa using this
    rw [List.getElem?_set_self hlt] at hj
    have hq2 : q = (j, v) := by
      obtain ⟨a, b⟩ := q
      simp at hj e
      rw [e, hj]
    rw [hq2]
    exact h.2.2 (j, v) List.mem_cons_self
  · rw [List.getElem?_set_ne (Ne.symm hji)] at hj
    refine h.2.2 q (List.mem_cons_of_mem _ (List.mem_filter.mpr ⟨(lvOf_mem _ 0 q).mpr ⟨j, by omega, hj⟩, ?_⟩))
    have h1 : (q.1 == i) = false := by simp; omega
    have h1' : (q.1 == i + 1) = false := by simp; omega
    have h2 : (q.1 + 1 == i && q.2.category == 2) = false := by
      by_cases h3 : q.1 + 1 = i
      · cases i with
        | zero => omega
        | succ i =>
          have hq1 : j = i := by omega
          subst hq1
          have h4 : nl (ls.getD j none) = true := hk
          rw [List.getD_eq_getElem?_getD, hj] at h4
          have h5 : (q.2.category != 2) = true := h4
          simp at h5 ⊢
          omega
      · simp [h3]
    simp only [h1, h1', h2]
    rfl
def MI (y : MethodName) (cc' : ByteArray) (maxL' : Nat) (ret' : Option FieldType) (n : Nat) : Prop := Cond.code y cc' maxL' ret' ∈ tbl0 ∧ Cond.initialized y.cls ∈ tbl0 ∧ (y.cls ≠ "java/lang/invoke/MethodHandle" ∧ y.cls ≠ "java/lang/invoke/VarHandle" ∧ (parseMethodDescriptor y.desc).map (fun d => d.parameters.length) = some n)
def MV (y : MethodName) : Prop := Cond.instanceMethod y ∈ tbl0 ∧ Cond.selects y.cls y y ∈ tbl0
theorem good0 {y : MethodName} {cc' : ByteArray} {maxL' : Nat} {ret' : Option FieldType} (h : Cond.code y cc' maxL' ret' ∈ tbl0) : GoodIn tbl0 (Cond.code y cc' maxL' ret' :: tbl0) := by
  intro w hw
  have h1 : w ∈ tbl0 := by
    rcases List.mem_cons.mp hw with rfl | h2
    · exact h
    · exact h2
  exact ⟨h1, good_of_word (List.mem_filter.mp h1).2⟩
section PWS
variable {X : PX} {S : SW} {M : Mem} {own : String} {cc : ByteArray} {f lo : Nat} {pc : Nat} {ls : List (Option Value)} {st : List Value} {P : Option Value → Mem → Prop}
theorem pw_istore_g (C : Cx X S own cc f lo) {i : Nat} {x : Int} (hd : decode cc pc = .ok (.istore i, 2)) (hi : i < ls.length) (hk : lvok ls i) (k : PW X S M (pc + 2) (ls.set i (some (iv x))) st) : PW X S M pc ls (iv x :: st) :=
  fun hn hR H locs la hP hS hl => lv_istore C.1 C.2.1 hd hl (by omega) rfl (fun la' hl' => k (by simpa using hn) hR H locs la' hP hS (lv_up1 hl' hk))
theorem pw_istore_ng (C : Cx X S own cc f lo) {i : Fin 4} {x : Int} (hd : decode cc pc = .ok (.istore_n i, 1)) (hi : (i : Nat) < ls.length) (hk : lvok ls i) (k : PW X S M (pc + 1) (ls.set i (some (iv x))) st) : PW X S M pc ls (iv x :: st) :=
  fun hn hR H locs la hP hS hl => lv_istore_n C.1 C.2.1 hd rfl hl (by omega) rfl (fun la' hl' => k (by simpa using hn) hR H locs la' hP hS (lv_up1 hl' hk))
theorem pw_astore_g (C : Cx X S own cc f lo) {i : Nat} {d k : Nat} {r : Int} (hd : decode cc pc = .ok (.astore i, 2)) (hi : i < ls.length) (hk : lvok ls i) (kk : PW X S M (pc + 2) (ls.set i (some (rv S d k r))) st) : PW X S M pc ls (rv S d k r :: st) :=
  fun hn hR H locs la hP hS hl => lv_astore C.1 C.2.1 hd hl (by omega) rfl (fun la' hl' => kk (by simpa using hn) hR H locs la' hP hS (lv_up1 hl' hk))
theorem pw_astore_ng (C : Cx X S own cc f lo) {i : Fin 4} {d k : Nat} {r : Int} (hd : decode cc pc = .ok (.astore_n i, 1)) (hi : (i : Nat) < ls.length) (hk : lvok ls i) (kk : PW X S M (pc + 1) (ls.set i (some (rv S d k r))) st) : PW X S M pc ls (rv S d k r :: st) :=
  fun hn hR H locs la hP hS hl => lv_astore_n C.1 C.2.1 hd rfl hl (by omega) rfl (fun la' hl' => kk (by simpa using hn) hR H locs la' hP hS (lv_up1 hl' hk))
theorem pw_lstore_g (C : Cx X S own cc f lo) {i : Nat} {x : Int} (hd : decode cc pc = .ok (.lstore i, 2)) (hi : i + 1 < ls.length) (hk : lvok ls i) (k : PW X S M (pc + 2) ((ls.set i (some (jv x))).set (i + 1) none) st) : PW X S M pc ls (jv x :: st) :=
  fun hn hR H locs la hP hS hl => lv_lstore C.1 C.2.1 hd hl (by omega) rfl (fun la' hl' => k (by simpa using hn) hR H locs la' hP hS (lv_up2 hl' hk))
theorem pw_lstore_ng (C : Cx X S own cc f lo) {i : Fin 4} {x : Int} (hd : decode cc pc = .ok (.lstore_n i, 1)) (hi : (i : Nat) + 1 < ls.length) (hk : lvok ls i) (k : PW X S M (pc + 1) ((ls.set i (some (jv x))).set (i + 1) none) st) : PW X S M pc ls (jv x :: st) :=
  fun hn hR H locs la hP hS hl => lv_lstore_n C.1 C.2.1 hd rfl hl (by omega) rfl (fun la' hl' => k (by simpa using hn) hR H locs la' hP hS (lv_up2 hl' hk))
theorem pw_iinc_g (C : Cx X S own cc f lo) {i : Nat} {n x : Int} (hd : decode cc pc = .ok (.iinc i n, 3)) (hi : i < ls.length) (hx : ls[i]? = some (some (iv x))) (hk : lvok ls i) (k : PW X S M (pc + 3) (ls.set i (some (iv (x + n)))) st) : PW X S M pc ls st :=
  fun hn hR H locs la hP hS hl => by
    obtain ⟨j, hj⟩ := List.getElem?_of_mem ((lvOf_mem ls 0 (i, iv x)).mpr ⟨i, by simp, hx⟩)
    exact lv_iinc C.1 C.2.1 hd hl hj (v := Int32.ofInt (x + n)) (by rw [← Int32.ofInt_add]) (by omega) rfl (fun la' hl' => k (by simpa using hn) hR H locs la' hP hS (lv_up1 hl' hk))
theorem pw_istore_0 (C : Cx X S own cc f lo) {w : Option Value} {tl : List (Option Value)} {x : Int} (hd : decode cc pc = .ok (.istore_n 0, 1)) (k : PW X S M (pc + 1) (some (iv x) :: tl) st) : PW X S M pc (w :: tl) (iv x :: st) := pw_istore_ng C (i := 0) hd (show 0 < List.length _ by simp only [List.length_cons]; omega) trivial k
theorem pw_iinc_0 (C : Cx X S own cc f lo) {tl : List (Option Value)} {n x : Int} (hd : decode cc pc = .ok (.iinc 0 n, 3)) (k : PW X S M (pc + 3) (some (iv (x + n)) :: tl) st) : PW X S M pc (some (iv x) :: tl) st := pw_iinc_g C (i := 0) hd (show 0 < List.length _ by simp only [List.length_cons]; omega) rfl trivial k
theorem pw_istore_1 (C : Cx X S own cc f lo) {a0 : Option Value} {w : Option Value} {tl : List (Option Value)} {x : Int} (hd : decode cc pc = .ok (.istore_n 1, 1)) (hnl : nl a0 = true := by rfl) (k : PW X S M (pc + 1) (a0 :: some (iv x) :: tl) st) : PW X S M pc (a0 :: w :: tl) (iv x :: st) := pw_istore_ng C (i := 1) hd (show 1 < List.length _ by simp only [List.length_cons]; omega) hnl k
theorem pw_iinc_1 (C : Cx X S own cc f lo) {a0 : Option Value} {tl : List (Option Value)} {n x : Int} (hd : decode cc pc = .ok (.iinc 1 n, 3)) (hnl : nl a0 = true := by rfl) (k : PW X S M (pc + 3) (a0 :: some (iv (x + n)) :: tl) st) : PW X S M pc (a0 :: some (iv x) :: tl) st := pw_iinc_g C (i := 1) hd (show 1 < List.length _ by simp only [List.length_cons]; omega) rfl hnl k
theorem pw_istore_2 (C : Cx X S own cc f lo) {a0 a1 : Option Value} {w : Option Value} {tl : List (Option Value)} {x : Int} (hd : decode cc pc = .ok (.istore_n 2, 1)) (hnl : nl a1 = true := by rfl) (k : PW X S M (pc + 1) (a0 :: a1 :: some (iv x) :: tl) st) : PW X S M pc (a0 :: a1 :: w :: tl) (iv x :: st) := pw_istore_ng C (i := 2) hd (show 2 < List.length _ by simp only [List.length_cons]; omega) hnl k
theorem pw_iinc_2 (C : Cx X S own cc f lo) {a0 a1 : Option Value} {tl : List (Option Value)} {n x : Int} (hd : decode cc pc = .ok (.iinc 2 n, 3)) (hnl : nl a1 = true := by rfl) (k : PW X S M (pc + 3) (a0 :: a1 :: some (iv (x + n)) :: tl) st) : PW X S M pc (a0 :: a1 :: some (iv x) :: tl) st := pw_iinc_g C (i := 2) hd (show 2 < List.length _ by simp only [List.length_cons]; omega) rfl hnl k
theorem pw_istore_3 (C : Cx X S own cc f lo) {a0 a1 a2 : Option Value} {w : Option Value} {tl : List (Option Value)} {x : Int} (hd : decode cc pc = .ok (.istore_n 3, 1)) (hnl : nl a2 = true := by rfl) (k : PW X S M (pc + 1) (a0 :: a1 :: a2 :: some (iv x) :: tl) st) : PW X S M pc (a0 :: a1 :: a2 :: w :: tl) (iv x :: st) := pw_istore_ng C (i := 3) hd (show 3 < List.length _ by simp only [List.length_cons]; omega) hnl k
theorem pw_iinc_3 (C : Cx X S own cc f lo) {a0 a1 a2 : Option Value} {tl : List (Option Value)} {n x : Int} (hd : decode cc pc = .ok (.iinc 3 n, 3)) (hnl : nl a2 = true := by rfl) (k : PW X S M (pc + 3) (a0 :: a1 :: a2 :: some (iv (x + n)) :: tl) st) : PW X S M pc (a0 :: a1 :: a2 :: some (iv x) :: tl) st := pw_iinc_g C (i := 3) hd (show 3 < List.length _ by simp only [List.length_cons]; omega) rfl hnl k
theorem pw_istore_4 (C : Cx X S own cc f lo) {a0 a1 a2 a3 : Option Value} {w : Option Value} {tl : List (Option Value)} {x : Int} (hd : decode cc pc = .ok (.istore 4, 2)) (hnl : nl a3 = true := by rfl) (k : PW X S M (pc + 2) (a0 :: a1 :: a2 :: a3 :: some (iv x) :: tl) st) : PW X S M pc (a0 :: a1 :: a2 :: a3 :: w :: tl) (iv x :: st) := pw_istore_g C (i := 4) hd (show 4 < List.length _ by simp only [List.length_cons]; omega) hnl k
theorem pw_iinc_4 (C : Cx X S own cc f lo) {a0 a1 a2 a3 : Option Value} {tl : List (Option Value)} {n x : Int} (hd : decode cc pc = .ok (.iinc 4 n, 3)) (hnl : nl a3 = true := by rfl) (k : PW X S M (pc + 3) (a0 :: a1 :: a2 :: a3 :: some (iv (x + n)) :: tl) st) : PW X S M pc (a0 :: a1 :: a2 :: a3 :: some (iv x) :: tl) st := pw_iinc_g C (i := 4) hd (show 4 < List.length _ by simp only [List.length_cons]; omega) rfl hnl k
theorem pw_istore_5 (C : Cx X S own cc f lo) {a0 a1 a2 a3 a4 : Option Value} {w : Option Value} {tl : List (Option Value)} {x : Int} (hd : decode cc pc = .ok (.istore 5, 2)) (hnl : nl a4 = true := by rfl) (k : PW X S M (pc + 2) (a0 :: a1 :: a2 :: a3 :: a4 :: some (iv x) :: tl) st) : PW X S M pc (a0 :: a1 :: a2 :: a3 :: a4 :: w :: tl) (iv x :: st) := pw_istore_g C (i := 5) hd (show 5 < List.length _ by simp only [List.length_cons]; omega) hnl k
theorem pw_iinc_5 (C : Cx X S own cc f lo) {a0 a1 a2 a3 a4 : Option Value} {tl : List (Option Value)} {n x : Int} (hd : decode cc pc = .ok (.iinc 5 n, 3)) (hnl : nl a4 = true := by rfl) (k : PW X S M (pc + 3) (a0 :: a1 :: a2 :: a3 :: a4 :: some (iv (x + n)) :: tl) st) : PW X S M pc (a0 :: a1 :: a2 :: a3 :: a4 :: some (iv x) :: tl) st := pw_iinc_g C (i := 5) hd (show 5 < List.length _ by simp only [List.length_cons]; omega) rfl hnl k
theorem pw_istore_6 (C : Cx X S own cc f lo) {a0 a1 a2 a3 a4 a5 : Option Value} {w : Option Value} {tl : List (Option Value)} {x : Int} (hd : decode cc pc = .ok (.istore 6, 2)) (hnl : nl a5 = true := by rfl) (k : PW X S M (pc + 2) (a0 :: a1 :: a2 :: a3 :: a4 :: a5 :: some (iv x) :: tl) st) : PW X S M pc (a0 :: a1 :: a2 :: a3 :: a4 :: a5 :: w :: tl) (iv x :: st) := pw_istore_g C (i := 6) hd (show 6 < List.length _ by simp only [List.length_cons]; omega) hnl k
theorem pw_iinc_6 (C : Cx X S own cc f lo) {a0 a1 a2 a3 a4 a5 : Option Value} {tl : List (Option Value)} {n x : Int} (hd : decode cc pc = .ok (.iinc 6 n, 3)) (hnl : nl a5 = true := by rfl) (k : PW X S M (pc + 3) (a0 :: a1 :: a2 :: a3 :: a4 :: a5 :: some (iv (x + n)) :: tl) st) : PW X S M pc (a0 :: a1 :: a2 :: a3 :: a4 :: a5 :: some (iv x) :: tl) st := pw_iinc_g C (i := 6) hd (show 6 < List.length _ by simp only [List.length_cons]; omega) rfl hnl k
theorem pw_istore_7 (C : Cx X S own cc f lo) {a0 a1 a2 a3 a4 a5 a6 : Option Value} {w : Option Value} {tl : List (Option Value)} {x : Int} (hd : decode cc pc = .ok (.istore 7, 2)) (hnl : nl a6 = true := by rfl) (k : PW X S M (pc + 2) (a0 :: a1 :: a2 :: a3 :: a4 :: a5 :: a6 :: some (iv x) :: tl) st) : PW X S M pc (a0 :: a1 :: a2 :: a3 :: a4 :: a5 :: a6 :: w :: tl) (iv x :: st) := pw_istore_g C (i := 7) hd (show 7 < List.length _ by simp only [List.length_cons]; omega) hnl k
theorem pw_iinc_7 (C : Cx X S own cc f lo) {a0 a1 a2 a3 a4 a5 a6 : Option Value} {tl : List (Option Value)} {n x : Int} (hd : decode cc pc = .ok (.iinc 7 n, 3)) (hnl : nl a6 = true := by rfl) (k : PW X S M (pc + 3) (a0 :: a1 :: a2 :: a3 :: a4 :: a5 :: a6 :: some (iv (x + n)) :: tl) st) : PW X S M pc (a0 :: a1 :: a2 :: a3 :: a4 :: a5 :: a6 :: some (iv x) :: tl) st := pw_iinc_g C (i := 7) hd (show 7 < List.length _ by simp only [List.length_cons]; omega) rfl hnl k
theorem pw_istore_8 (C : Cx X S own cc f lo) {a0 a1 a2 a3 a4 a5 a6 a7 : Option Value} {w : Option Value} {tl : List (Option Value)} {x : Int} (hd : decode cc pc = .ok (.istore 8, 2)) (hnl : nl a7 = true := by rfl) (k : PW X S M (pc + 2) (a0 :: a1 :: a2 :: a3 :: a4 :: a5 :: a6 :: a7 :: some (iv x) :: tl) st) : PW X S M pc (a0 :: a1 :: a2 :: a3 :: a4 :: a5 :: a6 :: a7 :: w :: tl) (iv x :: st) := pw_istore_g C (i := 8) hd (show 8 < List.length _ by simp only [List.length_cons]; omega) hnl k
theorem pw_iinc_8 (C : Cx X S own cc f lo) {a0 a1 a2 a3 a4 a5 a6 a7 : Option Value} {tl : List (Option Value)} {n x : Int} (hd : decode cc pc = .ok (.iinc 8 n, 3)) (hnl : nl a7 = true := by rfl) (k : PW X S M (pc + 3) (a0 :: a1 :: a2 :: a3 :: a4 :: a5 :: a6 :: a7 :: some (iv (x + n)) :: tl) st) : PW X S M pc (a0 :: a1 :: a2 :: a3 :: a4 :: a5 :: a6 :: a7 :: some (iv x) :: tl) st := pw_iinc_g C (i := 8) hd (show 8 < List.length _ by simp only [List.length_cons]; omega) rfl hnl k
theorem pw_istore_9 (C : Cx X S own cc f lo) {a0 a1 a2 a3 a4 a5 a6 a7 a8 : Option Value} {w : Option Value} {tl : List (Option Value)} {x : Int} (hd : decode cc pc = .ok (.istore 9, 2)) (hnl : nl a8 = true := by rfl) (k : PW X S M (pc + 2) (a0 :: a1 :: a2 :: a3 :: a4 :: a5 :: a6 :: a7 :: a8 :: some (iv x) :: tl) st) : PW X S M pc (a0 :: a1 :: a2 :: a3 :: a4 :: a5 :: a6 :: a7 :: a8 :: w :: tl) (iv x :: st) := pw_istore_g C (i := 9) hd (show 9 < List.length _ by simp only [List.length_cons]; omega) hnl k
theorem pw_iinc_9 (C : Cx X S own cc f lo) {a0 a1 a2 a3 a4 a5 a6 a7 a8 : Option Value} {tl : List (Option Value)} {n x : Int} (hd : decode cc pc = .ok (.iinc 9 n, 3)) (hnl : nl a8 = true := by rfl) (k : PW X S M (pc + 3) (a0 :: a1 :: a2 :: a3 :: a4 :: a5 :: a6 :: a7 :: a8 :: some (iv (x + n)) :: tl) st) : PW X S M pc (a0 :: a1 :: a2 :: a3 :: a4 :: a5 :: a6 :: a7 :: a8 :: some (iv x) :: tl) st := pw_iinc_g C (i := 9) hd (show 9 < List.length _ by simp only [List.length_cons]; omega) rfl hnl k
theorem pw_istore_10 (C : Cx X S own cc f lo) {a0 a1 a2 a3 a4 a5 a6 a7 a8 a9 : Option Value} {w : Option Value} {tl : List (Option Value)} {x : Int} (hd : decode cc pc = .ok (.istore 10, 2)) (hnl : nl a9 = true := by rfl) (k : PW X S M (pc + 2) (a0 :: a1 :: a2 :: a3 :: a4 :: a5 :: a6 :: a7 :: a8 :: a9 :: some (iv x) :: tl) st) : PW X S M pc (a0 :: a1 :: a2 :: a3 :: a4 :: a5 :: a6 :: a7 :: a8 :: a9 :: w :: tl) (iv x :: st) := pw_istore_g C (i := 10) hd (show 10 < List.length _ by simp only [List.length_cons]; omega) hnl k
theorem pw_iinc_10 (C : Cx X S own cc f lo) {a0 a1 a2 a3 a4 a5 a6 a7 a8 a9 : Option Value} {tl : List (Option Value)} {n x : Int} (hd : decode cc pc = .ok (.iinc 10 n, 3)) (hnl : nl a9 = true := by rfl) (k : PW X S M (pc + 3) (a0 :: a1 :: a2 :: a3 :: a4 :: a5 :: a6 :: a7 :: a8 :: a9 :: some (iv (x + n)) :: tl) st) : PW X S M pc (a0 :: a1 :: a2 :: a3 :: a4 :: a5 :: a6 :: a7 :: a8 :: a9 :: some (iv x) :: tl) st := pw_iinc_g C (i := 10) hd (show 10 < List.length _ by simp only [List.length_cons]; omega) rfl hnl k
theorem pw_istore_11 (C : Cx X S own cc f lo) {a0 a1 a2 a3 a4 a5 a6 a7 a8 a9 a10 : Option Value} {w : Option Value} {tl : List (Option Value)} {x : Int} (hd : decode cc pc = .ok (.istore 11, 2)) (hnl : nl a10 = true := by rfl) (k : PW X S M (pc + 2) (a0 :: a1 :: a2 :: a3 :: a4 :: a5 :: a6 :: a7 :: a8 :: a9 :: a10 :: some (iv x) :: tl) st) : PW X S M pc (a0 :: a1 :: a2 :: a3 :: a4 :: a5 :: a6 :: a7 :: a8 :: a9 :: a10 :: w :: tl) (iv x :: st) := pw_istore_g C (i := 11) hd (show 11 < List.length _ by simp only [List.length_cons]; omega) hnl k
theorem pw_iinc_11 (C : Cx X S own cc f lo) {a0 a1 a2 a3 a4 a5 a6 a7 a8 a9 a10 : Option Value} {tl : List (Option Value)} {n x : Int} (hd : decode cc pc = .ok (.iinc 11 n, 3)) (hnl : nl a10 = true := by rfl) (k : PW X S M (pc + 3) (a0 :: a1 :: a2 :: a3 :: a4 :: a5 :: a6 :: a7 :: a8 :: a9 :: a10 :: some (iv (x + n)) :: tl) st) : PW X S M pc (a0 :: a1 :: a2 :: a3 :: a4 :: a5 :: a6 :: a7 :: a8 :: a9 :: a10 :: some (iv x) :: tl) st := pw_iinc_g C (i := 11) hd (show 11 < List.length _ by simp only [List.length_cons]; omega) rfl hnl k
theorem pw_istore_12 (C : Cx X S own cc f lo) {a0 a1 a2 a3 a4 a5 a6 a7 a8 a9 a10 a11 : Option Value} {w : Option Value} {tl : List (Option Value)} {x : Int} (hd : decode cc pc = .ok (.istore 12, 2)) (hnl : nl a11 = true := by rfl) (k : PW X S M (pc + 2) (a0 :: a1 :: a2 :: a3 :: a4 :: a5 :: a6 :: a7 :: a8 :: a9 :: a10 :: a11 :: some (iv x) :: tl) st) : PW X S M pc (a0 :: a1 :: a2 :: a3 :: a4 :: a5 :: a6 :: a7 :: a8 :: a9 :: a10 :: a11 :: w :: tl) (iv x :: st) := pw_istore_g C (i := 12) hd (show 12 < List.length _ by simp only [List.length_cons]; omega) hnl k
theorem pw_iinc_12 (C : Cx X S own cc f lo) {a0 a1 a2 a3 a4 a5 a6 a7 a8 a9 a10 a11 : Option Value} {tl : List (Option Value)} {n x : Int} (hd : decode cc pc = .ok (.iinc 12 n, 3)) (hnl : nl a11 = true := by rfl) (k : PW X S M (pc + 3) (a0 :: a1 :: a2 :: a3 :: a4 :: a5 :: a6 :: a7 :: a8 :: a9 :: a10 :: a11 :: some (iv (x + n)) :: tl) st) : PW X S M pc (a0 :: a1 :: a2 :: a3 :: a4 :: a5 :: a6 :: a7 :: a8 :: a9 :: a10 :: a11 :: some (iv x) :: tl) st := pw_iinc_g C (i := 12) hd (show 12 < List.length _ by simp only [List.length_cons]; omega) rfl hnl k
theorem pw_istore_13 (C : Cx X S own cc f lo) {a0 a1 a2 a3 a4 a5 a6 a7 a8 a9 a10 a11 a12 : Option Value} {w : Option Value} {tl : List (Option Value)} {x : Int} (hd : decode cc pc = .ok (.istore 13, 2)) (hnl : nl a12 = true := by rfl) (k : PW X S M (pc + 2) (a0 :: a1 :: a2 :: a3 :: a4 :: a5 :: a6 :: a7 :: a8 :: a9 :: a10 :: a11 :: a12 :: some (iv x) :: tl) st) : PW X S M pc (a0 :: a1 :: a2 :: a3 :: a4 :: a5 :: a6 :: a7 :: a8 :: a9 :: a10 :: a11 :: a12 :: w :: tl) (iv x :: st) := pw_istore_g C (i := 13) hd (show 13 < List.length _ by simp only [List.length_cons]; omega) hnl k
theorem pw_iinc_13 (C : Cx X S own cc f lo) {a0 a1 a2 a3 a4 a5 a6 a7 a8 a9 a10 a11 a12 : Option Value} {tl : List (Option Value)} {n x : Int} (hd : decode cc pc = .ok (.iinc 13 n, 3)) (hnl : nl a12 = true := by rfl) (k : PW X S M (pc + 3) (a0 :: a1 :: a2 :: a3 :: a4 :: a5 :: a6 :: a7 :: a8 :: a9 :: a10 :: a11 :: a12 :: some (iv (x + n)) :: tl) st) : PW X S M pc (a0 :: a1 :: a2 :: a3 :: a4 :: a5 :: a6 :: a7 :: a8 :: a9 :: a10 :: a11 :: a12 :: some (iv x) :: tl) st := pw_iinc_g C (i := 13) hd (show 13 < List.length _ by simp only [List.length_cons]; omega) rfl hnl k
theorem pw_istore_14 (C : Cx X S own cc f lo) {a0 a1 a2 a3 a4 a5 a6 a7 a8 a9 a10 a11 a12 a13 : Option Value} {w : Option Value} {tl : List (Option Value)} {x : Int} (hd : decode cc pc = .ok (.istore 14, 2)) (hnl : nl a13 = true := by rfl) (k : PW X S M (pc + 2) (a0 :: a1 :: a2 :: a3 :: a4 :: a5 :: a6 :: a7 :: a8 :: a9 :: a10 :: a11 :: a12 :: a13 :: some (iv x) :: tl) st) : PW X S M pc (a0 :: a1 :: a2 :: a3 :: a4 :: a5 :: a6 :: a7 :: a8 :: a9 :: a10 :: a11 :: a12 :: a13 :: w :: tl) (iv x :: st) := pw_istore_g C (i := 14) hd (show 14 < List.length _ by simp only [List.length_cons]; omega) hnl k
theorem pw_iinc_14 (C : Cx X S own cc f lo) {a0 a1 a2 a3 a4 a5 a6 a7 a8 a9 a10 a11 a12 a13 : Option Value} {tl : List (Option Value)} {n x : Int} (hd : decode cc pc = .ok (.iinc 14 n, 3)) (hnl : nl a13 = true := by rfl) (k : PW X S M (pc + 3) (a0 :: a1 :: a2 :: a3 :: a4 :: a5 :: a6 :: a7 :: a8 :: a9 :: a10 :: a11 :: a12 :: a13 :: some (iv (x + n)) :: tl) st) : PW X S M pc (a0 :: a1 :: a2 :: a3 :: a4 :: a5 :: a6 :: a7 :: a8 :: a9 :: a10 :: a11 :: a12 :: a13 :: some (iv x) :: tl) st := pw_iinc_g C (i := 14) hd (show 14 < List.length _ by simp only [List.length_cons]; omega) rfl hnl k
theorem pw_astore_0 (C : Cx X S own cc f lo) {w : Option Value} {tl : List (Option Value)} {d k : Nat} {r : Int} (hd : decode cc pc = .ok (.astore_n 0, 1)) (kk : PW X S M (pc + 1) (some (rv S d k r) :: tl) st) : PW X S M pc (w :: tl) (rv S d k r :: st) := pw_astore_ng C (i := 0) hd (show 0 < List.length _ by simp only [List.length_cons]; omega) trivial kk
theorem pw_astore_1 (C : Cx X S own cc f lo) {a0 : Option Value} {w : Option Value} {tl : List (Option Value)} {d k : Nat} {r : Int} (hd : decode cc pc = .ok (.astore_n 1, 1)) (hnl : nl a0 = true := by rfl) (kk : PW X S M (pc + 1) (a0 :: some (rv S d k r) :: tl) st) : PW X S M pc (a0 :: w :: tl) (rv S d k r :: st) := pw_astore_ng C (i := 1) hd (show 1 < List.length _ by simp only [List.length_cons]; omega) hnl kk
theorem pw_astore_2 (C : Cx X S own cc f lo) {a0 a1 : Option Value} {w : Option Value} {tl : List (Option Value)} {d k : Nat} {r : Int} (hd : decode cc pc = .ok (.astore_n 2, 1)) (hnl : nl a1 = true := by rfl) (kk : PW X S M (pc + 1) (a0 :: a1 :: some (rv S d k r) :: tl) st) : PW X S M pc (a0 :: a1 :: w :: tl) (rv S d k r :: st) := pw_astore_ng C (i := 2) hd (show 2 < List.length _ by simp only [List.length_cons]; omega) hnl kk
theorem pw_astore_3 (C : Cx X S own cc f lo) {a0 a1 a2 : Option Value} {w : Option Value} {tl : List (Option Value)} {d k : Nat} {r : Int} (hd : decode cc pc = .ok (.astore_n 3, 1)) (hnl : nl a2 = true := by rfl) (kk : PW X S M (pc + 1) (a0 :: a1 :: a2 :: some (rv S d k r) :: tl) st) : PW X S M pc (a0 :: a1 :: a2 :: w :: tl) (rv S d k r :: st) := pw_astore_ng C (i := 3) hd (show 3 < List.length _ by simp only [List.length_cons]; omega) hnl kk
theorem pw_astore_4 (C : Cx X S own cc f lo) {a0 a1 a2 a3 : Option Value} {w : Option Value} {tl : List (Option Value)} {d k : Nat} {r : Int} (hd : decode cc pc = .ok (.astore 4, 2)) (hnl : nl a3 = true := by rfl) (kk : PW X S M (pc + 2) (a0 :: a1 :: a2 :: a3 :: some (rv S d k r) :: tl) st) : PW X S M pc (a0 :: a1 :: a2 :: a3 :: w :: tl) (rv S d k r :: st) := pw_astore_g C (i := 4) hd (show 4 < List.length _ by simp only [List.length_cons]; omega) hnl kk
theorem pw_astore_5 (C : Cx X S own cc f lo) {a0 a1 a2 a3 a4 : Option Value} {w : Option Value} {tl : List (Option Value)} {d k : Nat} {r : Int} (hd : decode cc pc = .ok (.astore 5, 2)) (hnl : nl a4 = true := by rfl) (kk : PW X S M (pc + 2) (a0 :: a1 :: a2 :: a3 :: a4 :: some (rv S d k r) :: tl) st) : PW X S M pc (a0 :: a1 :: a2 :: a3 :: a4 :: w :: tl) (rv S d k r :: st) := pw_astore_g C (i := 5) hd (show 5 < List.length _ by simp only [List.length_cons]; omega) hnl kk
theorem pw_astore_6 (C : Cx X S own cc f lo) {a0 a1 a2 a3 a4 a5 : Option Value} {w : Option Value} {tl : List (Option Value)} {d k : Nat} {r : Int} (hd : decode cc pc = .ok (.astore 6, 2)) (hnl : nl a5 = true := by rfl) (kk : PW X S M (pc + 2) (a0 :: a1 :: a2 :: a3 :: a4 :: a5 :: some (rv S d k r) :: tl) st) : PW X S M pc (a0 :: a1 :: a2 :: a3 :: a4 :: a5 :: w :: tl) (rv S d k r :: st) := pw_astore_g C (i := 6) hd (show 6 < List.length _ by simp only [List.length_cons]; omega) hnl kk
theorem pw_astore_7 (C : Cx X S own cc f lo) {a0 a1 a2 a3 a4 a5 a6 : Option Value} {w : Option Value} {tl : List (Option Value)} {d k : Nat} {r : Int} (hd : decode cc pc = .ok (.astore 7, 2)) (hnl : nl a6 = true := by rfl) (kk : PW X S M (pc + 2) (a0 :: a1 :: a2 :: a3 :: a4 :: a5 :: a6 :: some (rv S d k r) :: tl) st) : PW X S M pc (a0 :: a1 :: a2 :: a3 :: a4 :: a5 :: a6 :: w :: tl) (rv S d k r :: st) := pw_astore_g C (i := 7) hd (show 7 < List.length _ by simp only [List.length_cons]; omega) hnl kk
theorem pw_astore_8 (C : Cx X S own cc f lo) {a0 a1 a2 a3 a4 a5 a6 a7 : Option Value} {w : Option Value} {tl : List (Option Value)} {d k : Nat} {r : Int} (hd : decode cc pc = .ok (.astore 8, 2)) (hnl : nl a7 = true := by rfl) (kk : PW X S M (pc + 2) (a0 :: a1 :: a2 :: a3 :: a4 :: a5 :: a6 :: a7 :: some (rv S d k r) :: tl) st) : PW X S M pc (a0 :: a1 :: a2 :: a3 :: a4 :: a5 :: a6 :: a7 :: w :: tl) (rv S d k r :: st) := pw_astore_g C (i := 8) hd (show 8 < List.length _ by simp only [List.length_cons]; omega) hnl kk
theorem pw_astore_9 (C : Cx X S own cc f lo) {a0 a1 a2 a3 a4 a5 a6 a7 a8 : Option Value} {w : Option Value} {tl : List (Option Value)} {d k : Nat} {r : Int} (hd : decode cc pc = .ok (.astore 9, 2)) (hnl : nl a8 = true := by rfl) (kk : PW X S M (pc + 2) (a0 :: a1 :: a2 :: a3 :: a4 :: a5 :: a6 :: a7 :: a8 :: some (rv S d k r) :: tl) st) : PW X S M pc (a0 :: a1 :: a2 :: a3 :: a4 :: a5 :: a6 :: a7 :: a8 :: w :: tl) (rv S d k r :: st) := pw_astore_g C (i := 9) hd (show 9 < List.length _ by simp only [List.length_cons]; omega) hnl kk
theorem pw_lstore_0 (C : Cx X S own cc f lo) {w w2 : Option Value} {tl : List (Option Value)} {x : Int} (hd : decode cc pc = .ok (.lstore_n 0, 1)) (k : PW X S M (pc + 1) (some (jv x) :: none :: tl) st) : PW X S M pc (w :: w2 :: tl) (jv x :: st) := pw_lstore_ng C (i := 0) hd (show 1 < List.length _ by simp only [List.length_cons]; omega) trivial k
theorem pw_lstore_1 (C : Cx X S own cc f lo) {a0 : Option Value} {w w2 : Option Value} {tl : List (Option Value)} {x : Int} (hd : decode cc pc = .ok (.lstore_n 1, 1)) (hnl : nl a0 = true := by rfl) (k : PW X S M (pc + 1) (a0 :: some (jv x) :: none :: tl) st) : PW X S M pc (a0 :: w :: w2 :: tl) (jv x :: st) := pw_lstore_ng C (i := 1) hd (show 2 < List.length _ by simp only [List.length_cons]; omega) hnl k
theorem pw_lstore_2 (C : Cx X S own cc f lo) {a0 a1 : Option Value} {w w2 : Option Value} {tl : List (Option Value)} {x : Int} (hd : decode cc pc = .ok (.lstore_n 2, 1)) (hnl : nl a1 = true := by rfl) (k : PW X S M (pc + 1) (a0 :: a1 :: some (jv x) :: none :: tl) st) : PW X S M pc (a0 :: a1 :: w :: w2 :: tl) (jv x :: st) := pw_lstore_ng C (i := 2) hd (show 3 < List.length _ by simp only [List.length_cons]; omega) hnl k
theorem pw_lstore_3 (C : Cx X S own cc f lo) {a0 a1 a2 : Option Value} {w w2 : Option Value} {tl : List (Option Value)} {x : Int} (hd : decode cc pc = .ok (.lstore_n 3, 1)) (hnl : nl a2 = true := by rfl) (k : PW X S M (pc + 1) (a0 :: a1 :: a2 :: some (jv x) :: none :: tl) st) : PW X S M pc (a0 :: a1 :: a2 :: w :: w2 :: tl) (jv x :: st) := pw_lstore_ng C (i := 3) hd (show 4 < List.length _ by simp only [List.length_cons]; omega) hnl k
theorem pw_lstore_4 (C : Cx X S own cc f lo) {a0 a1 a2 a3 : Option Value} {w w2 : Option Value} {tl : List (Option Value)} {x : Int} (hd : decode cc pc = .ok (.lstore 4, 2)) (hnl : nl a3 = true := by rfl) (k : PW X S M (pc + 2) (a0 :: a1 :: a2 :: a3 :: some (jv x) :: none :: tl) st) : PW X S M pc (a0 :: a1 :: a2 :: a3 :: w :: w2 :: tl) (jv x :: st) := pw_lstore_g C (i := 4) hd (show 5 < List.length _ by simp only [List.length_cons]; omega) hnl k
theorem pw_lstore_5 (C : Cx X S own cc f lo) {a0 a1 a2 a3 a4 : Option Value} {w w2 : Option Value} {tl : List (Option Value)} {x : Int} (hd : decode cc pc = .ok (.lstore 5, 2)) (hnl : nl a4 = true := by rfl) (k : PW X S M (pc + 2) (a0 :: a1 :: a2 :: a3 :: a4 :: some (jv x) :: none :: tl) st) : PW X S M pc (a0 :: a1 :: a2 :: a3 :: a4 :: w :: w2 :: tl) (jv x :: st) := pw_lstore_g C (i := 5) hd (show 6 < List.length _ by simp only [List.length_cons]; omega) hnl k
theorem pw_lstore_6 (C : Cx X S own cc f lo) {a0 a1 a2 a3 a4 a5 : Option Value} {w w2 : Option Value} {tl : List (Option Value)} {x : Int} (hd : decode cc pc = .ok (.lstore 6, 2)) (hnl : nl a5 = true := by rfl) (k : PW X S M (pc + 2) (a0 :: a1 :: a2 :: a3 :: a4 :: a5 :: some (jv x) :: none :: tl) st) : PW X S M pc (a0 :: a1 :: a2 :: a3 :: a4 :: a5 :: w :: w2 :: tl) (jv x :: st) := pw_lstore_g C (i := 6) hd (show 7 < List.length _ by simp only [List.length_cons]; omega) hnl k
theorem pw_lstore_7 (C : Cx X S own cc f lo) {a0 a1 a2 a3 a4 a5 a6 : Option Value} {w w2 : Option Value} {tl : List (Option Value)} {x : Int} (hd : decode cc pc = .ok (.lstore 7, 2)) (hnl : nl a6 = true := by rfl) (k : PW X S M (pc + 2) (a0 :: a1 :: a2 :: a3 :: a4 :: a5 :: a6 :: some (jv x) :: none :: tl) st) : PW X S M pc (a0 :: a1 :: a2 :: a3 :: a4 :: a5 :: a6 :: w :: w2 :: tl) (jv x :: st) := pw_lstore_g C (i := 7) hd (show 8 < List.length _ by simp only [List.length_cons]; omega) hnl k
theorem pw_lstore_8 (C : Cx X S own cc f lo) {a0 a1 a2 a3 a4 a5 a6 a7 : Option Value} {w w2 : Option Value} {tl : List (Option Value)} {x : Int} (hd : decode cc pc = .ok (.lstore 8, 2)) (hnl : nl a7 = true := by rfl) (k : PW X S M (pc + 2) (a0 :: a1 :: a2 :: a3 :: a4 :: a5 :: a6 :: a7 :: some (jv x) :: none :: tl) st) : PW X S M pc (a0 :: a1 :: a2 :: a3 :: a4 :: a5 :: a6 :: a7 :: w :: w2 :: tl) (jv x :: st) := pw_lstore_g C (i := 8) hd (show 9 < List.length _ by simp only [List.length_cons]; omega) hnl k
theorem pw_lstore_9 (C : Cx X S own cc f lo) {a0 a1 a2 a3 a4 a5 a6 a7 a8 : Option Value} {w w2 : Option Value} {tl : List (Option Value)} {x : Int} (hd : decode cc pc = .ok (.lstore 9, 2)) (hnl : nl a8 = true := by rfl) (k : PW X S M (pc + 2) (a0 :: a1 :: a2 :: a3 :: a4 :: a5 :: a6 :: a7 :: a8 :: some (jv x) :: none :: tl) st) : PW X S M pc (a0 :: a1 :: a2 :: a3 :: a4 :: a5 :: a6 :: a7 :: a8 :: w :: w2 :: tl) (jv x :: st) := pw_lstore_g C (i := 9) hd (show 10 < List.length _ by simp only [List.length_cons]; omega) hnl k
theorem pw_lstore_10 (C : Cx X S own cc f lo) {a0 a1 a2 a3 a4 a5 a6 a7 a8 a9 : Option Value} {w w2 : Option Value} {tl : List (Option Value)} {x : Int} (hd : decode cc pc = .ok (.lstore 10, 2)) (hnl : nl a9 = true := by rfl) (k : PW X S M (pc + 2) (a0 :: a1 :: a2 :: a3 :: a4 :: a5 :: a6 :: a7 :: a8 :: a9 :: some (jv x) :: none :: tl) st) : PW X S M pc (a0 :: a1 :: a2 :: a3 :: a4 :: a5 :: a6 :: a7 :: a8 :: a9 :: w :: w2 :: tl) (jv x :: st) := pw_lstore_g C (i := 10) hd (show 11 < List.length _ by simp only [List.length_cons]; omega) hnl k
theorem pw_lstore_11 (C : Cx X S own cc f lo) {a0 a1 a2 a3 a4 a5 a6 a7 a8 a9 a10 : Option Value} {w w2 : Option Value} {tl : List (Option Value)} {x : Int} (hd : decode cc pc = .ok (.lstore 11, 2)) (hnl : nl a10 = true := by rfl) (k : PW X S M (pc + 2) (a0 :: a1 :: a2 :: a3 :: a4 :: a5 :: a6 :: a7 :: a8 :: a9 :: a10 :: some (jv x) :: none :: tl) st) : PW X S M pc (a0 :: a1 :: a2 :: a3 :: a4 :: a5 :: a6 :: a7 :: a8 :: a9 :: a10 :: w :: w2 :: tl) (jv x :: st) := pw_lstore_g C (i := 11) hd (show 12 < List.length _ by simp only [List.length_cons]; omega) hnl k
theorem pw_lstore_12 (C : Cx X S own cc f lo) {a0 a1 a2 a3 a4 a5 a6 a7 a8 a9 a10 a11 : Option Value} {w w2 : Option Value} {tl : List (Option Value)} {x : Int} (hd : decode cc pc = .ok (.lstore 12, 2)) (hnl : nl a11 = true := by rfl) (k : PW X S M (pc + 2) (a0 :: a1 :: a2 :: a3 :: a4 :: a5 :: a6 :: a7 :: a8 :: a9 :: a10 :: a11 :: some (jv x) :: none :: tl) st) : PW X S M pc (a0 :: a1 :: a2 :: a3 :: a4 :: a5 :: a6 :: a7 :: a8 :: a9 :: a10 :: a11 :: w :: w2 :: tl) (jv x :: st) := pw_lstore_g C (i := 12) hd (show 13 < List.length _ by simp only [List.length_cons]; omega) hnl k
theorem pw_lstore_13 (C : Cx X S own cc f lo) {a0 a1 a2 a3 a4 a5 a6 a7 a8 a9 a10 a11 a12 : Option Value} {w w2 : Option Value} {tl : List (Option Value)} {x : Int} (hd : decode cc pc = .ok (.lstore 13, 2)) (hnl : nl a12 = true := by rfl) (k : PW X S M (pc + 2) (a0 :: a1 :: a2 :: a3 :: a4 :: a5 :: a6 :: a7 :: a8 :: a9 :: a10 :: a11 :: a12 :: some (jv x) :: none :: tl) st) : PW X S M pc (a0 :: a1 :: a2 :: a3 :: a4 :: a5 :: a6 :: a7 :: a8 :: a9 :: a10 :: a11 :: a12 :: w :: w2 :: tl) (jv x :: st) := pw_lstore_g C (i := 13) hd (show 14 < List.length _ by simp only [List.length_cons]; omega) hnl k
/-- fields -/
theorem pw_getf (C : Cx X S own cc f lo) {d k ci N n ix : Nat} {cls : String} {T : u_T} {fs : List (Nat × Nat × Nat)} {q : Nat × Nat × Nat} (hfl : Cond.fieldLink own ix cls (T n).2.1 (T n).2.2.1 ∈ tbl0) (hin : ∀ w ∈ u_ws cls T N, w ∈ tbl0) (hcl : vwCl[ci]? = some (cls, T, N)) (hnN : n < N) (hdecl : (T n).1 = cls) (ho : OB d k ci fs) (hq : fs[n]? = some q) (hd : decode cc pc = .ok (.getfield ix, 3))
    (kk : InR (M d k 0 n) → PW X S M (pc + 3) ls (fv S q (M d k 0 n) :: st)) : PW X S M pc ls (rv S d k 0 :: st) :=
  fun hn hR H locs la hP hS hl => by
    obtain ⟨j, hj, hw⟩ := ws_get ho.2 S M
    rw [ho.1] at hw
    have hce : cellOf S (3, ci, fs) (M d k 0) = .inr (ci, flds S fs (M d k 0) 0) := rfl
    rw [hce] at hw
    refine va_get C.1 C.2.1 (Ts := tbl0) (v := fv S q (M d k 0 n)) C.2.2.2.2.1 hin C.2.2.2.1 C.2.2.2.2.2.2.1 hP j hw hcl n hnN (C.2.2.2.2.1 _ hfl) (fun x hx => by rw [hdecl] at hx; exact hx) ?_ hd (kk (hR d k 0 n) hn hR H locs la hP hS hl)
    rw [flds_get, hq]
    show some (fv S q (M d k 0 (0 + n))) = _
    rw [Int.zero_add]
theorem pw_putf (C : Cx X S own cc f lo) {d k ci N n ix : Nat} {cls : String} {T : u_T} {fs : List (Nat × Nat × Nat)} {q : Nat × Nat × Nat} {v : Int} {ty0 : Nat → FieldType} (hfl : Cond.fieldLink own ix cls (T n).2.1 (T n).2.2.1 ∈ tbl0) (hin : ∀ w ∈ u_ws cls T N, w ∈ tbl0) (hcl : vwCl[ci]? = some (cls, T, N)) (hnN : n < N) (hdecl : (T n).1 = cls) (hty : ∀ k, k < N → parseFieldDescriptor (T k).2.2.1 = some (ty0 k)) (hnm : ∀ a, a < N → ∀ b, b < N → a ≠ b → (T a).2.1 ≠ (T b).2.1) (hfin : (T n).2.2.2 = false) (ho : OB d k ci fs) (hq : fs[n]? = some q)
    {ty : FieldType} (hdt : parseFieldDescriptor (T n).2.2.1 = some ty) (hnar : narrow ty (fv S q v) = fv S q v) (hfit : fits ty (fv S q v) = true) (hv : InR v) (hd : decode cc pc = .ok (.putfield ix, 3))
    (kk : PW X S (mst M d (vup (M d) k 0 n v)) (pc + 3) ls st) : PW X S M pc ls (fv S q v :: rv S d k 0 :: st) :=
  fun hn hR H locs la hP hS hl => by
    obtain ⟨j, hj, hw⟩ := ws_get ho.2 S M
    have hset := ws_set hj S M n v
    rw [ho.1] at hw hset
    have hce : ∀ g, cellOf S (3, ci, fs) g = .inr (ci, flds S fs g 0) := fun g => rfl
    rw [hce] at hw hset
    refine va_put C.1 C.2.1 (Ts := tbl0) (v := fv S q v) (ty := ty) C.2.2.2.2.1 hin ty0 hty hnm C.2.2.2.1 C.2.2.2.2.2.2.1 hP (ws_D C.2.2.2.2.2.2.2.1 C.2.2.2.2.2.2.2.2.1 M) hS j hw hcl n hnN (C.2.2.2.2.1 _ hfl) (fun x hx => by rw [hdecl] at hx; exact hx) hfin hdt hnar hfit ?_ hd (fun H1 locs1 hP1 hD1 hS1 => ?_)
    · have h1 : (flds S fs (M d k 0) 0)[n]? = some (fv S q (M d k 0 (0 + n))) := by rw [flds_get, hq]; rfl
      exact (List.getElem?_eq_some_iff.mp h1).1
    · rw [flds_set hq, hset] at hP1
      exact kk hn (MR.mst hR ((hR d).up hv)) H1 locs1 la hP1 hS1 hl
theorem pw_iald (C : Cx X S own cc f lo) {d k n : Nat} {r i : Int} (ha : AR d k r n) (h0 : 0 ≤ i) (h1 : i < n) (hn : n < 1000) (hd : decode cc pc = .ok (.iaload, 1)) (kk : InR (M d k r i) → PW X S M (pc + 1) ls (iv (M d k r i) :: st)) : PW X S M pc ls (iv i :: rv S d k r :: st) :=
  fun hn' hR H locs la hP hS hl => by
    obtain ⟨j, hj, hw⟩ := ws_get ha.2 S M
    rw [ha.1] at hw
    refine va_iald C.1 C.2.1 C.2.2.2.2.2.2.1 hP j 0 hw rfl (inI (n := n) h0 h1 (by omega)) hd ?_
    have e : ((Int32.ofInt i).toNatClampNeg : Int) = i := by rw [clI h0 (by omega)]; omega
    show xW X H locs (F0 (xm X) (pc + 1) la (.int (Int32.ofInt (M d k r ((Int32.ofInt i).toNatClampNeg : Int))) :: st))
    rw [e]
    exact kk (hR d k r i) hn' hR H locs la hP hS hl
theorem pw_zald (C : Cx X S own cc f lo) {d k n : Nat} {r i : Int} (ha : shp d k = (1, n, []) ∧ (d, k, r) ∈ allPos) (h0 : 0 ≤ i) (h1 : i < n) (hn : n < 1000) (hd : decode cc pc = .ok (.baload, 1)) (kk : InR (M d k r i) → PW X S M (pc + 1) ls (iv (M d k r i) :: st)) : PW X S M pc ls (iv i :: rv S d k r :: st) :=
  fun hn' hR H locs la hP hS hl => by
    obtain ⟨j, hj, hw⟩ := ws_get ha.2 S M
    rw [ha.1] at hw
    refine va_zald C.1 C.2.1 C.2.2.2.2.2.2.1 hP j 1 hw rfl (inI (n := n) h0 h1 (by omega)) hd ?_
    have e : ((Int32.ofInt i).toNatClampNeg : Int) = i := by rw [clI h0 (by omega)]; omega
    show xW X H locs (F0 (xm X) (pc + 1) la (.int (Int32.ofInt (M d k r ((Int32.ofInt i).toNatClampNeg : Int))) :: st))
    rw [e]
    exact kk (hR d k r i) hn' hR H locs la hP hS hl
theorem fup_nat {f : Int → Int} {i v : Int} (h0 : 0 ≤ i) (h1 : i < 2147483648) : (fun j : Nat => Int32.ofInt (fup f i v j)) = upd (fun j : Nat => Int32.ofInt (f j)) (Int32.ofInt i).toNatClampNeg (Int32.ofInt v) := by
  funext j
  rw [clI h0 h1]
  unfold upd fup
  by_cases h : (j : Int) = i
  · rw [if_pos h, if_pos (by omega)]
  · rw [if_neg h, if_neg (by omega)]
theorem pw_iast (C : Cx X S own cc f lo) {d k n : Nat} {r i v : Int} (ha : AR d k r n) (h0 : 0 ≤ i) (h1 : i < n) (hn : n < 1000) (hv : InR v) (hd : decode cc pc = .ok (.iastore, 1)) (kk : PW X S (mst M d (vup (M d) k r i v)) (pc + 1) ls st) : PW X S M pc ls (iv v :: iv i :: rv S d k r :: st) :=
  fun hn' hR H locs la hP hS hl => by
    obtain ⟨j, hj, hw⟩ := ws_get ha.2 S M
    have hset := ws_set hj S M i v
    rw [ha.1] at hw hset
    refine va_iast C.1 C.2.1 C.2.2.2.2.2.2.1 hP (ws_D C.2.2.2.2.2.2.2.1 C.2.2.2.2.2.2.2.2.1 M) hS j 0 hw rfl (inI (n := n) h0 h1 (by omega)) hd (fun H1 locs1 hP1 hD1 hS1 => ?_)
    rw [← fup_nat h0 (by omega)] at hP1
    have hP2 : va_P S.1 vwCl ((wsOf S M).set j (S.2.1 d k r, cellOf S (0, n, []) (fup (M d k r) i v))) H1 := hP1
    rw [hset] at hP2
    exact kk hn' (MR.mst hR ((hR d).up hv)) H1 locs1 la hP2 hS1 hl
theorem pw_zast (C : Cx X S own cc f lo) {d k n : Nat} {r i v : Int} (ha : shp d k = (1, n, []) ∧ (d, k, r) ∈ allPos) (h0 : 0 ≤ i) (h1 : i < n) (hn : n < 1000) (hv : v = 0 ∨ v = 1) (hd : decode cc pc = .ok (.bastore, 1)) (kk : PW X S (mst M d (vup (M d) k r i v)) (pc + 1) ls st) : PW X S M pc ls (iv v :: iv i :: rv S d k r :: st) :=
  fun hn' hR H locs la hP hS hl => by
    obtain ⟨j, hj, hw⟩ := ws_get ha.2 S M
    have hset := ws_set hj S M i v
    rw [ha.1] at hw hset
    have hnar : vp_nar .boolean (Int32.ofInt v) = Int32.ofInt v := by rcases hv with rfl | rfl <;> decide
    refine va_zast C.1 C.2.1 C.2.2.2.2.2.2.1 hP (ws_D C.2.2.2.2.2.2.2.1 C.2.2.2.2.2.2.2.2.1 M) hS j 1 hw rfl (inI (n := n) h0 h1 (by omega)) hd (fun H1 locs1 hP1 hD1 hS1 => ?_)
    rw [hnar, ← fup_nat h0 (by omega)] at hP1
    have hP2 : va_P S.1 vwCl ((wsOf S M).set j (S.2.1 d k r, cellOf S (1, n, []) (fup (M d k r) i v))) H1 := hP1
    rw [hset] at hP2
    exact kk hn' (MR.mst hR ((hR d).up (by rcases hv with rfl | rfl <;> unfold InR <;> omega))) H1 locs1 la hP2 hS1 hl
theorem pw_aald (C : Cx X S own cc f lo) {d k n k2 : Nat} {i : Int} (ha : AQ d k n k2) (h0 : 0 ≤ i) (h1 : i < n) (hn : n < 1000) (hd : decode cc pc = .ok (.aaload, 1)) (kk : PW X S M (pc + 1) ls (rv S d k2 i :: st)) : PW X S M pc ls (iv i :: rv S d k 0 :: st) :=
  fun hn' hR H locs la hP hS hl => by
    obtain ⟨j, hj, hw⟩ := ws_get ha.2 S M
    rw [ha.1] at hw
    have hce : cellOf S (2, n, [(0, d, k2)]) (M d k 0) = .inl (S.2.2.2.2, n, .inr (.inr (.inr (.inr (fun i => if i < n then some (S.2.1 d k2 i) else none))))) := rfl
    rw [hce] at hw
    have hin := inI h0 h1 (show n < 2147483648 by omega)
    have hlt : (Int32.ofInt i).toNatClampNeg < n := Nat.not_le.mp fun q => hin (Or.inr q)
    have e : ((Int32.ofInt i).toNatClampNeg : Int) = i := by rw [clI h0 (by omega)]; omega
    refine W.aald (v := rv S d k2 i) (ty := .array .int) C.1 C.2.1 (hP j _ hw) ((C.2.2.2.2.2.2.1.2 2 (S.2.2.2.2, .array .int) rfl).1 n (fun j => va_rf (if j < n then some (S.2.1 d k2 j) else none))) rfl (fun q => by cases q) (by show ¬ (_ < 0 ∨ (arrV _ _ _).slots.size ≤ _); rw [arrV_size]; exact hin) ?_ rfl rfl hd (kk hn' hR H locs la hP hS hl)
    show (arrV _ _ _).slots[_]? = _
    rw [arrV_read _ _ hlt]
    show some (va_rf (if (Int32.ofInt i).toNatClampNeg < n then some (S.2.1 d k2 ((Int32.ofInt i).toNatClampNeg : Int)) else none)) = _
    rw [if_pos hlt, e]
    rfl
def vcp (g : Int → Int) (h : Int → Int) (sp dp n : Int) : Int → Int := fun j => if dp ≤ j ∧ j < dp + n then h (sp + (j - dp)) else g j
def CPY (own : String) (ix : Nat) : Prop := Cond.methodLink own ix arraycopyName ∈ tbl0 ∧ Cond.native arraycopyName ∈ tbl0 ∧ Cond.static arraycopyName ∈ tbl0 ∧ Cond.initialized "java/lang/System" ∈ tbl0
theorem pw_copy (C : Cx X S own cc f lo) {ix : Nat} (hw : CPY own ix) {d1 k1 n1 d2 k2 n2 : Nat} {r1 r2 sp dp n : Int} (h1 : AR d1 k1 r1 n1) (h2 : AR d2 k2 r2 n2) (hs : 0 ≤ sp) (hdp : 0 ≤ dp) (hn : 0 ≤ n) (hb1 : sp + n ≤ n1) (hb2 : dp + n ≤ n2) (hn1 : n1 < 1000) (hn2 : n2 < 1000) (hst : (st.map fun v => v.category).sum + (nativeFrameWords "java/lang/System" "arraycopy" 5 + 11) ≤ lo) (hf : 1 ≤ f) (hd : decode cc pc = .ok (.invokestatic ix, 3))
    (kk : PW X S (mst M d2 (vset (M d2) k2 r2 (vcp (M d2 k2 r2) (M d1 k1 r1) sp dp n))) (pc + 3) ls st) : PW X S M pc ls (iv n :: iv dp :: rv S d2 k2 r2 :: iv sp :: rv S d1 k1 r1 :: st) :=
  fun hn' hR H locs la hP hS hl => by
    obtain ⟨j1, hj1, hw1⟩ := ws_get h1.2 S M
    obtain ⟨j2, hj2, hw2⟩ := ws_get h2.2 S M
    have hset := ws_setf hj2 S M (vcp (M d2 k2 r2) (M d1 k1 r1) sp dp n)
    rw [h1.1] at hw1
    rw [h2.1] at hw2 hset
    have es : (Int32.ofInt sp).toNatClampNeg = sp.toNat := clI hs (by omega)
    have ed : (Int32.ofInt dp).toNatClampNeg = dp.toNat := clI hdp (by omega)
    have en : (Int32.ofInt n).toNatClampNeg = n.toNat := clI hn (by omega)
    refine va_copyi C.1 C.2.1 (by rw [C.2.2.1]; exact hl.1.symm) C.2.2.2.1 (C.2.2.2.2.1 _ hw.1) (C.2.2.2.2.1 _ hw.2.1) (C.2.2.2.2.1 _ hw.2.2.1) (C.2.2.2.2.1 _ hw.2.2.2) C.2.2.2.2.2.2.1 hP (ws_D C.2.2.2.2.2.2.2.1 C.2.2.2.2.2.2.2.2.1 M) hS j1 j2 0 0 hw1 hw2 rfl rfl rfl (by rw [lt0I ⟨by omega, by omega⟩]; omega) (by rw [lt0I ⟨by omega, by omega⟩]; omega) (by rw [lt0I ⟨by omega, by omega⟩]; omega) (by show _ ≤ n1; rw [es, en]; omega) (by show _ ≤ n2; rw [ed, en]; omega) (fun i _ => rfl) (by rw [C.2.2.2.2.2.2.2.2.2.1]; exact hf) (by rw [C.2.2.2.2.2.2.2.2.2.2.1]; exact hst) hd (fun H1 locs1 hP1 hD1 hS1 => ?_)
    have e : va_cpy (fun i : Nat => Int32.ofInt (M d1 k1 r1 i)) (fun i : Nat => Int32.ofInt (M d2 k2 r2 i)) (Int32.ofInt sp).toNatClampNeg (Int32.ofInt dp).toNatClampNeg (Int32.ofInt n).toNatClampNeg = (fun i : Nat => Int32.ofInt (vcp (M d2 k2 r2) (M d1 k1 r1) sp dp n i)) := by
      funext i
      rw [es, ed, en]
      unfold va_cpy vcp
      by_cases h : dp ≤ (i : Int) ∧ (i : Int) < dp + n
      · rw [if_pos h, if_pos (by omega)]
        show Int32.ofInt (M d1 k1 r1 ((sp.toNat + (i - dp.toNat) : Nat) : Int)) = _
        rw [show ((sp.toNat + (i - dp.toNat) : Nat) : Int) = sp + ((i : Int) - dp) by omega]
      · rw [if_neg h, if_neg (by omega)]
    rw [e] at hP1
    have hP2 : va_P S.1 vwCl ((wsOf S M).set j2 (S.2.1 d2 k2 r2, cellOf S (0, n2, []) (vcp (M d2 k2 r2) (M d1 k1 r1) sp dp n))) H1 := hP1
    rw [hset] at hP2
    refine kk hn' (MR.mst hR ((hR d2).set (fun i => ?_))) H1 locs1 la hP2 hS1 hl
    unfold vcp
    split
    · exact hR _ _ _ _
    · exact hR _ _ _ _
/-- ends -/
theorem pw_end (C : Cx X S own cc f lo) {ret : Option FieldType} (R : CR X S P ret) {v : Option Value} (hp : P v M) {H : Heap} {locs : List Loc} (hR : MR M) (hP : va_P S.1 vwCl (wsOf S M) H) (hS : va_S (xA X) (xs X).heap H locs) : ∀ t : State, t.heap = H → (xs X).WarmedH t.vm → pwQ S P (xa X) (xs X) (.returned v) t := by
  intro t ht hW
  have hS2 : va_S (wsA S) (xs X).heap H locs := by rw [← R.2.2.2.1]; exact hS
  exact ⟨⟨v, M, rfl, hp, hR, by rw [ht]; exact hP⟩, hS2.F ht⟩
theorem pw_iret (C : Cx X S own cc f lo) (R : CR X S P (some .int)) {v : Int} (hd : decode cc pc = .ok (.ireturn, 1)) (hp : P (some (iv v)) M) : PW X S M pc ls [iv v] :=
  fun hn hR H locs la hP hS hl => by
    have hlk : (xM X).locks = false := R.2.2.2.2.2
    have hE := pw_end C R hp hR hP hS
    have hF : ∀ q ∈ locs, wsA S q.base := by rw [← R.2.2.2.1]; exact hS.2.2
    unfold xW
    rw [R.1, R.2.1, R.2.2.1]
    exact W.iret C.1 C.2.1 R.2.2.2.2.1 hE hF hd
theorem pw_zret (C : Cx X S own cc f lo) (R : CR X S P (some .boolean)) {v : Int} (hd : decode cc pc = .ok (.ireturn, 1)) (hv : v = 0 ∨ v = 1) (hp : P (some (iv v)) M) : PW X S M pc ls [iv v] :=
  fun hn hR H locs la hP hS hl => by
    have hlk : (xM X).locks = false := R.2.2.2.2.2
    have hE := pw_end C R hp hR hP hS
    have hF : ∀ q ∈ locs, wsA S q.base := by rw [← R.2.2.2.1]; exact hS.2.2
    unfold xW
    rw [R.1, R.2.1, R.2.2.1]
    exact W.zret C.1 C.2.1 R.2.2.2.2.1 (by rcases hv with rfl | rfl <;> rfl) hE hF hd
theorem pw_lret (C : Cx X S own cc f lo) (R : CR X S P (some .long)) {v : Int} (hd : decode cc pc = .ok (.lreturn, 1)) (hp : P (some (jv v)) M) : PW X S M pc ls [jv v] :=
  fun hn hR H locs la hP hS hl => by
    have hlk : (xM X).locks = false := R.2.2.2.2.2
    have hE := pw_end C R hp hR hP hS
    have hF : ∀ q ∈ locs, wsA S q.base := by rw [← R.2.2.2.1]; exact hS.2.2
    unfold xW
    rw [R.1, R.2.1, R.2.2.1]
    exact W.lret C.1 C.2.1 R.2.2.2.2.1 hE hF hd
theorem pw_vret (C : Cx X S own cc f lo) (R : CR X S P none) (hd : decode cc pc = .ok (.return_, 1)) (hp : P none M) : PW X S M pc ls [] :=
  fun hn hR H locs la hP hS hl => by
    have hlk : (xM X).locks = false := R.2.2.2.2.2
    have hE := pw_end C R hp hR hP hS
    have hF : ∀ q ∈ locs, wsA S q.base := by rw [← R.2.2.2.1]; exact hS.2.2
    unfold xW
    rw [R.1, R.2.1, R.2.2.1]
    exact W.vret C.1 C.2.1 R.2.2.2.2.1 hE hF hd
/-- what a method answers, and the memory behind it -/
def rI (x : Int) (M : Mem) : Option Value → Mem → Prop := fun o N => o = some (iv x) ∧ N = M
def rJ (x : Int) (M : Mem) : Option Value → Mem → Prop := fun o N => o = some (jv x) ∧ N = M
def rV (M : Mem) : Option Value → Mem → Prop := fun o N => o = none ∧ N = M
theorem pw_ireti (C : Cx X S own cc f lo) {x v : Int} {N : Mem} (R : CR X S (rI x N) (some .int)) (hd : decode cc pc = .ok (.ireturn, 1)) (hv : v = x) (hM : M = N) : PW X S M pc ls [iv v] := pw_iret C R hd ⟨by rw [hv], hM⟩
theorem pw_zreti (C : Cx X S own cc f lo) {x v : Int} {N : Mem} (R : CR X S (rI x N) (some .boolean)) (hd : decode cc pc = .ok (.ireturn, 1)) (h01 : v = 0 ∨ v = 1) (hv : v = x) (hM : M = N) : PW X S M pc ls [iv v] := pw_zret C R hd h01 ⟨by rw [hv], hM⟩
theorem pw_zret1 (C : Cx X S own cc f lo) {Q : Prop} {N : Mem} (R : CR X S (rI (b01 Q) N) (some .boolean)) (hd : decode cc pc = .ok (.ireturn, 1)) (h : Q) (hM : M = N) : PW X S M pc ls [iv 1] := pw_zret C R hd (Or.inr rfl) ⟨by rw [b01_t h], hM⟩
theorem pw_zret0 (C : Cx X S own cc f lo) {Q : Prop} {N : Mem} (R : CR X S (rI (b01 Q) N) (some .boolean)) (hd : decode cc pc = .ok (.ireturn, 1)) (h : ¬ Q) (hM : M = N) : PW X S M pc ls [iv 0] := pw_zret C R hd (Or.inl rfl) ⟨by rw [b01_f h], hM⟩
theorem pw_zretb (C : Cx X S own cc f lo) {Q Q2 : Prop} {N : Mem} (R : CR X S (rI (b01 Q) N) (some .boolean)) (hd : decode cc pc = .ok (.ireturn, 1)) (h : Q2 ↔ Q) (hM : M = N) : PW X S M pc ls [iv (b01 Q2)] := pw_zret C R hd (b01_r Q2) ⟨by rw [b01_e h], hM⟩
theorem pw_lreti (C : Cx X S own cc f lo) {x v : Int} {N : Mem} (R : CR X S (rJ x N) (some .long)) (hd : decode cc pc = .ok (.lreturn, 1)) (hv : v = x) (hM : M = N) : PW X S M pc ls [jv v] := pw_lret C R hd ⟨by rw [hv], hM⟩
theorem pw_vreti (C : Cx X S own cc f lo) {N : Mem} (R : CR X S (rV N) none) (hd : decode cc pc = .ok (.return_, 1)) (hM : M = N) : PW X S M pc ls [] := pw_vret C R hd ⟨rfl, hM⟩
/-- calls -/
theorem pw_blind {as : List Value} : FrameBlind (pwPc S as M) := fun a U g mk q => ⟨q.1, q.2.1, va_K.moved (u := U) (U := U.calling g mk a) (Vm.Alike.refl U.vm) q.2.2.1, nest_same (s := U) (U := U.calling g mk a) rfl q.2.2.2⟩
theorem pw_back (C : Cx X S own cc f lo) {st0 : List Value} {a : Array Value} (hr : ∀ (H : Heap) (locs : List Loc) (la : Array Slot), va_P S.1 vwCl (wsOf S M) H → va_S (xA X) (xs X).heap H locs → lv_has la (xL X) (lvOf 0 ls) → MR M → va_Run X.1 X.2.1 X.2.2.1 (xR X) (xs X) (xm X) (xa X) (xb X) (xM X) (xc X) H locs (xk X) (xn X) 0 0 (F0 (xm X) pc la st0) st (pwQ S P a) (wsA S))
    (kk : ∀ (v : Option Value) (N : Mem), P v N → PW X S N (pc + 3) ls (v.toList ++ st)) : PW X S M pc ls st0 := by
  intro hn hR H locs la hP hS hl T hT Xs
  obtain ⟨v, st₀, t, T', L, h0, X', hL, e1, e2, ⟨⟨w, N, hv, hp, hRN, hPN⟩, hz, hk⟩, stp⟩ := hr H locs la hP hS hl hR T hT Xs
  cases hv
  rw [h0] at hz hk
  have hA : ∀ q, wsA S q → xA X q := by
    rintro q ⟨x, hx, rfl⟩
    exact C.2.2.2.2.2.2.2.2.1 x hx
  obtain ⟨t2, a1, b1⟩ := kk v N hp hn hRN T'.heap (locs ++ L) la (by rw [e1]; exact hPN)
    ⟨Nat.le_trans hS.1 (by rw [e1]; exact hz), fun q h1 h2 => by rw [e1, hk q (Nat.lt_of_lt_of_le h1 hS.1) (fun z => h2 (hA q z))]; exact hS.2.1 q h1 h2, fun q hq => by
      rcases List.mem_append.mp hq with h | h
      · exact hS.2.2 q h
      · exact hA _ (hL q h)⟩ hl T' rfl X'
  exact ⟨t2, stp t2 a1, b1⟩
theorem pw_pre (C : Cx X S own cc f lo) {as : List Value} {H : Heap} (hP : va_P S.1 vwCl (wsOf S M) H) : ∀ U : State, U.heap = H → (xs X).WarmedH U.vm → pwPc S as M as.toArray U := fun U hU hW => ⟨rfl, by rw [hU]; exact hP, va_K.moved hW.alike C.2.2.2.2.2.2.1, nest_warm hW C.2.2.2.2.2.1⟩
theorem pw_recv (C : Cx X S own cc f lo) {d k ci N : Nat} {cls : String} {T : u_T} {fs : List (Nat × Nat × Nat)} (ho : OB d k ci fs) (hcl : vwCl[ci]? = some (cls, T, N)) {H : Heap} (hP : va_P S.1 vwCl (wsOf S M) H) : ∃ cell : Cell, H[S.2.1 d k 0]? = some cell ∧ cell.vm.isStatics = false ∧ (xs X).vm.findClass cls = some cell.cls := by
  obtain ⟨j, hj, hw⟩ := ws_get ho.2 S M
  rw [ho.1] at hw
  have hce : cellOf S (3, ci, fs) (M d k 0) = .inr (ci, flds S fs (M d k 0) 0) := rfl
  rw [hce] at hw
  exact va_recv C.2.2.2.2.2.2.1 hP hcl hw
theorem pw_callV (C : Cx X S own cc f lo) {y : MethodName} {cc' : ByteArray} {maxL' n ix f' lo' d k ci N : Nat} {ret' : Option FieldType} {T : u_T} {fs : List (Nat × Nat × Nat)} (As : List Value) (hm : MI y cc' maxL' ret' n) (hv : MV y) (hl : Cond.methodLink own ix y ∈ tbl0) (ho : OB d k ci fs) (hcl : vwCl[ci]? = some (y.cls, T, N)) (hM : PM X.2.1 S y cc' maxL' ret' f' lo' (rv S d k 0 :: As) M P) (hroom : f' + 1 ≤ f ∧ 8 + (maxL' + 11) + lo' ≤ lo) (hAs : As.length = n) (hst : (st.map fun v => v.category).sum ≤ 8) (hd : decode cc pc = .ok (.invokevirtual ix, 3))
    (kk : ∀ (v : Option Value) (N : Mem), P v N → PW X S N (pc + 3) ls (v.toList ++ st)) : PW X S M pc ls (As.reverse ++ rv S d k 0 :: st) := by
  refine pw_back C (a := (rv S d k 0 :: As).toArray) (fun H locs la hP hS hla hR => ?_) kk
  have hb : CallB (xR X) (xs X) (xa X) own ix y cc' maxL' ret' (Cond.code y cc' maxL' ret' :: tbl0) { frames := f', cells := 0, slots := 0, locals := lo' } 0 0 n := callB_of n C.2.2.2.2.1 (good0 hm.1) rfl rfl rfl (C.2.2.2.2.1 _ hm.2.1) (C.2.2.2.2.1 _ hl) hm.2.2 (by rw [C.2.2.2.2.2.2.2.2.2.1, C.2.2.2.2.2.2.2.2.2.2.1]; exact hroom)
  exact va_runV (As := As) (rest := st) (g := F0 (xm X) pc la (As.reverse ++ rv S d k 0 :: st)) ⟨C.1, C.2.1, C.2.2.1, C.2.2.2.1, C.2.2.2.2.1⟩ (hM C.2.2.2.2.2.2.2.1 hR) ⟨hb, C.2.2.2.2.1 _ hv.1, C.2.2.2.2.1 _ hv.2⟩ ⟨pw_blind, pw_recv C ho hcl hP, pw_pre C hP⟩ rfl hAs hla.1 rfl (lv_room hst) hd ⟨C.2.2.2.2.2.2.2.2.2.2.2.1, C.2.2.2.2.2.2.2.2.2.2.2.2⟩
theorem pw_callS (C : Cx X S own cc f lo) {y : MethodName} {cc' : ByteArray} {maxL' n ix f' lo' : Nat} {ret' : Option FieldType} (As : List Value) (hm : MI y cc' maxL' ret' n) (hv : Cond.static y ∈ tbl0) (hl : Cond.methodLink own ix y ∈ tbl0) (hM : PM X.2.1 S y cc' maxL' ret' f' lo' As M P) (hroom : f' + 1 ≤ f ∧ 8 + (maxL' + 11) + lo' ≤ lo) (hAs : As.length = n) (hst : (st.map fun v => v.category).sum ≤ 8) (hd : decode cc pc = .ok (.invokestatic ix, 3))
    (kk : ∀ (v : Option Value) (N : Mem), P v N → PW X S N (pc + 3) ls (v.toList ++ st)) : PW X S M pc ls (As.reverse ++ st) := by
  refine pw_back C (a := As.toArray) (fun H locs la hP hS hla hR => ?_) kk
  have hb : CallB (xR X) (xs X) (xa X) own ix y cc' maxL' ret' (Cond.code y cc' maxL' ret' :: tbl0) { frames := f', cells := 0, slots := 0, locals := lo' } 0 0 n := callB_of n C.2.2.2.2.1 (good0 hm.1) rfl rfl rfl (C.2.2.2.2.1 _ hm.2.1) (C.2.2.2.2.1 _ hl) hm.2.2 (by rw [C.2.2.2.2.2.2.2.2.2.1, C.2.2.2.2.2.2.2.2.2.2.1]; exact hroom)
  exact va_runS (As := As) (rest := st) (g := F0 (xm X) pc la (As.reverse ++ st)) ⟨C.1, C.2.1, C.2.2.1, C.2.2.2.1, C.2.2.2.2.1⟩ (hM C.2.2.2.2.2.2.2.1 hR) ⟨hb, C.2.2.2.2.1 _ hv⟩ ⟨pw_blind, pw_pre C hP⟩ rfl hAs hla.1 rfl (lv_room hst) hd ⟨C.2.2.2.2.2.2.2.2.2.2.2.1, C.2.2.2.2.2.2.2.2.2.2.2.2⟩
theorem pw_callSN (C : Cx X S own cc f lo) {y : MethodName} {cc' : ByteArray} {maxL' n ix f' lo' : Nat} {host : String} {ret' : Option FieldType} (As : List Value) (hm : MI y cc' maxL' ret' n) (hv : Cond.static y ∈ tbl0) (hl : Cond.methodLinkNest own ix y host ∈ nst) (hM : PM X.2.1 S y cc' maxL' ret' f' lo' As M P) (hroom : f' + 1 ≤ f ∧ 8 + (maxL' + 11) + lo' ≤ lo) (hAs : As.length = n) (hst : (st.map fun v => v.category).sum ≤ 8) (hd : decode cc pc = .ok (.invokestatic ix, 3))
    (kk : ∀ (v : Option Value) (N : Mem), P v N → PW X S N (pc + 3) ls (v.toList ++ st)) : PW X S M pc ls (As.reverse ++ st) := by
  refine pw_back C (a := As.toArray) (fun H locs la hP hS hla hR => ?_) kk
  have hb : va_CN (xR X) (xs X) (xa X) own ix y host cc' maxL' ret' (Cond.code y cc' maxL' ret' :: tbl0) { frames := f', cells := 0, slots := 0, locals := lo' } 0 0 n := va_cnB n C.2.2.2.2.1 (good0 hm.1) rfl rfl rfl (C.2.2.2.2.2.1 _ hl) (C.2.2.2.2.1 _ hm.2.1) hm.2.2 (by rw [C.2.2.2.2.2.2.2.2.2.1, C.2.2.2.2.2.2.2.2.2.2.1]; exact hroom)
  exact va_runSN (As := As) (rest := st) (g := F0 (xm X) pc la (As.reverse ++ st)) ⟨C.1, C.2.1, C.2.2.1, C.2.2.2.1, C.2.2.2.2.1⟩ (hM C.2.2.2.2.2.2.2.1 hR) ⟨hb, C.2.2.2.2.1 _ hv, trivial⟩ ⟨pw_blind, pw_pre C hP⟩ rfl hAs hla.1 rfl (lv_room hst) hd ⟨C.2.2.2.2.2.2.2.2.2.2.2.1, C.2.2.2.2.2.2.2.2.2.2.2.2⟩
/-- the library's own -/
def MXX (own : String) (ix : Nat) (y : MethodName) (b : ByteArray) (n : Nat) (ty : FieldType) : Prop := Cond.methodLink own ix y ∈ tbl0 ∧ Cond.static y ∈ tbl0 ∧ Cond.initialized "java/lang/Math" ∈ tbl0 ∧ Cond.code y b n (some ty) ∈ tbl0
theorem pw_max (C : Cx X S own cc f lo) {ix : Nat} (hw : MXX own ix Lib.Math.max.name Lib.Math.max.code 2 .int) {x y : Int} (hx : InR x) (hy : InR y) (hf : 1 ≤ f) (hst : (st.map fun v => v.category).sum + 13 ≤ lo) (hd : decode cc pc = .ok (.invokestatic ix, 3)) (kk : PW X S M (pc + 3) ls (iv (if x < y then y else x) :: st)) : PW X S M pc ls (iv y :: iv x :: st) :=
  fun hn hR H locs la hP hS hl => va_mmax C.1 C.2.1 (by rw [C.2.2.1]; exact hl.1.symm) C.2.2.2.1 (C.2.2.2.2.1 _ hw.1) (C.2.2.2.2.1 _ hw.2.1) (C.2.2.2.2.1 _ hw.2.2.1) (C.2.2.2.2.1 _ hw.2.2.2) (by rw [C.2.2.2.2.2.2.2.2.2.1]; exact hf) (by rw [C.2.2.2.2.2.2.2.2.2.2.1]; exact hst) C.2.2.2.2.2.2.2.2.2.2.2.1 C.2.2.2.2.2.2.2.2.2.2.2.2 hd (by
    have k2 := kk hn hR H locs la hP hS hl
    by_cases h : x < y
    · rw [if_pos h] at k2; rw [if_pos ((ltI hx hy).mpr h)]; exact k2
    · rw [if_neg h] at k2; rw [if_neg (mt (ltI hx hy).mp h)]; exact k2)
theorem pw_min (C : Cx X S own cc f lo) {ix : Nat} (hw : MXX own ix Lib.Math.min.name Lib.Math.min.code 2 .int) {x y : Int} (hx : InR x) (hy : InR y) (hf : 1 ≤ f) (hst : (st.map fun v => v.category).sum + 13 ≤ lo) (hd : decode cc pc = .ok (.invokestatic ix, 3)) (kk : PW X S M (pc + 3) ls (iv (if y < x then y else x) :: st)) : PW X S M pc ls (iv y :: iv x :: st) :=
  fun hn hR H locs la hP hS hl => va_mmin C.1 C.2.1 (by rw [C.2.2.1]; exact hl.1.symm) C.2.2.2.1 (C.2.2.2.2.1 _ hw.1) (C.2.2.2.2.1 _ hw.2.1) (C.2.2.2.2.1 _ hw.2.2.1) (C.2.2.2.2.1 _ hw.2.2.2) (by rw [C.2.2.2.2.2.2.2.2.2.1]; exact hf) (by rw [C.2.2.2.2.2.2.2.2.2.2.1]; exact hst) C.2.2.2.2.2.2.2.2.2.2.2.1 C.2.2.2.2.2.2.2.2.2.2.2.2 hd (by
    have k2 := kk hn hR H locs la hP hS hl
    by_cases h : y < x
    · rw [if_pos h] at k2; rw [if_pos ((ltI hy hx).mpr h)]; exact k2
    · rw [if_neg h] at k2; rw [if_neg (mt (ltI hy hx).mp h)]; exact k2)
theorem pw_labs (C : Cx X S own cc f lo) {ix : Nat} (hw : MXX own ix Lib.MathLoose.abs_long.x Lib.MathLoose.abs_long.code 2 .long) {x : Int} (hx : InL x) (hf : 1 ≤ f) (hst : (st.map fun v => v.category).sum + 13 ≤ lo) (hd : decode cc pc = .ok (.invokestatic ix, 3)) (kk : PW X S M (pc + 3) ls (jv (if 0 < x then x else -x) :: st)) : PW X S M pc ls (jv x :: st) :=
  fun hn hR H locs la hP hS hl => va_mabs_long C.1 C.2.1 (by rw [C.2.2.1]; exact hl.1.symm) C.2.2.2.1 (C.2.2.2.2.1 _ hw.1) (C.2.2.2.2.1 _ hw.2.1) (C.2.2.2.2.1 _ hw.2.2.1) (C.2.2.2.2.1 _ hw.2.2.2) (by rw [C.2.2.2.2.2.2.2.2.2.1]; exact hf) (by rw [C.2.2.2.2.2.2.2.2.2.2.1]; exact hst) C.2.2.2.2.2.2.2.2.2.2.2.1 C.2.2.2.2.2.2.2.2.2.2.2.2 hd (by
    have k2 := kk hn hR H locs la hP hS hl
    have h0 : (0 : Int64) < Int64.ofInt x ↔ 0 < x := by rw [show (0 : Int64) = Int64.ofInt 0 by decide]; exact ltL ⟨by omega, by omega⟩ hx
    by_cases h : 0 < x
    · rw [if_pos h] at k2; rw [if_pos (h0.mpr h)]; exact k2
    · rw [if_neg h] at k2; rw [if_neg (mt h0.mp h), ← Int64.ofInt_neg]; exact k2)
/-- switches -/
theorem pw_tin (C : Cx X S own cc f lo) {dflt low hi off : Int} {offs : Array Int} {len : Nat} {x : Int} {tgt : Nat} (hx : InR x) (j : Nat) (hd : decode cc pc = .ok (.tableswitch dflt low hi offs, len)) (h : x = low + j) (hj : offs[j]? = some off) (hh : low + j ≤ hi) (ht : (pc : Int) + off = (tgt : Int)) (k : PW X S M tgt ls st) : PW X S M pc ls (iv x :: st) :=
  fun hn hR H locs la hP hS hl => lv_tableIn C.1 C.2.1 hd (by rw [tI hx]; omega) (by rw [tI hx]; omega) (by rw [tI hx, show (x - low).toNat = j by omega]; exact hj) ht (k hn hR H locs la hP hS hl)
theorem pw_tout (C : Cx X S own cc f lo) {dflt low hi : Int} {offs : Array Int} {len : Nat} {x : Int} {tgt : Nat} (hx : InR x) (hd : decode cc pc = .ok (.tableswitch dflt low hi offs, len)) (h : x < low ∨ hi < x) (ht : (pc : Int) + dflt = (tgt : Int)) (k : PW X S M tgt ls st) : PW X S M pc ls (iv x :: st) :=
  fun hn hR H locs la hP hS hl => lv_tableOut C.1 C.2.1 hd (by rw [tI hx]; exact h) ht (k hn hR H locs la hP hS hl)
theorem pw_look (C : Cx X S own cc f lo) {dflt off : Int} {ps : Array (Int × Int)} {len : Nat} {x : Int} {tgt : Nat} (hx : InR x) (hd : decode cc pc = .ok (.lookupswitch dflt ps, len)) (hp : (ps.toList.zip (ps.toList.drop 1)).all (fun (a, next) => a.1 < next.1) = true) (ho : Op.lookupswitch.offset ps.toList dflt x = off) (ht : (pc : Int) + off = (tgt : Int)) (k : PW X S M tgt ls st) : PW X S M pc ls (iv x :: st) :=
  fun hn hR H locs la hP hS hl => lv_lookup C.1 C.2.1 hd hp (by rw [tI hx]; exact ho) ht (k hn hR H locs la hP hS hl)
end PWS
end
section
theorem inTs {ws : List Cond} (is : List Nat) (h : ws = is.filterMap (fun i => tables_1[i]?)) (hg : ws.all goodWord = true) : ∀ w ∈ ws, w ∈ tbl0 := by
  intro w hw
  have h1 := List.all_eq_true.mp hg w hw
  rw [h] at hw
  obtain ⟨i, -, hi⟩ := List.mem_filterMap.mp hw
  exact inT i hi h1
theorem inT1 {w : Cond} (i : Nat) (h : tables_1_1[i]? = some w) (hg : goodWord w = true) : w ∈ tbl0 := List.mem_filter.mpr ⟨List.mem_append_right _ (show w ∈ tables_1 from List.mem_append_left _ (List.mem_of_getElem? h)), hg⟩
theorem inT2 {w : Cond} (i : Nat) (h : tables_1_2[i]? = some w) (hg : goodWord w = true) : w ∈ tbl0 := List.mem_filter.mpr ⟨List.mem_append_right _ (show w ∈ tables_1 from List.mem_append_right _ (List.mem_append_left _ (List.mem_of_getElem? h))), hg⟩
theorem inT3 {w : Cond} (i : Nat) (h : tables_1_3[i]? = some w) (hg : goodWord w = true) : w ∈ tbl0 := List.mem_filter.mpr ⟨List.mem_append_right _ (show w ∈ tables_1 from List.mem_append_right _ (List.mem_append_right _ (List.mem_append_left _ (List.mem_of_getElem? h)))), hg⟩
theorem inT4 {w : Cond} (i : Nat) (h : tables_1_4[i]? = some w) (hg : goodWord w = true) : w ∈ tbl0 := List.mem_filter.mpr ⟨List.mem_append_right _ (show w ∈ tables_1 from List.mem_append_right _ (List.mem_append_right _ (List.mem_append_right _ (List.mem_append_left _ (List.mem_of_getElem? h))))), hg⟩
theorem inT5 {w : Cond} (i : Nat) (h : tables_1_5[i]? = some w) (hg : goodWord w = true) : w ∈ tbl0 := List.mem_filter.mpr ⟨List.mem_append_right _ (show w ∈ tables_1 from List.mem_append_right _ (List.mem_append_right _ (List.mem_append_right _ (List.mem_append_right _ ((List.mem_of_getElem? h)))))), hg⟩
theorem iX0 : ∀ w ∈ u_ws RX0 TX0 5, w ∈ tbl0 := inTs [106, 108, 110, 112, 114] (by decide +kernel) (by decide +kernel)
theorem iX1 : ∀ w ∈ u_ws RX1 TX1 13, w ∈ tbl0 := inTs [142, 144, 146, 148, 150, 152, 154, 156, 158, 160, 162, 164, 166] (by decide +kernel) (by decide +kernel)
theorem iX2 : ∀ w ∈ u_ws RX2 TX2 2, w ∈ tbl0 := inTs [249, 251] (by decide +kernel) (by decide +kernel)
theorem iX3 : ∀ w ∈ u_ws RX3 TX3 3, w ∈ tbl0 := inTs [234, 236, 238] (by decide +kernel) (by decide +kernel)
theorem iX4 : ∀ w ∈ u_ws RX4 TX4 7, w ∈ tbl0 := inTs [188, 190, 192, 194, 196, 198, 200] (by decide +kernel) (by decide +kernel)
theorem iX5 : ∀ w ∈ u_ws RX5 TX5 3, w ∈ tbl0 := inTs [217, 219, 221] (by decide +kernel) (by decide +kernel)
theorem iX6 : ∀ w ∈ u_ws RX6 TX6 9, w ∈ tbl0 := inTs [65, 67, 69, 71, 73, 75, 77, 79, 81] (by decide +kernel) (by decide +kernel)
theorem iX8 : ∀ w ∈ u_ws RX8 TX8 7, w ∈ tbl0 := inTs [261, 263, 265, 267, 269, 271, 273] (by decide +kernel) (by decide +kernel)
theorem iX9 : ∀ w ∈ u_ws RX9 TX9 39, w ∈ tbl0 := inTs [745, 747, 749, 751, 753, 755, 757, 759, 761, 763, 765, 767, 769, 771, 773, 775, 777, 779, 781, 783, 785, 787, 789, 791, 793, 795, 797, 799, 801, 803, 805, 807, 809, 811, 813, 815, 817, 819, 821] (by decide +kernel) (by decide +kernel)
theorem mi_X8_stall : MI yX8_stall cX8_stall 7 (some .int) 4 := ⟨(inT2 39 rfl rfl), (inT1 1 rfl rfl), by decide, by decide, (by decide +kernel)⟩
theorem mv_X8_stall : MV yX8_stall := ⟨(inT2 37 rfl rfl), (inT2 38 rfl rfl)⟩
theorem mi_X8_ofSort : MI yX8_ofSort cX8_ofSort 4 (some .int) 2 := ⟨(inT2 80 rfl rfl), (inT1 1 rfl rfl), by decide, by decide, (by decide +kernel)⟩
theorem mv_X8_ofSort : MV yX8_ofSort := ⟨(inT2 78 rfl rfl), (inT2 79 rfl rfl)⟩
theorem mi_X8_fresh : MI yX8_fresh cX8_fresh 3 (some .int) 2 := ⟨(inT2 88 rfl rfl), (inT1 1 rfl rfl), by decide, by decide, (by decide +kernel)⟩
theorem mv_X8_fresh : MV yX8_fresh := ⟨(inT2 86 rfl rfl), (inT2 87 rfl rfl)⟩
theorem mi_X8_fish : MI yX8_fish cX8_fish 4 (some .int) 2 := ⟨(inT2 101 rfl rfl), (inT1 1 rfl rfl), by decide, by decide, (by decide +kernel)⟩
theorem mv_X8_fish : MV yX8_fish := ⟨(inT2 99 rfl rfl), (inT2 100 rfl rfl)⟩
theorem mi_X8_slate : MI yX8_slate cX8_slate 3 (some .int) 2 := ⟨(inT2 106 rfl rfl), (inT1 1 rfl rfl), by decide, by decide, (by decide +kernel)⟩
theorem mv_X8_slate : MV yX8_slate := ⟨(inT2 104 rfl rfl), (inT2 105 rfl rfl)⟩
theorem mi_X8_write : MI yX8_write cX8_write 5 (some .int) 3 := ⟨(inT2 110 rfl rfl), (inT1 1 rfl rfl), by decide, by decide, (by decide +kernel)⟩
theorem mv_X8_write : MV yX8_write := ⟨(inT2 108 rfl rfl), (inT2 109 rfl rfl)⟩
theorem mi_X8_copyOut : MI yX8_copyOut cX8_copyOut 7 (some .int) 5 := ⟨(inT2 114 rfl rfl), (inT1 1 rfl rfl), by decide, by decide, (by decide +kernel)⟩
theorem mv_X8_copyOut : MV yX8_copyOut := ⟨(inT2 112 rfl rfl), (inT2 113 rfl rfl)⟩
theorem mi_X8_soup : MI yX8_soup cX8_soup 3 (some .int) 1 := ⟨(inT2 124 rfl rfl), (inT1 1 rfl rfl), by decide, by decide, (by decide +kernel)⟩
theorem mv_X8_soup : MV yX8_soup := ⟨(inT2 122 rfl rfl), (inT2 123 rfl rfl)⟩
theorem mi_X8_beside : MI yX8_beside cX8_beside 3 (some .int) 1 := ⟨(inT2 132 rfl rfl), (inT1 1 rfl rfl), by decide, by decide, (by decide +kernel)⟩
theorem mv_X8_beside : MV yX8_beside := ⟨(inT2 130 rfl rfl), (inT2 131 rfl rfl)⟩
theorem mi_X8_buyer : MI yX8_buyer cX8_buyer 5 (some .int) 4 := ⟨(inT2 136 rfl rfl), (inT1 1 rfl rfl), by decide, by decide, (by decide +kernel)⟩
theorem mv_X8_buyer : MV yX8_buyer := ⟨(inT2 134 rfl rfl), (inT2 135 rfl rfl)⟩
theorem mi_X8_ofBuyer : MI yX8_ofBuyer cX8_ofBuyer 4 (some .int) 2 := ⟨(inT2 144 rfl rfl), (inT1 1 rfl rfl), by decide, by decide, (by decide +kernel)⟩
theorem mv_X8_ofBuyer : MV yX8_ofBuyer := ⟨(inT2 142 rfl rfl), (inT2 143 rfl rfl)⟩
theorem mi_X8_worth : MI yX8_worth cX8_worth 4 (some .int) 3 := ⟨(inT2 152 rfl rfl), (inT1 1 rfl rfl), by decide, by decide, (by decide +kernel)⟩
theorem mv_X8_worth : MV yX8_worth := ⟨(inT2 150 rfl rfl), (inT2 151 rfl rfl)⟩
theorem mi_X8_day : MI yX8_day cX8_day 2 (some .int) 1 := ⟨(inT2 169 rfl rfl), (inT1 1 rfl rfl), by decide, by decide, (by decide +kernel)⟩
theorem mv_X8_day : MV yX8_day := ⟨(inT2 167 rfl rfl), (inT2 168 rfl rfl)⟩
theorem mi_X8_bought : MI yX8_bought cX8_bought 3 (some .int) 2 := ⟨(inT2 220 rfl rfl), (inT1 1 rfl rfl), by decide, by decide, (by decide +kernel)⟩
theorem mv_X8_bought : MV yX8_bought := ⟨(inT2 218 rfl rfl), (inT2 219 rfl rfl)⟩
theorem mi_X8_sold : MI yX8_sold cX8_sold 3 (some .int) 2 := ⟨(inT2 224 rfl rfl), (inT1 1 rfl rfl), by decide, by decide, (by decide +kernel)⟩
theorem mv_X8_sold : MV yX8_sold := ⟨(inT2 222 rfl rfl), (inT2 223 rfl rfl)⟩
theorem mi_X8_best : MI yX8_best cX8_best 4 (some .int) 3 := ⟨(inT2 228 rfl rfl), (inT1 1 rfl rfl), by decide, by decide, (by decide +kernel)⟩
theorem mv_X8_best : MV yX8_best := ⟨(inT2 226 rfl rfl), (inT2 227 rfl rfl)⟩
theorem mi_X8_takeOff : MI yX8_takeOff cX8_takeOff 2 (some .int) 1 := ⟨(inT3 13 rfl rfl), (inT1 1 rfl rfl), by decide, by decide, (by decide +kernel)⟩
theorem mv_X8_takeOff : MV yX8_takeOff := ⟨(inT3 11 rfl rfl), (inT3 12 rfl rfl)⟩
theorem mi_X8_fetch : MI yX8_fetch cX8_fetch 2 (some .int) 1 := ⟨(inT3 28 rfl rfl), (inT1 1 rfl rfl), by decide, by decide, (by decide +kernel)⟩
theorem mv_X8_fetch : MV yX8_fetch := ⟨(inT3 26 rfl rfl), (inT3 27 rfl rfl)⟩
theorem mi_X8_carried : MI yX8_carried cX8_carried 2 (some .int) 1 := ⟨(inT3 49 rfl rfl), (inT1 1 rfl rfl), by decide, by decide, (by decide +kernel)⟩
theorem mv_X8_carried : MV yX8_carried := ⟨(inT3 47 rfl rfl), (inT3 48 rfl rfl)⟩
theorem mi_X8_cook : MI yX8_cook cX8_cook 4 (some .int) 3 := ⟨(inT3 57 rfl rfl), (inT1 1 rfl rfl), by decide, by decide, (by decide +kernel)⟩
theorem mv_X8_cook : MV yX8_cook := ⟨(inT3 55 rfl rfl), (inT3 56 rfl rfl)⟩
theorem mi_X8_mean : MI yX8_mean cX8_mean 10 (some .long) 9 := ⟨(inT3 69 rfl rfl), (inT1 1 rfl rfl), by decide, by decide, (by decide +kernel)⟩
theorem mv_X8_mean : MV yX8_mean := ⟨(inT3 67 rfl rfl), (inT3 68 rfl rfl)⟩
theorem mi_X8_howMany : MI yX8_howMany cX8_howMany 9 (some .int) 7 := ⟨(inT3 99 rfl rfl), (inT1 1 rfl rfl), by decide, by decide, (by decide +kernel)⟩
theorem mv_X8_howMany : MV yX8_howMany := ⟨(inT3 97 rfl rfl), (inT3 98 rfl rfl)⟩
theorem mi_X8_right : MI yX8_right cX8_right 5 (some .long) 3 := ⟨(inT3 108 rfl rfl), (inT1 1 rfl rfl), by decide, by decide, (by decide +kernel)⟩
theorem mv_X8_right : MV yX8_right := ⟨(inT3 106 rfl rfl), (inT3 107 rfl rfl)⟩
theorem mi_X8_rests : MI yX8_rests cX8_rests 5 (some .int) 3 := ⟨(inT3 112 rfl rfl), (inT1 1 rfl rfl), by decide, by decide, (by decide +kernel)⟩
theorem mv_X8_rests : MV yX8_rests := ⟨(inT3 110 rfl rfl), (inT3 111 rfl rfl)⟩
theorem mi_X8_mixed : MI yX8_mixed cX8_mixed 6 (some .long) 5 := ⟨(inT3 125 rfl rfl), (inT1 1 rfl rfl), by decide, by decide, (by decide +kernel)⟩
theorem mv_X8_mixed : MV yX8_mixed := ⟨(inT3 123 rfl rfl), (inT3 124 rfl rfl)⟩
theorem mi_X8_sheet : MI yX8_sheet cX8_sheet 4 (some .int) 3 := ⟨(inT3 156 rfl rfl), (inT1 1 rfl rfl), by decide, by decide, (by decide +kernel)⟩
theorem mv_X8_sheet : MV yX8_sheet := ⟨(inT3 154 rfl rfl), (inT3 155 rfl rfl)⟩
theorem mi_X8_lose : MI yX8_lose cX8_lose 3 (some .int) 1 := ⟨(inT3 164 rfl rfl), (inT1 1 rfl rfl), by decide, by decide, (by decide +kernel)⟩
theorem mv_X8_lose : MV yX8_lose := ⟨(inT3 162 rfl rfl), (inT3 163 rfl rfl)⟩
theorem mi_X8_put : MI yX8_put cX8_put 4 (some .int) 3 := ⟨(inT3 168 rfl rfl), (inT1 1 rfl rfl), by decide, by decide, (by decide +kernel)⟩
theorem mv_X8_put : MV yX8_put := ⟨(inT3 166 rfl rfl), (inT3 167 rfl rfl)⟩
theorem mi_X8_cell : MI yX8_cell cX8_cell 4 (some .long) 3 := ⟨(inT3 175 rfl rfl), (inT1 1 rfl rfl), by decide, by decide, (by decide +kernel)⟩
theorem mv_X8_cell : MV yX8_cell := ⟨(inT3 173 rfl rfl), (inT3 174 rfl rfl)⟩
theorem mi_X8_copy : MI yX8_copy cX8_copy 6 (some .int) 5 := ⟨(inT3 179 rfl rfl), (inT1 1 rfl rfl), by decide, by decide, (by decide +kernel)⟩
theorem mv_X8_copy : MV yX8_copy := ⟨(inT3 177 rfl rfl), (inT3 178 rfl rfl)⟩
theorem mi_X8_tell : MI yX8_tell cX8_tell 2 (some .int) 1 := ⟨(inT3 183 rfl rfl), (inT1 1 rfl rfl), by decide, by decide, (by decide +kernel)⟩
theorem mv_X8_tell : MV yX8_tell := ⟨(inT3 181 rfl rfl), (inT3 182 rfl rfl)⟩
theorem mi_X8_greet : MI yX8_greet cX8_greet 2 (some .int) 1 := ⟨(inT3 203 rfl rfl), (inT1 1 rfl rfl), by decide, by decide, (by decide +kernel)⟩
theorem mv_X8_greet : MV yX8_greet := ⟨(inT3 201 rfl rfl), (inT3 202 rfl rfl)⟩
theorem mi_X8_as : MI yX8_as cX8_as 3 (some .int) 2 := ⟨(inT3 207 rfl rfl), (inT1 1 rfl rfl), by decide, by decide, (by decide +kernel)⟩
theorem mv_X8_as : MV yX8_as := ⟨(inT3 205 rfl rfl), (inT3 206 rfl rfl)⟩
theorem mi_X8_trace : MI yX8_trace cX8_trace 1 (some .int) 0 := ⟨(inT3 211 rfl rfl), (inT1 1 rfl rfl), by decide, by decide, (by decide +kernel)⟩
theorem mv_X8_trace : MV yX8_trace := ⟨(inT3 209 rfl rfl), (inT3 210 rfl rfl)⟩
theorem mi_X8_fault : MI yX8_fault cX8_fault 1 (some .int) 0 := ⟨(inT3 215 rfl rfl), (inT1 1 rfl rfl), by decide, by decide, (by decide +kernel)⟩
theorem mv_X8_fault : MV yX8_fault := ⟨(inT3 213 rfl rfl), (inT3 214 rfl rfl)⟩
theorem mi_X8_many : MI yX8_many cX8_many 2 (some .int) 1 := ⟨(inT3 219 rfl rfl), (inT1 1 rfl rfl), by decide, by decide, (by decide +kernel)⟩
theorem mv_X8_many : MV yX8_many := ⟨(inT3 217 rfl rfl), (inT3 218 rfl rfl)⟩
theorem mi_X8_tellAsBuyer : MI yX8_tellAsBuyer cX8_tellAsBuyer 2 (some .int) 1 := ⟨(inT3 199 rfl rfl), (inT1 1 rfl rfl), by decide, by decide, (by decide +kernel)⟩
theorem mv_X8_tellAsBuyer : MV yX8_tellAsBuyer := ⟨(inT3 198 rfl rfl), (inP 14 (by decide +kernel) rfl)⟩
theorem mi_X8_tellAsChoosing : MI yX8_tellAsChoosing cX8_tellAsChoosing 2 (some .int) 1 := ⟨(inT3 195 rfl rfl), (inT1 1 rfl rfl), by decide, by decide, (by decide +kernel)⟩
theorem mv_X8_tellAsChoosing : MV yX8_tellAsChoosing := ⟨(inT3 194 rfl rfl), (inP 13 (by decide +kernel) rfl)⟩
theorem mi_X8_tellAsWaiting : MI yX8_tellAsWaiting cX8_tellAsWaiting 3 (some .int) 1 := ⟨(inT3 187 rfl rfl), (inT1 1 rfl rfl), by decide, by decide, (by decide +kernel)⟩
theorem mv_X8_tellAsWaiting : MV yX8_tellAsWaiting := ⟨(inT3 186 rfl rfl), (inP 11 (by decide +kernel) rfl)⟩
theorem mi_X8_leaveTrace : MI yX8_leaveTrace cX8_leaveTrace 2 none 1 := ⟨(inT3 191 rfl rfl), (inT1 1 rfl rfl), by decide, by decide, (by decide +kernel)⟩
theorem mv_X8_leaveTrace : MV yX8_leaveTrace := ⟨(inT3 190 rfl rfl), (inP 12 (by decide +kernel) rfl)⟩
theorem mi_X8_faultOf : MI yX8_faultOf cX8_faultOf 2 (some .int) 1 := ⟨(inT2 59 rfl rfl), (inT1 1 rfl rfl), by decide, by decide, (by decide +kernel)⟩
theorem mv_X8_faultOf : MV yX8_faultOf := ⟨(inT2 58 rfl rfl), (inP 1 (by decide +kernel) rfl)⟩
theorem mi_X8_lookAtCells : MI yX8_lookAtCells cX8_lookAtCells 5 (some .int) 4 := ⟨(inT2 43 rfl rfl), (inT1 1 rfl rfl), by decide, by decide, (by decide +kernel)⟩
theorem mv_X8_lookAtCells : MV yX8_lookAtCells := ⟨(inT2 42 rfl rfl), (inP 0 (by decide +kernel) rfl)⟩
theorem mi_X8_isWithin : MI yX8_isWithin cX8_isWithin 3 (some .boolean) 3 := ⟨(inT2 72 rfl rfl), (inT1 1 rfl rfl), by decide, by decide, (by decide +kernel)⟩
theorem ms_X8_isWithin : Cond.static yX8_isWithin ∈ tbl0 := (inT2 71 rfl rfl)
theorem mi_X8_areMoney : MI yX8_areMoney cX8_areMoney 3 (some .boolean) 3 := ⟨(inT3 79 rfl rfl), (inT1 1 rfl rfl), by decide, by decide, (by decide +kernel)⟩
theorem ms_X8_areMoney : Cond.static yX8_areMoney ∈ tbl0 := (inT3 78 rfl rfl)
theorem mi_X8_areAllWithin : MI yX8_areAllWithin cX8_areAllWithin 6 (some .boolean) 5 := ⟨(inT2 117 rfl rfl), (inT1 1 rfl rfl), by decide, by decide, (by decide +kernel)⟩
theorem ms_X8_areAllWithin : Cond.static yX8_areAllWithin ∈ tbl0 := (inT2 116 rfl rfl)
theorem mi_X8_partOfShare : MI yX8_partOfShare cX8_partOfShare 9 (some .long) 3 := ⟨(inT3 89 rfl rfl), (inT1 1 rfl rfl), by decide, by decide, (by decide +kernel)⟩
theorem ms_X8_partOfShare : Cond.static yX8_partOfShare ∈ tbl0 := (inT3 88 rfl rfl)
theorem mi_X8_commonDivisor : MI yX8_commonDivisor cX8_commonDivisor 7 (some .long) 2 := ⟨(inT3 95 rfl rfl), (inT1 1 rfl rfl), by decide, by decide, (by decide +kernel)⟩
theorem ms_X8_commonDivisor : Cond.static yX8_commonDivisor ∈ tbl0 := (inT3 94 rfl rfl)
theorem mi_X9_in : MI yX9_in cX9_in 6 (some .boolean) 3 := ⟨(inT4 118 rfl rfl), (inT1 9 rfl rfl), by decide, by decide, (by decide +kernel)⟩
theorem ms_X9_in : Cond.static yX9_in ∈ tbl0 := (inT4 117 rfl rfl)
theorem mi_X9_lost : MI yX9_lost cX9_lost 0 (some .long) 0 := ⟨(inT5 75 rfl rfl), (inT1 9 rfl rfl), by decide, by decide, (by decide +kernel)⟩
theorem ms_X9_lost : Cond.static yX9_lost ∈ tbl0 := (inT5 74 rfl rfl)
theorem mi_X9_greater : MI yX9_greater cX9_greater 2 (some .int) 2 := ⟨(inT4 169 rfl rfl), (inT1 9 rfl rfl), by decide, by decide, (by decide +kernel)⟩
theorem ms_X9_greater : Cond.static yX9_greater ∈ tbl0 := (inT4 168 rfl rfl)
theorem mi_X9_told : MI yX9_told cX9_told 11 (some .long) 3 := ⟨(inT5 95 rfl rfl), (inT1 9 rfl rfl), by decide, by decide, (by decide +kernel)⟩
theorem ms_X9_told : Cond.static yX9_told ∈ tbl0 := (inT5 94 rfl rfl)
theorem mi_X9_isWhich : MI yX9_isWhich cX9_isWhich 1 (some .boolean) 1 := ⟨(inT5 88 rfl rfl), (inT1 9 rfl rfl), by decide, by decide, (by decide +kernel)⟩
theorem ms_X9_isWhich : Cond.static yX9_isWhich ∈ tbl0 := (inT5 87 rfl rfl)
theorem mi_X9_refused : MI yX9_refused cX9_refused 2 (some .int) 1 := ⟨(inT4 122 rfl rfl), (inT1 9 rfl rfl), by decide, by decide, (by decide +kernel)⟩
theorem mv_X9_refused : MV yX9_refused := ⟨(inT4 121 rfl rfl), (inP 16 (by decide +kernel) rfl)⟩
theorem mi_X9_failed : MI yX9_failed cX9_failed 2 (some .int) 1 := ⟨(inT4 127 rfl rfl), (inT1 9 rfl rfl), by decide, by decide, (by decide +kernel)⟩
theorem mv_X9_failed : MV yX9_failed := ⟨(inT4 126 rfl rfl), (inP 17 (by decide +kernel) rfl)⟩
theorem mi_X9_failedLong : MI yX9_failedLong cX9_failedLong 2 (some .long) 1 := ⟨(inT5 145 rfl rfl), (inT1 9 rfl rfl), by decide, by decide, (by decide +kernel)⟩
theorem mv_X9_failedLong : MV yX9_failedLong := ⟨(inT5 144 rfl rfl), (inP 46 (by decide +kernel) rfl)⟩
theorem mi_X9_barred : MI yX9_barred cX9_barred 6 (some .int) 4 := ⟨(inT4 111 rfl rfl), (inT1 9 rfl rfl), by decide, by decide, (by decide +kernel)⟩
theorem mv_X9_barred : MV yX9_barred := ⟨(inT4 110 rfl rfl), (inP 15 (by decide +kernel) rfl)⟩
theorem mi_X9_noSort : MI yX9_noSort cX9_noSort 2 (some .boolean) 1 := ⟨(inT4 154 rfl rfl), (inT1 9 rfl rfl), by decide, by decide, (by decide +kernel)⟩
theorem mv_X9_noSort : MV yX9_noSort := ⟨(inT4 153 rfl rfl), (inP 22 (by decide +kernel) rfl)⟩
theorem mi_X9_noHour : MI yX9_noHour cX9_noHour 2 (some .boolean) 1 := ⟨(inT4 162 rfl rfl), (inT1 9 rfl rfl), by decide, by decide, (by decide +kernel)⟩
theorem mv_X9_noHour : MV yX9_noHour := ⟨(inT4 161 rfl rfl), (inP 23 (by decide +kernel) rfl)⟩
theorem mi_X9_takes : MI yX9_takes cX9_takes 5 (some .boolean) 3 := ⟨(inT4 138 rfl rfl), (inT1 9 rfl rfl), by decide, by decide, (by decide +kernel)⟩
theorem mv_X9_takes : MV yX9_takes := ⟨(inT4 137 rfl rfl), (inP 19 (by decide +kernel) rfl)⟩
theorem mi_X9_readsFigure : MI yX9_readsFigure cX9_readsFigure 6 (some .boolean) 4 := ⟨(inT4 142 rfl rfl), (inT1 9 rfl rfl), by decide, by decide, (by decide +kernel)⟩
theorem mv_X9_readsFigure : MV yX9_readsFigure := ⟨(inT4 141 rfl rfl), (inP 20 (by decide +kernel) rfl)⟩
theorem mi_X9_readsSort : MI yX9_readsSort cX9_readsSort 5 (some .boolean) 2 := ⟨(inT4 146 rfl rfl), (inT1 9 rfl rfl), by decide, by decide, (by decide +kernel)⟩
theorem mv_X9_readsSort : MV yX9_readsSort := ⟨(inT4 145 rfl rfl), (inP 21 (by decide +kernel) rfl)⟩
theorem mi_X9_readsStall : MI yX9_readsStall cX9_readsStall 4 (some .boolean) 2 := ⟨(inT4 134 rfl rfl), (inT1 9 rfl rfl), by decide, by decide, (by decide +kernel)⟩
theorem mv_X9_readsStall : MV yX9_readsStall := ⟨(inT4 133 rfl rfl), (inP 18 (by decide +kernel) rfl)⟩
theorem mi_X9_stall : MI yX9_stall cX9_stall 7 (some .int) 4 := ⟨(inT4 107 rfl rfl), (inT1 9 rfl rfl), by decide, by decide, (by decide +kernel)⟩
theorem mv_X9_stall : MV yX9_stall := ⟨(inT4 105 rfl rfl), (inT4 106 rfl rfl)⟩
theorem mi_X9_ofSort : MI yX9_ofSort cX9_ofSort 3 (some .int) 2 := ⟨(inT4 150 rfl rfl), (inT1 9 rfl rfl), by decide, by decide, (by decide +kernel)⟩
theorem mv_X9_ofSort : MV yX9_ofSort := ⟨(inT4 148 rfl rfl), (inT4 149 rfl rfl)⟩
theorem mi_X9_freshAt : MI yX9_freshAt cX9_freshAt 3 (some .int) 2 := ⟨(inT4 166 rfl rfl), (inT1 9 rfl rfl), by decide, by decide, (by decide +kernel)⟩
theorem mv_X9_freshAt : MV yX9_freshAt := ⟨(inT4 165 rfl rfl), (inP 24 (by decide +kernel) rfl)⟩
theorem mi_X9_fresh : MI yX9_fresh cX9_fresh 3 (some .int) 2 := ⟨(inT4 158 rfl rfl), (inT1 9 rfl rfl), by decide, by decide, (by decide +kernel)⟩
theorem mv_X9_fresh : MV yX9_fresh := ⟨(inT4 156 rfl rfl), (inT4 157 rfl rfl)⟩
theorem mi_X9_fish : MI yX9_fish cX9_fish 4 (some .int) 2 := ⟨(inT4 173 rfl rfl), (inT1 9 rfl rfl), by decide, by decide, (by decide +kernel)⟩
theorem mv_X9_fish : MV yX9_fish := ⟨(inT4 171 rfl rfl), (inT4 172 rfl rfl)⟩
theorem mi_X9_priceOf : MI yX9_priceOf cX9_priceOf 3 (some .int) 2 := ⟨(inT4 182 rfl rfl), (inT1 9 rfl rfl), by decide, by decide, (by decide +kernel)⟩
theorem mv_X9_priceOf : MV yX9_priceOf := ⟨(inT4 181 rfl rfl), (inP 25 (by decide +kernel) rfl)⟩
theorem mi_X9_isPrice : MI yX9_isPrice cX9_isPrice 1 (some .boolean) 1 := ⟨(inT4 189 rfl rfl), (inT1 9 rfl rfl), by decide, by decide, (by decide +kernel)⟩
theorem ms_X9_isPrice : Cond.static yX9_isPrice ∈ tbl0 := (inT4 188 rfl rfl)
theorem mi_X9_slate : MI yX9_slate cX9_slate 3 (some .int) 2 := ⟨(inT4 178 rfl rfl), (inT1 9 rfl rfl), by decide, by decide, (by decide +kernel)⟩
theorem mv_X9_slate : MV yX9_slate := ⟨(inT4 176 rfl rfl), (inT4 177 rfl rfl)⟩
theorem mi_X9_write : MI yX9_write cX9_write 5 (some .int) 3 := ⟨(inT4 186 rfl rfl), (inT1 9 rfl rfl), by decide, by decide, (by decide +kernel)⟩
theorem mv_X9_write : MV yX9_write := ⟨(inT4 184 rfl rfl), (inT4 185 rfl rfl)⟩
theorem mi_X9_copyOut : MI yX9_copyOut cX9_copyOut 9 (some .int) 5 := ⟨(inT4 194 rfl rfl), (inT1 9 rfl rfl), by decide, by decide, (by decide +kernel)⟩
theorem mv_X9_copyOut : MV yX9_copyOut := ⟨(inT4 192 rfl rfl), (inT4 193 rfl rfl)⟩
theorem mi_X9_soup : MI yX9_soup cX9_soup 3 (some .int) 1 := ⟨(inT4 198 rfl rfl), (inT1 9 rfl rfl), by decide, by decide, (by decide +kernel)⟩
theorem mv_X9_soup : MV yX9_soup := ⟨(inT4 196 rfl rfl), (inT4 197 rfl rfl)⟩
theorem mi_X9_beside : MI yX9_beside cX9_beside 3 (some .int) 1 := ⟨(inT4 202 rfl rfl), (inT1 9 rfl rfl), by decide, by decide, (by decide +kernel)⟩
theorem mv_X9_beside : MV yX9_beside := ⟨(inT4 200 rfl rfl), (inT4 201 rfl rfl)⟩
theorem mi_X9_noBuyer : MI yX9_noBuyer cX9_noBuyer 2 (some .boolean) 1 := ⟨(inT4 215 rfl rfl), (inT1 9 rfl rfl), by decide, by decide, (by decide +kernel)⟩
theorem mv_X9_noBuyer : MV yX9_noBuyer := ⟨(inT4 214 rfl rfl), (inP 26 (by decide +kernel) rfl)⟩
theorem mi_X9_buyer : MI yX9_buyer cX9_buyer 5 (some .int) 4 := ⟨(inT4 206 rfl rfl), (inT1 9 rfl rfl), by decide, by decide, (by decide +kernel)⟩
theorem mv_X9_buyer : MV yX9_buyer := ⟨(inT4 204 rfl rfl), (inT4 205 rfl rfl)⟩
theorem mi_X9_ofBuyer : MI yX9_ofBuyer cX9_ofBuyer 3 (some .int) 2 := ⟨(inT4 211 rfl rfl), (inT1 9 rfl rfl), by decide, by decide, (by decide +kernel)⟩
theorem mv_X9_ofBuyer : MV yX9_ofBuyer := ⟨(inT4 209 rfl rfl), (inT4 210 rfl rfl)⟩
theorem mi_X9_layAll : MI yX9_layAll cX9_layAll 2 none 0 := ⟨(inT4 223 rfl rfl), (inT1 9 rfl rfl), by decide, by decide, (by decide +kernel)⟩
theorem mv_X9_layAll : MV yX9_layAll := ⟨(inT4 222 rfl rfl), (inP 27 (by decide +kernel) rfl)⟩
theorem mi_X9_hasDearer : MI yX9_hasDearer cX9_hasDearer 5 (some .boolean) 2 := ⟨(inT4 231 rfl rfl), (inT1 9 rfl rfl), by decide, by decide, (by decide +kernel)⟩
theorem mv_X9_hasDearer : MV yX9_hasDearer := ⟨(inT4 230 rfl rfl), (inP 29 (by decide +kernel) rfl)⟩
theorem mi_X9_worthOf : MI yX9_worthOf cX9_worthOf 5 (some .int) 3 := ⟨(inT4 227 rfl rfl), (inT1 9 rfl rfl), by decide, by decide, (by decide +kernel)⟩
theorem mv_X9_worthOf : MV yX9_worthOf := ⟨(inT4 226 rfl rfl), (inP 28 (by decide +kernel) rfl)⟩
theorem mi_X9_worth : MI yX9_worth cX9_worth 4 (some .int) 3 := ⟨(inT4 219 rfl rfl), (inT1 9 rfl rfl), by decide, by decide, (by decide +kernel)⟩
theorem mv_X9_worth : MV yX9_worth := ⟨(inT4 217 rfl rfl), (inT4 218 rfl rfl)⟩
theorem mi_X9_gainOf : MI yX9_gainOf cX9_gainOf 5 (some .int) 3 := ⟨(inT5 19 rfl rfl), (inT1 9 rfl rfl), by decide, by decide, (by decide +kernel)⟩
theorem mv_X9_gainOf : MV yX9_gainOf := ⟨(inT5 18 rfl rfl), (inP 35 (by decide +kernel) rfl)⟩
theorem mi_X9_isCheaperNext : MI yX9_isCheaperNext cX9_isCheaperNext 3 (some .boolean) 2 := ⟨(inT5 15 rfl rfl), (inT1 9 rfl rfl), by decide, by decide, (by decide +kernel)⟩
theorem mv_X9_isCheaperNext : MV yX9_isCheaperNext := ⟨(inT5 14 rfl rfl), (inP 34 (by decide +kernel) rfl)⟩
theorem mi_X9_wanted : MI yX9_wanted cX9_wanted 8 (some .int) 2 := ⟨(inT5 11 rfl rfl), (inT1 9 rfl rfl), by decide, by decide, (by decide +kernel)⟩
theorem mv_X9_wanted : MV yX9_wanted := ⟨(inT5 10 rfl rfl), (inP 33 (by decide +kernel) rfl)⟩
theorem mi_X9_sell : MI yX9_sell cX9_sell 4 none 3 := ⟨(inT5 3 rfl rfl), (inT1 9 rfl rfl), by decide, by decide, (by decide +kernel)⟩
theorem mv_X9_sell : MV yX9_sell := ⟨(inT5 2 rfl rfl), (inP 31 (by decide +kernel) rfl)⟩
theorem mi_X9_comes : MI yX9_comes cX9_comes 4 none 2 := ⟨(inT5 7 rfl rfl), (inT1 9 rfl rfl), by decide, by decide, (by decide +kernel)⟩
theorem mv_X9_comes : MV yX9_comes := ⟨(inT5 6 rfl rfl), (inP 32 (by decide +kernel) rfl)⟩
theorem mi_X9_goThrough : MI yX9_goThrough cX9_goThrough 7 none 3 := ⟨(inT4 239 rfl rfl), (inT1 9 rfl rfl), by decide, by decide, (by decide +kernel)⟩
theorem mv_X9_goThrough : MV yX9_goThrough := ⟨(inT4 238 rfl rfl), (inP 30 (by decide +kernel) rfl)⟩
theorem mi_X9_left : MI yX9_left cX9_left 3 (some .int) 0 := ⟨(inT5 27 rfl rfl), (inT1 9 rfl rfl), by decide, by decide, (by decide +kernel)⟩
theorem mv_X9_left : MV yX9_left := ⟨(inT5 26 rfl rfl), (inP 37 (by decide +kernel) rfl)⟩
theorem mi_X9_allFish : MI yX9_allFish cX9_allFish 3 (some .int) 0 := ⟨(inT5 23 rfl rfl), (inT1 9 rfl rfl), by decide, by decide, (by decide +kernel)⟩
theorem mv_X9_allFish : MV yX9_allFish := ⟨(inT5 22 rfl rfl), (inP 36 (by decide +kernel) rfl)⟩
theorem mi_X9_profitOf : MI yX9_profitOf cX9_profitOf 3 (some .int) 0 := ⟨(inT5 31 rfl rfl), (inT1 9 rfl rfl), by decide, by decide, (by decide +kernel)⟩
theorem mv_X9_profitOf : MV yX9_profitOf := ⟨(inT5 30 rfl rfl), (inP 38 (by decide +kernel) rfl)⟩
theorem mi_X9_profit : MI yX9_profit cX9_profit 1 (some .int) 0 := ⟨(inT5 47 rfl rfl), (inT1 9 rfl rfl), by decide, by decide, (by decide +kernel)⟩
theorem mv_X9_profit : MV yX9_profit := ⟨(inT5 46 rfl rfl), (inP 39 (by decide +kernel) rfl)⟩
theorem mi_X9_day : MI yX9_day cX9_day 2 (some .int) 1 := ⟨(inT4 235 rfl rfl), (inT1 9 rfl rfl), by decide, by decide, (by decide +kernel)⟩
theorem mv_X9_day : MV yX9_day := ⟨(inT4 233 rfl rfl), (inT4 234 rfl rfl)⟩
theorem mi_X9_bought : MI yX9_bought cX9_bought 3 (some .int) 2 := ⟨(inT5 35 rfl rfl), (inT1 9 rfl rfl), by decide, by decide, (by decide +kernel)⟩
theorem mv_X9_bought : MV yX9_bought := ⟨(inT5 33 rfl rfl), (inT5 34 rfl rfl)⟩
theorem mi_X9_sold : MI yX9_sold cX9_sold 3 (some .int) 2 := ⟨(inT5 39 rfl rfl), (inT1 9 rfl rfl), by decide, by decide, (by decide +kernel)⟩
theorem mv_X9_sold : MV yX9_sold := ⟨(inT5 37 rfl rfl), (inT5 38 rfl rfl)⟩
theorem mi_X9_best : MI yX9_best cX9_best 9 (some .int) 3 := ⟨(inT5 43 rfl rfl), (inT1 9 rfl rfl), by decide, by decide, (by decide +kernel)⟩
theorem mv_X9_best : MV yX9_best := ⟨(inT5 41 rfl rfl), (inT5 42 rfl rfl)⟩
theorem mi_X9_takeOff : MI yX9_takeOff cX9_takeOff 8 (some .int) 1 := ⟨(inT5 51 rfl rfl), (inT1 9 rfl rfl), by decide, by decide, (by decide +kernel)⟩
theorem mv_X9_takeOff : MV yX9_takeOff := ⟨(inT5 49 rfl rfl), (inT5 50 rfl rfl)⟩
theorem mi_X9_layFish : MI yX9_layFish cX9_layFish 4 none 1 := ⟨(inT5 60 rfl rfl), (inT1 9 rfl rfl), by decide, by decide, (by decide +kernel)⟩
theorem mv_X9_layFish : MV yX9_layFish := ⟨(inT5 59 rfl rfl), (inP 40 (by decide +kernel) rfl)⟩
theorem mi_X9_fetch : MI yX9_fetch cX9_fetch 7 (some .int) 1 := ⟨(inT5 55 rfl rfl), (inT1 9 rfl rfl), by decide, by decide, (by decide +kernel)⟩
theorem mv_X9_fetch : MV yX9_fetch := ⟨(inT5 53 rfl rfl), (inT5 54 rfl rfl)⟩
theorem mi_X9_carried : MI yX9_carried cX9_carried 5 (some .int) 1 := ⟨(inT5 64 rfl rfl), (inT1 9 rfl rfl), by decide, by decide, (by decide +kernel)⟩
theorem mv_X9_carried : MV yX9_carried := ⟨(inT5 62 rfl rfl), (inT5 63 rfl rfl)⟩
theorem mi_X9_cook : MI yX9_cook cX9_cook 5 (some .int) 3 := ⟨(inT5 68 rfl rfl), (inT1 9 rfl rfl), by decide, by decide, (by decide +kernel)⟩
theorem mv_X9_cook : MV yX9_cook := ⟨(inT5 66 rfl rfl), (inT5 67 rfl rfl)⟩
theorem mi_X9_isMoney : MI yX9_isMoney cX9_isMoney 3 (some .boolean) 3 := ⟨(inT5 85 rfl rfl), (inT1 9 rfl rfl), by decide, by decide, (by decide +kernel)⟩
theorem ms_X9_isMoney : Cond.static yX9_isMoney ∈ tbl0 := (inT5 84 rfl rfl)
theorem mi_X9_weightsOf : MI yX9_weightsOf cX9_weightsOf 5 (some .int) 2 := ⟨(inT5 81 rfl rfl), (inT1 9 rfl rfl), by decide, by decide, (by decide +kernel)⟩
theorem mv_X9_weightsOf : MV yX9_weightsOf := ⟨(inT5 80 rfl rfl), (inP 41 (by decide +kernel) rfl)⟩
theorem mi_X9_hadBy : MI yX9_hadBy cX9_hadBy 11 (some .long) 6 := ⟨(inT5 92 rfl rfl), (inT1 9 rfl rfl), by decide, by decide, (by decide +kernel)⟩
theorem mv_X9_hadBy : MV yX9_hadBy := ⟨(inT5 91 rfl rfl), (inP 42 (by decide +kernel) rfl)⟩
theorem mi_X9_mean : MI yX9_mean cX9_mean 12 (some .long) 9 := ⟨(inT5 72 rfl rfl), (inT1 9 rfl rfl), by decide, by decide, (by decide +kernel)⟩
theorem mv_X9_mean : MV yX9_mean := ⟨(inT5 70 rfl rfl), (inT5 71 rfl rfl)⟩
theorem mi_X9_howMany : MI yX9_howMany cX9_howMany 12 (some .int) 7 := ⟨(inT5 99 rfl rfl), (inT1 9 rfl rfl), by decide, by decide, (by decide +kernel)⟩
theorem mv_X9_howMany : MV yX9_howMany := ⟨(inT5 97 rfl rfl), (inT5 98 rfl rfl)⟩
theorem mi_X9_right : MI yX9_right cX9_right 4 (some .long) 3 := ⟨(inT5 103 rfl rfl), (inT1 9 rfl rfl), by decide, by decide, (by decide +kernel)⟩
theorem mv_X9_right : MV yX9_right := ⟨(inT5 101 rfl rfl), (inT5 102 rfl rfl)⟩
theorem mi_X9_takesGame : MI yX9_takesGame cX9_takesGame 4 (some .boolean) 1 := ⟨(inT5 112 rfl rfl), (inT1 9 rfl rfl), by decide, by decide, (by decide +kernel)⟩
theorem mv_X9_takesGame : MV yX9_takesGame := ⟨(inT5 111 rfl rfl), (inP 43 (by decide +kernel) rfl)⟩
theorem mi_X9_rests : MI yX9_rests cX9_rests 8 (some .int) 3 := ⟨(inT5 107 rfl rfl), (inT1 9 rfl rfl), by decide, by decide, (by decide +kernel)⟩
theorem mv_X9_rests : MV yX9_rests := ⟨(inT5 105 rfl rfl), (inT5 106 rfl rfl)⟩
theorem mi_X9_mixes : MI yX9_mixes cX9_mixes 3 (some .boolean) 2 := ⟨(inT5 121 rfl rfl), (inT1 9 rfl rfl), by decide, by decide, (by decide +kernel)⟩
theorem mv_X9_mixes : MV yX9_mixes := ⟨(inT5 120 rfl rfl), (inP 44 (by decide +kernel) rfl)⟩
theorem mi_X9_mixed : MI yX9_mixed cX9_mixed 11 (some .long) 5 := ⟨(inT5 117 rfl rfl), (inT1 9 rfl rfl), by decide, by decide, (by decide +kernel)⟩
theorem mv_X9_mixed : MV yX9_mixed := ⟨(inT5 115 rfl rfl), (inT5 116 rfl rfl)⟩
theorem mi_X9_noSheet : MI yX9_noSheet cX9_noSheet 1 (some .boolean) 1 := ⟨(inT4 114 rfl rfl), (inT1 9 rfl rfl), by decide, by decide, (by decide +kernel)⟩
theorem ms_X9_noSheet : Cond.static yX9_noSheet ∈ tbl0 := (inT4 113 rfl rfl)
theorem mi_X9_sheet : MI yX9_sheet cX9_sheet 5 (some .int) 3 := ⟨(inT5 125 rfl rfl), (inT1 9 rfl rfl), by decide, by decide, (by decide +kernel)⟩
theorem mv_X9_sheet : MV yX9_sheet := ⟨(inT5 123 rfl rfl), (inT5 124 rfl rfl)⟩
theorem mi_X9_lose : MI yX9_lose cX9_lose 3 (some .int) 1 := ⟨(inT5 129 rfl rfl), (inT1 9 rfl rfl), by decide, by decide, (by decide +kernel)⟩
theorem mv_X9_lose : MV yX9_lose := ⟨(inT5 127 rfl rfl), (inT5 128 rfl rfl)⟩
theorem mi_X9_noCell : MI yX9_noCell cX9_noCell 3 (some .int) 2 := ⟨(inT5 137 rfl rfl), (inT1 9 rfl rfl), by decide, by decide, (by decide +kernel)⟩
theorem mv_X9_noCell : MV yX9_noCell := ⟨(inT5 136 rfl rfl), (inP 45 (by decide +kernel) rfl)⟩
theorem mi_X9_put : MI yX9_put cX9_put 4 (some .int) 3 := ⟨(inT5 133 rfl rfl), (inT1 9 rfl rfl), by decide, by decide, (by decide +kernel)⟩
theorem mv_X9_put : MV yX9_put := ⟨(inT5 131 rfl rfl), (inT5 132 rfl rfl)⟩
theorem mi_X9_cell : MI yX9_cell cX9_cell 4 (some .long) 3 := ⟨(inT5 141 rfl rfl), (inT1 9 rfl rfl), by decide, by decide, (by decide +kernel)⟩
theorem mv_X9_cell : MV yX9_cell := ⟨(inT5 139 rfl rfl), (inT5 140 rfl rfl)⟩
theorem mi_X9_isBeyond : MI yX9_isBeyond cX9_isBeyond 4 (some .boolean) 3 := ⟨(inT4 130 rfl rfl), (inT1 9 rfl rfl), by decide, by decide, (by decide +kernel)⟩
theorem ms_X9_isBeyond : Cond.static yX9_isBeyond ∈ tbl0 := (inT4 129 rfl rfl)
theorem mi_X9_copy : MI yX9_copy cX9_copy 7 (some .int) 5 := ⟨(inT5 149 rfl rfl), (inT1 9 rfl rfl), by decide, by decide, (by decide +kernel)⟩
theorem mv_X9_copy : MV yX9_copy := ⟨(inT5 147 rfl rfl), (inT5 148 rfl rfl)⟩
theorem mi_X9_traced : MI yX9_traced cX9_traced 2 none 1 := ⟨(inT5 157 rfl rfl), (inT1 9 rfl rfl), by decide, by decide, (by decide +kernel)⟩
theorem mv_X9_traced : MV yX9_traced := ⟨(inT5 156 rfl rfl), (inP 47 (by decide +kernel) rfl)⟩
theorem mi_X9_tell : MI yX9_tell cX9_tell 4 (some .int) 1 := ⟨(inT5 153 rfl rfl), (inT1 9 rfl rfl), by decide, by decide, (by decide +kernel)⟩
theorem mv_X9_tell : MV yX9_tell := ⟨(inT5 151 rfl rfl), (inT5 152 rfl rfl)⟩
theorem mi_X9_greet : MI yX9_greet cX9_greet 2 (some .int) 1 := ⟨(inT5 161 rfl rfl), (inT1 9 rfl rfl), by decide, by decide, (by decide +kernel)⟩
theorem mv_X9_greet : MV yX9_greet := ⟨(inT5 159 rfl rfl), (inT5 160 rfl rfl)⟩
theorem mi_X9_as : MI yX9_as cX9_as 3 (some .int) 2 := ⟨(inT5 165 rfl rfl), (inT1 9 rfl rfl), by decide, by decide, (by decide +kernel)⟩
theorem mv_X9_as : MV yX9_as := ⟨(inT5 163 rfl rfl), (inT5 164 rfl rfl)⟩
theorem mi_X9_trace : MI yX9_trace cX9_trace 1 (some .int) 0 := ⟨(inT5 169 rfl rfl), (inT1 9 rfl rfl), by decide, by decide, (by decide +kernel)⟩
theorem mv_X9_trace : MV yX9_trace := ⟨(inT5 167 rfl rfl), (inT5 168 rfl rfl)⟩
theorem mi_X9_fault : MI yX9_fault cX9_fault 1 (some .int) 0 := ⟨(inT5 173 rfl rfl), (inT1 9 rfl rfl), by decide, by decide, (by decide +kernel)⟩
theorem mv_X9_fault : MV yX9_fault := ⟨(inT5 171 rfl rfl), (inT5 172 rfl rfl)⟩
theorem mi_X9_many : MI yX9_many cX9_many 2 (some .int) 1 := ⟨(inT5 177 rfl rfl), (inT1 9 rfl rfl), by decide, by decide, (by decide +kernel)⟩
theorem mv_X9_many : MV yX9_many := ⟨(inT5 175 rfl rfl), (inT5 176 rfl rfl)⟩
theorem mi_X0_has : MI yX0_has cX0_has 2 (some .boolean) 1 := ⟨(inT2 148 rfl rfl), (inT1 4 rfl rfl), by decide, by decide, (by decide +kernel)⟩
theorem mv_X0_has : MV yX0_has := ⟨(inT2 146 rfl rfl), (inT2 147 rfl rfl)⟩
theorem mi_X0_add : MI yX0_add cX0_add 6 (some .int) 4 := ⟨(inT2 140 rfl rfl), (inT1 4 rfl rfl), by decide, by decide, (by decide +kernel)⟩
theorem mv_X0_add : MV yX0_add := ⟨(inT2 138 rfl rfl), (inT2 139 rfl rfl)⟩
theorem mi_X0_become : MI yX0_become cX0_become 2 none 1 := ⟨(inT3 5 rfl rfl), (inT1 4 rfl rfl), by decide, by decide, (by decide +kernel)⟩
theorem mv_X0_become : MV yX0_become := ⟨(inT3 3 rfl rfl), (inT3 4 rfl rfl)⟩
theorem mi_X1_become : MI yX1_become cX1_become 2 none 1 := ⟨(inT2 236 rfl rfl), (inT1 2 rfl rfl), by decide, by decide, (by decide +kernel)⟩
theorem mv_X1_become : MV yX1_become := ⟨(inT2 234 rfl rfl), (inT2 235 rfl rfl)⟩
theorem mi_X1_awaitCook : MI yX1_awaitCook cX1_awaitCook 4 none 3 := ⟨(inT3 65 rfl rfl), (inT1 2 rfl rfl), by decide, by decide, (by decide +kernel)⟩
theorem mv_X1_awaitCook : MV yX1_awaitCook := ⟨(inT3 63 rfl rfl), (inT3 64 rfl rfl)⟩
theorem mi_X1_open : MI yX1_open cX1_open 2 none 0 := ⟨(inT2 156 rfl rfl), (inT1 2 rfl rfl), by decide, by decide, (by decide +kernel)⟩
theorem mv_X1_open : MV yX1_open := ⟨(inT2 154 rfl rfl), (inT2 155 rfl rfl)⟩
theorem mi_X1_goThrough : MI yX1_goThrough cX1_goThrough 4 none 0 := ⟨(inT2 173 rfl rfl), (inT1 2 rfl rfl), by decide, by decide, (by decide +kernel)⟩
theorem mv_X1_goThrough : MV yX1_goThrough := ⟨(inT2 171 rfl rfl), (inT2 172 rfl rfl)⟩
theorem mi_X1_allLeft : MI yX1_allLeft cX1_allLeft 3 (some .int) 0 := ⟨(inT2 207 rfl rfl), (inT1 2 rfl rfl), by decide, by decide, (by decide +kernel)⟩
theorem mv_X1_allLeft : MV yX1_allLeft := ⟨(inT2 205 rfl rfl), (inT2 206 rfl rfl)⟩
theorem mi_X1_profit : MI yX1_profit cX1_profit 1 (some .int) 0 := ⟨(inT2 211 rfl rfl), (inT1 2 rfl rfl), by decide, by decide, (by decide +kernel)⟩
theorem mv_X1_profit : MV yX1_profit := ⟨(inT2 209 rfl rfl), (inT2 210 rfl rfl)⟩
theorem mi_X1_worthTo : MI yX1_worthTo cX1_worthTo 5 (some .int) 3 := ⟨(inT2 160 rfl rfl), (inT1 2 rfl rfl), by decide, by decide, (by decide +kernel)⟩
theorem mv_X1_worthTo : MV yX1_worthTo := ⟨(inT2 158 rfl rfl), (inT2 159 rfl rfl)⟩
theorem mi_X1_liesDearer : MI yX1_liesDearer cX1_liesDearer 4 (some .boolean) 2 := ⟨(inT2 165 rfl rfl), (inT1 2 rfl rfl), by decide, by decide, (by decide +kernel)⟩
theorem mv_X1_liesDearer : MV yX1_liesDearer := ⟨(inT2 164 rfl rfl), (inP 2 (by decide +kernel) rfl)⟩
theorem mi_X1_sellAllToCook : MI yX1_sellAllToCook cX1_sellAllToCook 1 none 0 := ⟨(inT2 178 rfl rfl), (inT1 2 rfl rfl), by decide, by decide, (by decide +kernel)⟩
theorem mv_X1_sellAllToCook : MV yX1_sellAllToCook := ⟨(inT2 177 rfl rfl), (inP 3 (by decide +kernel) rfl)⟩
theorem mi_X1_comes : MI yX1_comes cX1_comes 3 (some .boolean) 2 := ⟨(inT2 182 rfl rfl), (inT1 2 rfl rfl), by decide, by decide, (by decide +kernel)⟩
theorem mv_X1_comes : MV yX1_comes := ⟨(inT2 181 rfl rfl), (inP 4 (by decide +kernel) rfl)⟩
theorem mi_X1_sellOne : MI yX1_sellOne cX1_sellOne 5 none 3 := ⟨(inT2 199 rfl rfl), (inT1 2 rfl rfl), by decide, by decide, (by decide +kernel)⟩
theorem mv_X1_sellOne : MV yX1_sellOne := ⟨(inT2 198 rfl rfl), (inP 7 (by decide +kernel) rfl)⟩
theorem mi_X1_choiceOf : MI yX1_choiceOf cX1_choiceOf 8 (some .int) 2 := ⟨(inT2 186 rfl rfl), (inT1 2 rfl rfl), by decide, by decide, (by decide +kernel)⟩
theorem mv_X1_choiceOf : MV yX1_choiceOf := ⟨(inT2 185 rfl rfl), (inP 5 (by decide +kernel) rfl)⟩
theorem mi_X1_gainOf : MI yX1_gainOf cX1_gainOf 4 (some .int) 3 := ⟨(inT2 194 rfl rfl), (inT1 2 rfl rfl), by decide, by decide, (by decide +kernel)⟩
theorem mv_X1_gainOf : MV yX1_gainOf := ⟨(inT2 193 rfl rfl), (inP 6 (by decide +kernel) rfl)⟩
theorem mi_X2_take : MI yX2_take cX2_take 4 (some .boolean) 2 := ⟨(inT3 116 rfl rfl), (inT1 8 rfl rfl), by decide, by decide, (by decide +kernel)⟩
theorem mv_X2_take : MV yX2_take := ⟨(inT3 114 rfl rfl), (inT3 115 rfl rfl)⟩
theorem mi_X2_restingBits : MI yX2_restingBits cX2_restingBits 3 (some .int) 0 := ⟨(inT3 121 rfl rfl), (inT1 8 rfl rfl), by decide, by decide, (by decide +kernel)⟩
theorem mv_X2_restingBits : MV yX2_restingBits := ⟨(inT3 119 rfl rfl), (inT3 120 rfl rfl)⟩
theorem mi_X2_hasMixed : MI yX2_hasMixed cX2_hasMixed 1 (some .boolean) 0 := ⟨(inT3 129 rfl rfl), (inT1 8 rfl rfl), by decide, by decide, (by decide +kernel)⟩
theorem mv_X2_hasMixed : MV yX2_hasMixed := ⟨(inT3 127 rfl rfl), (inT3 128 rfl rfl)⟩
theorem mi_X2_takingOffUpper : MI yX2_takingOffUpper cX2_takingOffUpper 1 (some .int) 0 := ⟨(inT3 133 rfl rfl), (inT1 8 rfl rfl), by decide, by decide, (by decide +kernel)⟩
theorem mv_X2_takingOffUpper : MV yX2_takingOffUpper := ⟨(inT3 131 rfl rfl), (inT3 132 rfl rfl)⟩
theorem mi_X2_takingOffLower : MI yX2_takingOffLower cX2_takingOffLower 1 (some .int) 0 := ⟨(inT3 137 rfl rfl), (inT1 8 rfl rfl), by decide, by decide, (by decide +kernel)⟩
theorem mv_X2_takingOffLower : MV yX2_takingOffLower := ⟨(inT3 135 rfl rfl), (inT3 136 rfl rfl)⟩
theorem mi_X2_buyingUpper : MI yX2_buyingUpper cX2_buyingUpper 1 (some .int) 0 := ⟨(inT3 144 rfl rfl), (inT1 8 rfl rfl), by decide, by decide, (by decide +kernel)⟩
theorem mv_X2_buyingUpper : MV yX2_buyingUpper := ⟨(inT3 142 rfl rfl), (inT3 143 rfl rfl)⟩
theorem mi_X2_buyingLower : MI yX2_buyingLower cX2_buyingLower 1 (some .int) 0 := ⟨(inT3 148 rfl rfl), (inT1 8 rfl rfl), by decide, by decide, (by decide +kernel)⟩
theorem mv_X2_buyingLower : MV yX2_buyingLower := ⟨(inT3 146 rfl rfl), (inT3 147 rfl rfl)⟩
theorem mi_X2_isBetween : MI yX2_isBetween cX2_isBetween 2 (some .boolean) 2 := ⟨(inT3 140 rfl rfl), (inT1 8 rfl rfl), by decide, by decide, (by decide +kernel)⟩
theorem ms_X2_isBetween : Cond.static yX2_isBetween ∈ tbl0 := (inT3 139 rfl rfl)
theorem mi_X3_take : MI yX3_take cX3_take 5 (some .boolean) 3 := ⟨(inT3 73 rfl rfl), (inT1 7 rfl rfl), by decide, by decide, (by decide +kernel)⟩
theorem mv_X3_take : MV yX3_take := ⟨(inT3 71 rfl rfl), (inT3 72 rfl rfl)⟩
theorem mi_X3_weighed : MI yX3_weighed cX3_weighed 8 (some .int) 4 := ⟨(inT3 83 rfl rfl), (inT1 7 rfl rfl), by decide, by decide, (by decide +kernel)⟩
theorem mv_X3_weighed : MV yX3_weighed := ⟨(inT3 81 rfl rfl), (inT3 82 rfl rfl)⟩
theorem mi_X3_mostWorthwhile : MI yX3_mostWorthwhile cX3_mostWorthwhile 8 (some .int) 3 := ⟨(inT3 103 rfl rfl), (inT1 7 rfl rfl), by decide, by decide, (by decide +kernel)⟩
theorem mv_X3_mostWorthwhile : MV yX3_mostWorthwhile := ⟨(inT3 101 rfl rfl), (inT3 102 rfl rfl)⟩
theorem mi_X4_profitWithout : MI yX4_profitWithout cX4_profitWithout 3 (some .int) 2 := ⟨(inT3 53 rfl rfl), (inT1 5 rfl rfl), by decide, by decide, (by decide +kernel)⟩
theorem mv_X4_profitWithout : MV yX4_profitWithout := ⟨(inT3 51 rfl rfl), (inT3 52 rfl rfl)⟩
theorem mi_X4_profitWithCook : MI yX4_profitWithCook cX4_profitWithCook 5 (some .int) 4 := ⟨(inT3 61 rfl rfl), (inT1 5 rfl rfl), by decide, by decide, (by decide +kernel)⟩
theorem mv_X4_profitWithCook : MV yX4_profitWithCook := ⟨(inT3 59 rfl rfl), (inT3 60 rfl rfl)⟩
theorem mi_X4_findPrice : MI yX4_findPrice cX4_findPrice 5 none 3 := ⟨(inT2 232 rfl rfl), (inT1 5 rfl rfl), by decide, by decide, (by decide +kernel)⟩
theorem mv_X4_findPrice : MV yX4_findPrice := ⟨(inT2 230 rfl rfl), (inT2 231 rfl rfl)⟩
theorem mi_X4_findTakingOff : MI yX4_findTakingOff cX4_findTakingOff 4 none 1 := ⟨(inT3 17 rfl rfl), (inT1 5 rfl rfl), by decide, by decide, (by decide +kernel)⟩
theorem mv_X4_findTakingOff : MV yX4_findTakingOff := ⟨(inT3 15 rfl rfl), (inT3 16 rfl rfl)⟩
theorem mi_X4_findFetched : MI yX4_findFetched cX4_findFetched 4 none 1 := ⟨(inT3 32 rfl rfl), (inT1 5 rfl rfl), by decide, by decide, (by decide +kernel)⟩
theorem mv_X4_findFetched : MV yX4_findFetched := ⟨(inT3 30 rfl rfl), (inT3 31 rfl rfl)⟩
theorem mi_X4_weighRow : MI yX4_weighRow cX4_weighRow 5 none 0 := ⟨(inT3 36 rfl rfl), (inT1 5 rfl rfl), by decide, by decide, (by decide +kernel)⟩
theorem mv_X4_weighRow : MV yX4_weighRow := ⟨(inT3 35 rfl rfl), (inP 8 (by decide +kernel) rfl)⟩
theorem mi_X4_isRaisedFirst : MI yX4_isRaisedFirst cX4_isRaisedFirst 2 (some .boolean) 0 := ⟨(inT3 40 rfl rfl), (inT1 5 rfl rfl), by decide, by decide, (by decide +kernel)⟩
theorem mv_X4_isRaisedFirst : MV yX4_isRaisedFirst := ⟨(inT3 39 rfl rfl), (inP 9 (by decide +kernel) rfl)⟩
theorem mi_X4_goToNextRow : MI yX4_goToNextRow cX4_goToNextRow 3 (some .boolean) 0 := ⟨(inT3 45 rfl rfl), (inT1 5 rfl rfl), by decide, by decide, (by decide +kernel)⟩
theorem mv_X4_goToNextRow : MV yX4_goToNextRow := ⟨(inT3 44 rfl rfl), (inP 10 (by decide +kernel) rfl)⟩
theorem mi_X5_cut : MI yX5_cut cX5_cut 2 (some .int) 2 := ⟨(inT3 171 rfl rfl), (inT1 6 rfl rfl), by decide, by decide, (by decide +kernel)⟩
theorem ms_X5_cut : Cond.static yX5_cut ∈ tbl0 := (inT3 170 rfl rfl)
theorem mi_X5_isThere : MI yX5_isThere cX5_isThere 2 (some .boolean) 1 := ⟨(inT2 47 rfl rfl), (inT1 6 rfl rfl), by decide, by decide, (by decide +kernel)⟩
theorem mv_X5_isThere : MV yX5_isThere := ⟨(inT2 45 rfl rfl), (inT2 46 rfl rfl)⟩
theorem mi_X5_isLane : MI yX5_isLane cX5_isLane 2 (some .boolean) 1 := ⟨(inT2 51 rfl rfl), (inT1 6 rfl rfl), by decide, by decide, (by decide +kernel)⟩
theorem mv_X5_isLane : MV yX5_isLane := ⟨(inT2 49 rfl rfl), (inT2 50 rfl rfl)⟩
theorem mi_X5_hasRow : MI yX5_hasRow cX5_hasRow 2 (some .boolean) 1 := ⟨(inT2 55 rfl rfl), (inT1 6 rfl rfl), by decide, by decide, (by decide +kernel)⟩
theorem mv_X5_hasRow : MV yX5_hasRow := ⟨(inT2 53 rfl rfl), (inT2 54 rfl rfl)⟩
theorem mi_X5_reaches : MI yX5_reaches cX5_reaches 4 (some .boolean) 3 := ⟨(inT2 63 rfl rfl), (inT1 6 rfl rfl), by decide, by decide, (by decide +kernel)⟩
theorem mv_X5_reaches : MV yX5_reaches := ⟨(inT2 61 rfl rfl), (inT2 62 rfl rfl)⟩
theorem mi_X5_give : MI yX5_give cX5_give 5 none 3 := ⟨(inT3 160 rfl rfl), (inT1 6 rfl rfl), by decide, by decide, (by decide +kernel)⟩
theorem mv_X5_give : MV yX5_give := ⟨(inT3 158 rfl rfl), (inT3 159 rfl rfl)⟩
theorem mi_X6_readText : MI yX6_readText cX6_readText 7 none 3 := ⟨(inT2 76 rfl rfl), (inT1 3 rfl rfl), by decide, by decide, (by decide +kernel)⟩
theorem mv_X6_readText : MV yX6_readText := ⟨(inT2 74 rfl rfl), (inT2 75 rfl rfl)⟩
theorem mi_X6_become : MI yX6_become cX6_become 3 none 1 := ⟨(inT3 0 rfl rfl), (inT1 3 rfl rfl), by decide, by decide, (by decide +kernel)⟩
theorem mv_X6_become : MV yX6_become := ⟨(inT2 238 rfl rfl), (inT2 239 rfl rfl)⟩
theorem mi_X6_isTold : MI yX6_isTold cX6_isTold 1 (some .boolean) 0 := ⟨(inT2 128 rfl rfl), (inT1 3 rfl rfl), by decide, by decide, (by decide +kernel)⟩
theorem mv_X6_isTold : MV yX6_isTold := ⟨(inT2 126 rfl rfl), (inT2 127 rfl rfl)⟩
theorem mi_X6_hasSort : MI yX6_hasSort cX6_hasSort 2 (some .boolean) 1 := ⟨(inT2 84 rfl rfl), (inT1 3 rfl rfl), by decide, by decide, (by decide +kernel)⟩
theorem mv_X6_hasSort : MV yX6_hasSort := ⟨(inT2 82 rfl rfl), (inT2 83 rfl rfl)⟩
theorem mi_X6_hasPlace : MI yX6_hasPlace cX6_hasPlace 3 (some .boolean) 2 := ⟨(inT2 92 rfl rfl), (inT1 3 rfl rfl), by decide, by decide, (by decide +kernel)⟩
theorem mv_X6_hasPlace : MV yX6_hasPlace := ⟨(inT2 90 rfl rfl), (inT2 91 rfl rfl)⟩
theorem mi_X6_freshAt : MI yX6_freshAt cX6_freshAt 4 (some .int) 2 := ⟨(inT2 97 rfl rfl), (inT1 3 rfl rfl), by decide, by decide, (by decide +kernel)⟩
theorem mv_X6_freshAt : MV yX6_freshAt := ⟨(inT2 95 rfl rfl), (inT2 96 rfl rfl)⟩
theorem mi_X6_allFish : MI yX6_allFish cX6_allFish 3 (some .int) 0 := ⟨(inT2 203 rfl rfl), (inT1 3 rfl rfl), by decide, by decide, (by decide +kernel)⟩
theorem mv_X6_allFish : MV yX6_allFish := ⟨(inT2 201 rfl rfl), (inT2 202 rfl rfl)⟩
theorem mi_X6_costOfAll : MI yX6_costOfAll cX6_costOfAll 3 (some .int) 0 := ⟨(inT2 216 rfl rfl), (inT1 3 rfl rfl), by decide, by decide, (by decide +kernel)⟩
theorem mv_X6_costOfAll : MV yX6_costOfAll := ⟨(inT2 214 rfl rfl), (inT2 215 rfl rfl)⟩
theorem mi_X6_isCheaperNext : MI yX6_isCheaperNext cX6_isCheaperNext 3 (some .boolean) 2 := ⟨(inT2 190 rfl rfl), (inT1 3 rfl rfl), by decide, by decide, (by decide +kernel)⟩
theorem mv_X6_isCheaperNext : MV yX6_isCheaperNext := ⟨(inT2 188 rfl rfl), (inT2 189 rfl rfl)⟩
theorem mi_X6_takeOffFrom : MI yX6_takeOffFrom cX6_takeOffFrom 7 none 3 := ⟨(inT3 21 rfl rfl), (inT1 3 rfl rfl), by decide, by decide, (by decide +kernel)⟩
theorem mv_X6_takeOffFrom : MV yX6_takeOffFrom := ⟨(inT3 19 rfl rfl), (inT3 20 rfl rfl)⟩
theorem mi_X7_firstFault : MI yX7_firstFault cX7_firstFault 4 (some .int) 3 := ⟨(inT2 66 rfl rfl), (inT1 10 rfl rfl), by decide, by decide, (by decide +kernel)⟩
theorem ms_X7_firstFault : Cond.static yX7_firstFault ∈ tbl0 := (inT2 65 rfl rfl)
theorem mi_X7_goesOn : MI yX7_goesOn cX7_goesOn 2 (some .boolean) 2 := ⟨(inT2 69 rfl rfl), (inT1 10 rfl rfl), by decide, by decide, (by decide +kernel)⟩
theorem ms_X7_goesOn : Cond.static yX7_goesOn ∈ tbl0 := (inT2 68 rfl rfl)
theorem ml_L_13 : Cond.methodLink RL 13 yX8_stall ∈ tbl0 := (inT2 36 rfl rfl)
theorem ml_8_46 : Cond.methodLink RX8 46 yX8_lookAtCells ∈ tbl0 := (inT2 40 rfl rfl)
theorem ml_8_276 : Cond.methodLink RX8 276 yX5_isThere ∈ tbl0 := (inT2 44 rfl rfl)
theorem ml_8_279 : Cond.methodLink RX8 279 yX5_isLane ∈ tbl0 := (inT2 48 rfl rfl)
theorem ml_8_290 : Cond.methodLink RX8 290 yX5_hasRow ∈ tbl0 := (inT2 52 rfl rfl)
theorem ml_8_282 : Cond.methodLink RX8 282 yX8_faultOf ∈ tbl0 := (inT2 56 rfl rfl)
theorem ml_8_296 : Cond.methodLink RX8 296 yX5_reaches ∈ tbl0 := (inT2 60 rfl rfl)
theorem ml_8_54 : Cond.methodLink RX8 54 yX7_firstFault ∈ tbl0 := (inT2 64 rfl rfl)
theorem ml_7_9 : Cond.methodLink RX7 9 yX7_goesOn ∈ tbl0 := (inT2 67 rfl rfl)
theorem mn_7_15 : Cond.methodLinkNest RX7 15 yX8_isWithin "IceSlab" ∈ nst := inN 310 (by decide +kernel)
theorem ml_8_64 : Cond.methodLink RX8 64 yX6_readText ∈ tbl0 := (inT2 73 rfl rfl)
theorem ml_L_18 : Cond.methodLink RL 18 yX8_ofSort ∈ tbl0 := (inT2 77 rfl rfl)
theorem ml_8_83 : Cond.methodLink RX8 83 yX6_hasSort ∈ tbl0 := (inT2 81 rfl rfl)
theorem ml_L_23 : Cond.methodLink RL 23 yX8_fresh ∈ tbl0 := (inT2 85 rfl rfl)
theorem ml_8_100 : Cond.methodLink RX8 100 yX6_hasPlace ∈ tbl0 := (inT2 89 rfl rfl)
theorem ml_6_51 : Cond.methodLink RX6 51 yX6_hasSort ∈ tbl0 := (inT2 93 rfl rfl)
theorem ml_8_104 : Cond.methodLink RX8 104 yX6_freshAt ∈ tbl0 := (inT2 94 rfl rfl)
theorem ml_L_27 : Cond.methodLink RL 27 yX8_fish ∈ tbl0 := (inT2 98 rfl rfl)
theorem ml_8_108 : Cond.methodLink RX8 108 yX8_isWithin ∈ tbl0 := (inT2 102 rfl rfl)
theorem ml_L_31 : Cond.methodLink RL 31 yX8_slate ∈ tbl0 := (inT2 103 rfl rfl)
theorem ml_L_35 : Cond.methodLink RL 35 yX8_write ∈ tbl0 := (inT2 107 rfl rfl)
theorem ml_L_40 : Cond.methodLink RL 40 yX8_copyOut ∈ tbl0 := (inT2 111 rfl rfl)
theorem ml_8_121 : Cond.methodLink RX8 121 yX8_areAllWithin ∈ tbl0 := (inT2 115 rfl rfl)
theorem ml_L_45 : Cond.methodLink RL 45 yX8_soup ∈ tbl0 := (inT2 121 rfl rfl)
theorem ml_8_131 : Cond.methodLink RX8 131 yX6_isTold ∈ tbl0 := (inT2 125 rfl rfl)
theorem ml_L_50 : Cond.methodLink RL 50 yX8_beside ∈ tbl0 := (inT2 129 rfl rfl)
theorem ml_L_55 : Cond.methodLink RL 55 yX8_buyer ∈ tbl0 := (inT2 133 rfl rfl)
theorem ml_8_142 : Cond.methodLink RX8 142 yX0_add ∈ tbl0 := (inT2 137 rfl rfl)
theorem ml_L_59 : Cond.methodLink RL 59 yX8_ofBuyer ∈ tbl0 := (inT2 141 rfl rfl)
theorem ml_8_145 : Cond.methodLink RX8 145 yX0_has ∈ tbl0 := (inT2 145 rfl rfl)
theorem ml_L_63 : Cond.methodLink RL 63 yX8_worth ∈ tbl0 := (inT2 149 rfl rfl)
theorem ml_8_160 : Cond.methodLink RX8 160 yX1_open ∈ tbl0 := (inT2 153 rfl rfl)
theorem ml_8_163 : Cond.methodLink RX8 163 yX1_worthTo ∈ tbl0 := (inT2 157 rfl rfl)
theorem ml_1_110 : Cond.methodLink RX1 110 yX6_freshAt ∈ tbl0 := (inT2 161 rfl rfl)
theorem ml_1_120 : Cond.methodLink RX1 120 yX1_liesDearer ∈ tbl0 := (inT2 162 rfl rfl)
theorem ml_L_67 : Cond.methodLink RL 67 yX8_day ∈ tbl0 := (inT2 166 rfl rfl)
theorem ml_8_167 : Cond.methodLink RX8 167 yX1_goThrough ∈ tbl0 := (inT2 170 rfl rfl)
theorem ml_1_76 : Cond.methodLink RX1 76 yX1_open ∈ tbl0 := (inT2 174 rfl rfl)
theorem ml_1_82 : Cond.methodLink RX1 82 yX1_sellAllToCook ∈ tbl0 := (inT2 175 rfl rfl)
theorem ml_1_85 : Cond.methodLink RX1 85 yX1_comes ∈ tbl0 := (inT2 179 rfl rfl)
theorem ml_1_89 : Cond.methodLink RX1 89 yX1_choiceOf ∈ tbl0 := (inT2 183 rfl rfl)
theorem ml_1_133 : Cond.methodLink RX1 133 yX6_isCheaperNext ∈ tbl0 := (inT2 187 rfl rfl)
theorem ml_1_136 : Cond.methodLink RX1 136 yX1_gainOf ∈ tbl0 := (inT2 191 rfl rfl)
theorem ml_1_140 : Cond.methodLink RX1 140 yX1_worthTo ∈ tbl0 := (inT2 195 rfl rfl)
theorem ml_1_93 : Cond.methodLink RX1 93 yX1_sellOne ∈ tbl0 := (inT2 196 rfl rfl)
theorem ml_8_173 : Cond.methodLink RX8 173 yX6_allFish ∈ tbl0 := (inT2 200 rfl rfl)
theorem ml_8_177 : Cond.methodLink RX8 177 yX1_allLeft ∈ tbl0 := (inT2 204 rfl rfl)
theorem ml_8_180 : Cond.methodLink RX8 180 yX1_profit ∈ tbl0 := (inT2 208 rfl rfl)
theorem ml_1_100 : Cond.methodLink RX1 100 yX1_allLeft ∈ tbl0 := (inT2 212 rfl rfl)
theorem ml_1_104 : Cond.methodLink RX1 104 yX6_costOfAll ∈ tbl0 := (inT2 213 rfl rfl)
theorem ml_L_71 : Cond.methodLink RL 71 yX8_bought ∈ tbl0 := (inT2 217 rfl rfl)
theorem ml_L_75 : Cond.methodLink RL 75 yX8_sold ∈ tbl0 := (inT2 221 rfl rfl)
theorem ml_L_79 : Cond.methodLink RL 79 yX8_best ∈ tbl0 := (inT2 225 rfl rfl)
theorem ml_8_204 : Cond.methodLink RX8 204 yX4_findPrice ∈ tbl0 := (inT2 229 rfl rfl)
theorem ml_4_29 : Cond.methodLink RX4 29 yX1_become ∈ tbl0 := (inT2 233 rfl rfl)
theorem ml_1_51 : Cond.methodLink RX1 51 yX6_become ∈ tbl0 := (inT2 237 rfl rfl)
theorem ml_1_55 : Cond.methodLink RX1 55 yX0_become ∈ tbl0 := (inT3 2 rfl rfl)
theorem ml_4_42 : Cond.methodLink RX4 42 yX1_goThrough ∈ tbl0 := (inT3 8 rfl rfl)
theorem ml_4_45 : Cond.methodLink RX4 45 yX1_profit ∈ tbl0 := (inT3 9 rfl rfl)
theorem ml_L_83 : Cond.methodLink RL 83 yX8_takeOff ∈ tbl0 := (inT3 10 rfl rfl)
theorem ml_8_213 : Cond.methodLink RX8 213 yX4_findTakingOff ∈ tbl0 := (inT3 14 rfl rfl)
theorem ml_4_72 : Cond.methodLink RX4 72 yX6_takeOffFrom ∈ tbl0 := (inT3 18 rfl rfl)
theorem ml_L_87 : Cond.methodLink RL 87 yX8_fetch ∈ tbl0 := (inT3 25 rfl rfl)
theorem ml_8_219 : Cond.methodLink RX8 219 yX4_findFetched ∈ tbl0 := (inT3 29 rfl rfl)
theorem ml_4_76 : Cond.methodLink RX4 76 yX4_weighRow ∈ tbl0 := (inT3 33 rfl rfl)
theorem ml_4_95 : Cond.methodLink RX4 95 yX4_isRaisedFirst ∈ tbl0 := (inT3 37 rfl rfl)
theorem ml_4_79 : Cond.methodLink RX4 79 yX4_goToNextRow ∈ tbl0 := (inT3 42 rfl rfl)
theorem ml_L_91 : Cond.methodLink RL 91 yX8_carried ∈ tbl0 := (inT3 46 rfl rfl)
theorem ml_8_225 : Cond.methodLink RX8 225 yX4_profitWithout ∈ tbl0 := (inT3 50 rfl rfl)
theorem ml_L_95 : Cond.methodLink RL 95 yX8_cook ∈ tbl0 := (inT3 54 rfl rfl)
theorem ml_8_229 : Cond.methodLink RX8 229 yX4_profitWithCook ∈ tbl0 := (inT3 58 rfl rfl)
theorem ml_4_49 : Cond.methodLink RX4 49 yX1_awaitCook ∈ tbl0 := (inT3 62 rfl rfl)
theorem ml_L_99 : Cond.methodLink RL 99 yX8_mean ∈ tbl0 := (inT3 66 rfl rfl)
theorem ml_8_233 : Cond.methodLink RX8 233 yX3_take ∈ tbl0 := (inT3 70 rfl rfl)
theorem mn_3_15 : Cond.methodLinkNest RX3 15 yX8_isWithin "IceSlab" ∈ nst := inN 554 (by decide +kernel)
theorem mn_3_19 : Cond.methodLinkNest RX3 19 yX8_areAllWithin "IceSlab" ∈ nst := inN 555 (by decide +kernel)
theorem ml_8_239 : Cond.methodLink RX8 239 yX8_areMoney ∈ tbl0 := (inT3 77 rfl rfl)
theorem ml_8_242 : Cond.methodLink RX8 242 yX3_weighed ∈ tbl0 := (inT3 80 rfl rfl)
theorem ml_8_248 : Cond.methodLink RX8 248 yX8_partOfShare ∈ tbl0 := (inT3 87 rfl rfl)
theorem ml_8_327 : Cond.methodLink RX8 327 yX8_commonDivisor ∈ tbl0 := (inT3 93 rfl rfl)
theorem ml_L_104 : Cond.methodLink RL 104 yX8_howMany ∈ tbl0 := (inT3 96 rfl rfl)
theorem ml_8_252 : Cond.methodLink RX8 252 yX3_mostWorthwhile ∈ tbl0 := (inT3 100 rfl rfl)
theorem ml_3_36 : Cond.methodLink RX3 36 yX3_weighed ∈ tbl0 := (inT3 104 rfl rfl)
theorem ml_L_109 : Cond.methodLink RL 109 yX8_right ∈ tbl0 := (inT3 105 rfl rfl)
theorem ml_L_114 : Cond.methodLink RL 114 yX8_rests ∈ tbl0 := (inT3 109 rfl rfl)
theorem ml_8_255 : Cond.methodLink RX8 255 yX2_take ∈ tbl0 := (inT3 113 rfl rfl)
theorem mn_2_16 : Cond.methodLinkNest RX2 16 yX8_areAllWithin "IceSlab" ∈ nst := inN 597 (by decide +kernel)
theorem ml_8_258 : Cond.methodLink RX8 258 yX2_restingBits ∈ tbl0 := (inT3 118 rfl rfl)
theorem ml_L_118 : Cond.methodLink RL 118 yX8_mixed ∈ tbl0 := (inT3 122 rfl rfl)
theorem ml_8_261 : Cond.methodLink RX8 261 yX2_hasMixed ∈ tbl0 := (inT3 126 rfl rfl)
theorem ml_2_22 : Cond.methodLink RX2 22 yX2_takingOffUpper ∈ tbl0 := (inT3 130 rfl rfl)
theorem ml_2_26 : Cond.methodLink RX2 26 yX2_takingOffLower ∈ tbl0 := (inT3 134 rfl rfl)
theorem ml_2_29 : Cond.methodLink RX2 29 yX2_isBetween ∈ tbl0 := (inT3 138 rfl rfl)
theorem ml_2_33 : Cond.methodLink RX2 33 yX2_buyingUpper ∈ tbl0 := (inT3 141 rfl rfl)
theorem ml_2_36 : Cond.methodLink RX2 36 yX2_buyingLower ∈ tbl0 := (inT3 145 rfl rfl)
theorem ml_8_264 : Cond.methodLink RX8 264 yX2_takingOffUpper ∈ tbl0 := (inT3 149 rfl rfl)
theorem ml_8_267 : Cond.methodLink RX8 267 yX2_takingOffLower ∈ tbl0 := (inT3 150 rfl rfl)
theorem ml_8_270 : Cond.methodLink RX8 270 yX2_buyingUpper ∈ tbl0 := (inT3 151 rfl rfl)
theorem ml_8_273 : Cond.methodLink RX8 273 yX2_buyingLower ∈ tbl0 := (inT3 152 rfl rfl)
theorem ml_L_123 : Cond.methodLink RL 123 yX8_sheet ∈ tbl0 := (inT3 153 rfl rfl)
theorem ml_8_286 : Cond.methodLink RX8 286 yX5_give ∈ tbl0 := (inT3 157 rfl rfl)
theorem ml_L_127 : Cond.methodLink RL 127 yX8_lose ∈ tbl0 := (inT3 161 rfl rfl)
theorem ml_L_131 : Cond.methodLink RL 131 yX8_put ∈ tbl0 := (inT3 165 rfl rfl)
theorem ml_8_302 : Cond.methodLink RX8 302 yX5_cut ∈ tbl0 := (inT3 169 rfl rfl)
theorem ml_L_135 : Cond.methodLink RL 135 yX8_cell ∈ tbl0 := (inT3 172 rfl rfl)
theorem ml_L_139 : Cond.methodLink RL 139 yX8_copy ∈ tbl0 := (inT3 176 rfl rfl)
theorem ml_L_143 : Cond.methodLink RL 143 yX8_tell ∈ tbl0 := (inT3 180 rfl rfl)
theorem ml_8_305 : Cond.methodLink RX8 305 yX8_tellAsWaiting ∈ tbl0 := (inT3 184 rfl rfl)
theorem ml_8_314 : Cond.methodLink RX8 314 yX8_leaveTrace ∈ tbl0 := (inT3 188 rfl rfl)
theorem ml_8_308 : Cond.methodLink RX8 308 yX8_tellAsChoosing ∈ tbl0 := (inT3 192 rfl rfl)
theorem ml_8_311 : Cond.methodLink RX8 311 yX8_tellAsBuyer ∈ tbl0 := (inT3 196 rfl rfl)
theorem ml_L_147 : Cond.methodLink RL 147 yX8_greet ∈ tbl0 := (inT3 200 rfl rfl)
theorem ml_L_151 : Cond.methodLink RL 151 yX8_as ∈ tbl0 := (inT3 204 rfl rfl)
theorem ml_L_155 : Cond.methodLink RL 155 yX8_trace ∈ tbl0 := (inT3 208 rfl rfl)
theorem ml_L_160 : Cond.methodLink RL 160 yX8_fault ∈ tbl0 := (inT3 212 rfl rfl)
theorem ml_L_164 : Cond.methodLink RL 164 yX8_many ∈ tbl0 := (inT3 216 rfl rfl)
theorem ml_L_17 : Cond.methodLink RL 17 yX9_stall ∈ tbl0 := (inT4 104 rfl rfl)
theorem ml_9_146 : Cond.methodLink RX9 146 yX9_barred ∈ tbl0 := (inT4 108 rfl rfl)
theorem ml_9_99 : Cond.methodLink RX9 99 yX9_noSheet ∈ tbl0 := (inT4 112 rfl rfl)
theorem ml_9_87 : Cond.methodLink RX9 87 yX9_in ∈ tbl0 := (inT4 116 rfl rfl)
theorem ml_9_103 : Cond.methodLink RX9 103 yX9_refused ∈ tbl0 := (inT4 119 rfl rfl)
theorem ml_9_109 : Cond.methodLink RX9 109 yX9_failed ∈ tbl0 := (inT4 124 rfl rfl)
theorem ml_9_112 : Cond.methodLink RX9 112 yX9_isBeyond ∈ tbl0 := (inT4 128 rfl rfl)
theorem ml_9_150 : Cond.methodLink RX9 150 yX9_readsStall ∈ tbl0 := (inT4 131 rfl rfl)
theorem ml_9_131 : Cond.methodLink RX9 131 yX9_takes ∈ tbl0 := (inT4 135 rfl rfl)
theorem ml_9_135 : Cond.methodLink RX9 135 yX9_readsFigure ∈ tbl0 := (inT4 139 rfl rfl)
theorem ml_9_142 : Cond.methodLink RX9 142 yX9_readsSort ∈ tbl0 := (inT4 143 rfl rfl)
theorem ml_L_22 : Cond.methodLink RL 22 yX9_ofSort ∈ tbl0 := (inT4 147 rfl rfl)
theorem ml_9_163 : Cond.methodLink RX9 163 yX9_noSort ∈ tbl0 := (inT4 151 rfl rfl)
theorem ml_L_26 : Cond.methodLink RL 26 yX9_fresh ∈ tbl0 := (inT4 155 rfl rfl)
theorem ml_9_170 : Cond.methodLink RX9 170 yX9_noHour ∈ tbl0 := (inT4 159 rfl rfl)
theorem ml_9_173 : Cond.methodLink RX9 173 yX9_freshAt ∈ tbl0 := (inT4 163 rfl rfl)
theorem ml_9_166 : Cond.methodLink RX9 166 yX9_greater ∈ tbl0 := (inT4 167 rfl rfl)
theorem ml_L_30 : Cond.methodLink RL 30 yX9_fish ∈ tbl0 := (inT4 170 rfl rfl)
theorem ml_L_34 : Cond.methodLink RL 34 yX9_slate ∈ tbl0 := (inT4 175 rfl rfl)
theorem ml_9_180 : Cond.methodLink RX9 180 yX9_priceOf ∈ tbl0 := (inT4 179 rfl rfl)
theorem ml_L_39 : Cond.methodLink RL 39 yX9_write ∈ tbl0 := (inT4 183 rfl rfl)
theorem ml_9_183 : Cond.methodLink RX9 183 yX9_isPrice ∈ tbl0 := (inT4 187 rfl rfl)
theorem ml_L_44 : Cond.methodLink RL 44 yX9_copyOut ∈ tbl0 := (inT4 191 rfl rfl)
theorem ml_L_49 : Cond.methodLink RL 49 yX9_soup ∈ tbl0 := (inT4 195 rfl rfl)
theorem ml_L_54 : Cond.methodLink RL 54 yX9_beside ∈ tbl0 := (inT4 199 rfl rfl)
theorem ml_L_58 : Cond.methodLink RL 58 yX9_buyer ∈ tbl0 := (inT4 203 rfl rfl)
theorem ml_L_62 : Cond.methodLink RL 62 yX9_ofBuyer ∈ tbl0 := (inT4 208 rfl rfl)
theorem ml_9_188 : Cond.methodLink RX9 188 yX9_noBuyer ∈ tbl0 := (inT4 212 rfl rfl)
theorem ml_L_66 : Cond.methodLink RL 66 yX9_worth ∈ tbl0 := (inT4 216 rfl rfl)
theorem ml_9_194 : Cond.methodLink RX9 194 yX9_layAll ∈ tbl0 := (inT4 220 rfl rfl)
theorem ml_9_197 : Cond.methodLink RX9 197 yX9_worthOf ∈ tbl0 := (inT4 224 rfl rfl)
theorem ml_9_191 : Cond.methodLink RX9 191 yX9_hasDearer ∈ tbl0 := (inT4 228 rfl rfl)
theorem ml_L_70 : Cond.methodLink RL 70 yX9_day ∈ tbl0 := (inT4 232 rfl rfl)
theorem ml_9_225 : Cond.methodLink RX9 225 yX9_goThrough ∈ tbl0 := (inT4 236 rfl rfl)
theorem ml_9_213 : Cond.methodLink RX9 213 yX9_sell ∈ tbl0 := (inT5 0 rfl rfl)
theorem ml_9_217 : Cond.methodLink RX9 217 yX9_comes ∈ tbl0 := (inT5 4 rfl rfl)
theorem ml_9_210 : Cond.methodLink RX9 210 yX9_wanted ∈ tbl0 := (inT5 8 rfl rfl)
theorem ml_9_201 : Cond.methodLink RX9 201 yX9_isCheaperNext ∈ tbl0 := (inT5 12 rfl rfl)
theorem ml_9_204 : Cond.methodLink RX9 204 yX9_gainOf ∈ tbl0 := (inT5 16 rfl rfl)
theorem ml_9_233 : Cond.methodLink RX9 233 yX9_allFish ∈ tbl0 := (inT5 20 rfl rfl)
theorem ml_9_221 : Cond.methodLink RX9 221 yX9_left ∈ tbl0 := (inT5 24 rfl rfl)
theorem ml_9_228 : Cond.methodLink RX9 228 yX9_profitOf ∈ tbl0 := (inT5 28 rfl rfl)
theorem ml_L_74 : Cond.methodLink RL 74 yX9_bought ∈ tbl0 := (inT5 32 rfl rfl)
theorem ml_L_78 : Cond.methodLink RL 78 yX9_sold ∈ tbl0 := (inT5 36 rfl rfl)
theorem ml_L_82 : Cond.methodLink RL 82 yX9_best ∈ tbl0 := (inT5 40 rfl rfl)
theorem ml_9_236 : Cond.methodLink RX9 236 yX9_profit ∈ tbl0 := (inT5 44 rfl rfl)
theorem ml_L_86 : Cond.methodLink RL 86 yX9_takeOff ∈ tbl0 := (inT5 48 rfl rfl)
theorem ml_L_90 : Cond.methodLink RL 90 yX9_fetch ∈ tbl0 := (inT5 52 rfl rfl)
theorem ml_9_241 : Cond.methodLink RX9 241 yX9_layFish ∈ tbl0 := (inT5 57 rfl rfl)
theorem ml_L_94 : Cond.methodLink RL 94 yX9_carried ∈ tbl0 := (inT5 61 rfl rfl)
theorem ml_L_98 : Cond.methodLink RL 98 yX9_cook ∈ tbl0 := (inT5 65 rfl rfl)
theorem ml_L_103 : Cond.methodLink RL 103 yX9_mean ∈ tbl0 := (inT5 69 rfl rfl)
theorem ml_9_95 : Cond.methodLink RX9 95 yX9_lost ∈ tbl0 := (inT5 73 rfl rfl)
theorem ml_9_249 : Cond.methodLink RX9 249 yX9_weightsOf ∈ tbl0 := (inT5 78 rfl rfl)
theorem ml_9_252 : Cond.methodLink RX9 252 yX9_isMoney ∈ tbl0 := (inT5 83 rfl rfl)
theorem ml_9_255 : Cond.methodLink RX9 255 yX9_isWhich ∈ tbl0 := (inT5 86 rfl rfl)
theorem ml_9_258 : Cond.methodLink RX9 258 yX9_hadBy ∈ tbl0 := (inT5 89 rfl rfl)
theorem ml_9_262 : Cond.methodLink RX9 262 yX9_told ∈ tbl0 := (inT5 93 rfl rfl)
theorem ml_L_108 : Cond.methodLink RL 108 yX9_howMany ∈ tbl0 := (inT5 96 rfl rfl)
theorem ml_L_113 : Cond.methodLink RL 113 yX9_right ∈ tbl0 := (inT5 100 rfl rfl)
theorem ml_L_117 : Cond.methodLink RL 117 yX9_rests ∈ tbl0 := (inT5 104 rfl rfl)
theorem ml_9_270 : Cond.methodLink RX9 270 yX9_takesGame ∈ tbl0 := (inT5 109 rfl rfl)
theorem ml_L_122 : Cond.methodLink RL 122 yX9_mixed ∈ tbl0 := (inT5 114 rfl rfl)
theorem ml_9_280 : Cond.methodLink RX9 280 yX9_mixes ∈ tbl0 := (inT5 118 rfl rfl)
theorem ml_L_126 : Cond.methodLink RL 126 yX9_sheet ∈ tbl0 := (inT5 122 rfl rfl)
theorem ml_L_130 : Cond.methodLink RL 130 yX9_lose ∈ tbl0 := (inT5 126 rfl rfl)
theorem ml_L_134 : Cond.methodLink RL 134 yX9_put ∈ tbl0 := (inT5 130 rfl rfl)
theorem ml_9_283 : Cond.methodLink RX9 283 yX9_noCell ∈ tbl0 := (inT5 134 rfl rfl)
theorem ml_L_138 : Cond.methodLink RL 138 yX9_cell ∈ tbl0 := (inT5 138 rfl rfl)
theorem ml_9_286 : Cond.methodLink RX9 286 yX9_failedLong ∈ tbl0 := (inT5 142 rfl rfl)
theorem ml_L_142 : Cond.methodLink RL 142 yX9_copy ∈ tbl0 := (inT5 146 rfl rfl)
theorem ml_L_146 : Cond.methodLink RL 146 yX9_tell ∈ tbl0 := (inT5 150 rfl rfl)
theorem ml_9_293 : Cond.methodLink RX9 293 yX9_traced ∈ tbl0 := (inT5 154 rfl rfl)
theorem ml_L_150 : Cond.methodLink RL 150 yX9_greet ∈ tbl0 := (inT5 158 rfl rfl)
theorem ml_L_154 : Cond.methodLink RL 154 yX9_as ∈ tbl0 := (inT5 162 rfl rfl)
theorem ml_L_159 : Cond.methodLink RL 159 yX9_trace ∈ tbl0 := (inT5 166 rfl rfl)
theorem ml_L_163 : Cond.methodLink RL 163 yX9_fault ∈ tbl0 := (inT5 170 rfl rfl)
theorem ml_L_167 : Cond.methodLink RL 167 yX9_many ∈ tbl0 := (inT5 174 rfl rfl)
theorem gf_6_9 {X : PX} {S : SW} {M : Mem} {cc : ByteArray} {f lo pc : Nat} {ls : List (Option Value)} {st : List Value} (d : Nat) (hd : d < 2) (C : Cx X S RX6 cc f lo) (h : decode cc pc = .ok (.getfield 9, 3)) (kk : PW X S M (pc + 3) ls (rv S d 2 0 :: st)) : PW X S M pc ls (rv S d 1 0 :: st) := pw_getf (n := 0) C (inT1 35 rfl rfl) iX6 rfl (by decide) rfl (oD_1 hd) rfl h (fun _ => kk)
theorem gf_4_37 {X : PX} {S : SW} {M : Mem} {cc : ByteArray} {f lo pc : Nat} {ls : List (Option Value)} {st : List Value} (d : Nat) (hd : d < 2) (C : Cx X S RX4 cc f lo) (h : decode cc pc = .ok (.getfield 37, 3)) (kk : PW X S M (pc + 3) ls (rv S d 2 0 :: st)) : PW X S M pc ls (rv S d 1 0 :: st) := pw_getf (n := 0) C (inT1 36 rfl rfl) iX6 rfl (by decide) rfl (oD_1 hd) rfl h (fun _ => kk)
theorem gf_8_87 {X : PX} {S : SW} {M : Mem} {cc : ByteArray} {f lo pc : Nat} {ls : List (Option Value)} {st : List Value} (d : Nat) (hd : d < 2) (C : Cx X S RX8 cc f lo) (h : decode cc pc = .ok (.getfield 87, 3)) (kk : PW X S M (pc + 3) ls (rv S d 2 0 :: st)) : PW X S M pc ls (rv S d 1 0 :: st) := pw_getf (n := 0) C (inT1 37 rfl rfl) iX6 rfl (by decide) rfl (oD_1 hd) rfl h (fun _ => kk)
theorem gf_1_70 {X : PX} {S : SW} {M : Mem} {cc : ByteArray} {f lo pc : Nat} {ls : List (Option Value)} {st : List Value} (d : Nat) (hd : d < 2) (C : Cx X S RX1 cc f lo) (h : decode cc pc = .ok (.getfield 70, 3)) (kk : PW X S M (pc + 3) ls (rv S d 2 0 :: st)) : PW X S M pc ls (rv S d 1 0 :: st) := pw_getf (n := 0) C (inT1 38 rfl rfl) iX6 rfl (by decide) rfl (oD_1 hd) rfl h (fun _ => kk)
theorem gf_6_15 {X : PX} {S : SW} {M : Mem} {cc : ByteArray} {f lo pc : Nat} {ls : List (Option Value)} {st : List Value} (d : Nat) (hd : d < 2) (C : Cx X S RX6 cc f lo) (h : decode cc pc = .ok (.getfield 15, 3)) (kk : PW X S M (pc + 3) ls (rv S d 3 0 :: st)) : PW X S M pc ls (rv S d 1 0 :: st) := pw_getf (n := 1) C (inT1 39 rfl rfl) iX6 rfl (by decide) rfl (oD_1 hd) rfl h (fun _ => kk)
theorem gf_8_91 {X : PX} {S : SW} {M : Mem} {cc : ByteArray} {f lo pc : Nat} {ls : List (Option Value)} {st : List Value} (d : Nat) (hd : d < 2) (C : Cx X S RX8 cc f lo) (h : decode cc pc = .ok (.getfield 91, 3)) (kk : PW X S M (pc + 3) ls (rv S d 3 0 :: st)) : PW X S M pc ls (rv S d 1 0 :: st) := pw_getf (n := 1) C (inT1 40 rfl rfl) iX6 rfl (by decide) rfl (oD_1 hd) rfl h (fun _ => kk)
theorem gf_4_89 {X : PX} {S : SW} {M : Mem} {cc : ByteArray} {f lo pc : Nat} {ls : List (Option Value)} {st : List Value} (d : Nat) (hd : d < 2) (C : Cx X S RX4 cc f lo) (h : decode cc pc = .ok (.getfield 89, 3)) (kk : PW X S M (pc + 3) ls (rv S d 3 0 :: st)) : PW X S M pc ls (rv S d 1 0 :: st) := pw_getf (n := 1) C (inT1 41 rfl rfl) iX6 rfl (by decide) rfl (oD_1 hd) rfl h (fun _ => kk)
theorem gf_6_18 {X : PX} {S : SW} {M : Mem} {cc : ByteArray} {f lo pc : Nat} {ls : List (Option Value)} {st : List Value} (d : Nat) (hd : d < 2) (C : Cx X S RX6 cc f lo) (h : decode cc pc = .ok (.getfield 18, 3)) (kk : PW X S M (pc + 3) ls (rv S d 4 0 :: st)) : PW X S M pc ls (rv S d 1 0 :: st) := pw_getf (n := 2) C (inT1 42 rfl rfl) iX6 rfl (by decide) rfl (oD_1 hd) rfl h (fun _ => kk)
theorem gf_8_94 {X : PX} {S : SW} {M : Mem} {cc : ByteArray} {f lo pc : Nat} {ls : List (Option Value)} {st : List Value} (d : Nat) (hd : d < 2) (C : Cx X S RX8 cc f lo) (h : decode cc pc = .ok (.getfield 94, 3)) (kk : PW X S M (pc + 3) ls (rv S d 4 0 :: st)) : PW X S M pc ls (rv S d 1 0 :: st) := pw_getf (n := 2) C (inT1 43 rfl rfl) iX6 rfl (by decide) rfl (oD_1 hd) rfl h (fun _ => kk)
theorem gf_6_21 {X : PX} {S : SW} {M : Mem} {cc : ByteArray} {f lo pc : Nat} {ls : List (Option Value)} {st : List Value} (d : Nat) (hd : d < 2) (C : Cx X S RX6 cc f lo) (h : decode cc pc = .ok (.getfield 21, 3)) (kk : PW X S M (pc + 3) ls (rv S d 5 0 :: st)) : PW X S M pc ls (rv S d 1 0 :: st) := pw_getf (n := 3) C (inT1 44 rfl rfl) iX6 rfl (by decide) rfl (oD_1 hd) rfl h (fun _ => kk)
theorem gf_8_97 {X : PX} {S : SW} {M : Mem} {cc : ByteArray} {f lo pc : Nat} {ls : List (Option Value)} {st : List Value} (d : Nat) (hd : d < 2) (C : Cx X S RX8 cc f lo) (h : decode cc pc = .ok (.getfield 97, 3)) (kk : PW X S M (pc + 3) ls (rv S d 5 0 :: st)) : PW X S M pc ls (rv S d 1 0 :: st) := pw_getf (n := 3) C (inT1 45 rfl rfl) iX6 rfl (by decide) rfl (oD_1 hd) rfl h (fun _ => kk)
theorem gf_6_26 {X : PX} {S : SW} {M : Mem} {cc : ByteArray} {f lo pc : Nat} {ls : List (Option Value)} {st : List Value} (d : Nat) (hd : d < 2) (C : Cx X S RX6 cc f lo) (h : decode cc pc = .ok (.getfield 26, 3)) (kk : PW X S M (pc + 3) ls (rv S d 6 0 :: st)) : PW X S M pc ls (rv S d 1 0 :: st) := pw_getf (n := 4) C (inT1 46 rfl rfl) iX6 rfl (by decide) rfl (oD_1 hd) rfl h (fun _ => kk)
theorem gf_4_59 {X : PX} {S : SW} {M : Mem} {cc : ByteArray} {f lo pc : Nat} {ls : List (Option Value)} {st : List Value} (d : Nat) (hd : d < 2) (C : Cx X S RX4 cc f lo) (h : decode cc pc = .ok (.getfield 59, 3)) (kk : PW X S M (pc + 3) ls (rv S d 6 0 :: st)) : PW X S M pc ls (rv S d 1 0 :: st) := pw_getf (n := 4) C (inT1 47 rfl rfl) iX6 rfl (by decide) rfl (oD_1 hd) rfl h (fun _ => kk)
theorem gf_8_112 {X : PX} {S : SW} {M : Mem} {cc : ByteArray} {f lo pc : Nat} {ls : List (Option Value)} {st : List Value} (d : Nat) (hd : d < 2) (C : Cx X S RX8 cc f lo) (h : decode cc pc = .ok (.getfield 112, 3)) (kk : PW X S M (pc + 3) ls (rv S d 6 0 :: st)) : PW X S M pc ls (rv S d 1 0 :: st) := pw_getf (n := 4) C (inT1 48 rfl rfl) iX6 rfl (by decide) rfl (oD_1 hd) rfl h (fun _ => kk)
theorem gf_1_123 {X : PX} {S : SW} {M : Mem} {cc : ByteArray} {f lo pc : Nat} {ls : List (Option Value)} {st : List Value} (d : Nat) (hd : d < 2) (C : Cx X S RX1 cc f lo) (h : decode cc pc = .ok (.getfield 123, 3)) (kk : PW X S M (pc + 3) ls (rv S d 6 0 :: st)) : PW X S M pc ls (rv S d 1 0 :: st) := pw_getf (n := 4) C (inT1 49 rfl rfl) iX6 rfl (by decide) rfl (oD_1 hd) rfl h (fun _ => kk)
theorem gf_6_29 {X : PX} {S : SW} {M : Mem} {cc : ByteArray} {f lo pc : Nat} {ls : List (Option Value)} {st : List Value} (d : Nat) (hd : d < 2) (C : Cx X S RX6 cc f lo) (h : decode cc pc = .ok (.getfield 29, 3)) (kk : InR (M d 1 0 5) → PW X S M (pc + 3) ls (iv (M d 1 0 5) :: st)) : PW X S M pc ls (rv S d 1 0 :: st) := pw_getf (n := 5) C (inT1 50 rfl rfl) iX6 rfl (by decide) rfl (oD_1 hd) rfl h kk
theorem gv_6_29 {X : PX} {S : SW} {M : Mem} {cc : ByteArray} {f lo pc : Nat} {ls : List (Option Value)} {st : List Value} {V : DM} (d : Nat) (hd : d < 2) (C : Cx X S RX6 cc f lo) (h : decode cc pc = .ok (.getfield 29, 3)) (kk : InR (V 1 0 5) → PW X S (mst M d V) (pc + 3) ls (iv (V 1 0 5) :: st)) : PW X S (mst M d V) pc ls (rv S d 1 0 :: st) := gf_6_29 d hd C h (by rw [mst_s]; exact kk)
theorem pf_6_29 {X : PX} {S : SW} {M : Mem} {cc : ByteArray} {f lo pc : Nat} {ls : List (Option Value)} {st : List Value} (d : Nat) (hd : d < 2) (C : Cx X S RX6 cc f lo) {v : Int} (hv : InR v) (h : decode cc pc = .ok (.putfield 29, 3)) (kk : PW X S (mst M d (vup (M d) 1 0 5 v)) (pc + 3) ls st) : PW X S M pc ls (iv v :: rv S d 1 0 :: st) := pw_putf (n := 5) (q := (0, 0, 0)) C (inT1 50 rfl rfl) iX6 rfl (by decide) rfl tyX6_ok nmX6 rfl (oD_1 hd) rfl rfl rfl rfl hv h kk
theorem pv_6_29 {X : PX} {S : SW} {M : Mem} {cc : ByteArray} {f lo pc : Nat} {ls : List (Option Value)} {st : List Value} {V : DM} (d : Nat) (hd : d < 2) (C : Cx X S RX6 cc f lo) {v : Int} (hv : InR v) (h : decode cc pc = .ok (.putfield 29, 3)) (kk : PW X S (mst M d (vup V 1 0 5 v)) (pc + 3) ls st) : PW X S (mst M d V) pc ls (iv v :: rv S d 1 0 :: st) := pf_6_29 d hd C hv h (by rw [mst_m, mst_s]; exact kk)
theorem gf_1_79 {X : PX} {S : SW} {M : Mem} {cc : ByteArray} {f lo pc : Nat} {ls : List (Option Value)} {st : List Value} (d : Nat) (hd : d < 2) (C : Cx X S RX1 cc f lo) (h : decode cc pc = .ok (.getfield 79, 3)) (kk : InR (M d 1 0 5) → PW X S M (pc + 3) ls (iv (M d 1 0 5) :: st)) : PW X S M pc ls (rv S d 1 0 :: st) := pw_getf (n := 5) C (inT1 51 rfl rfl) iX6 rfl (by decide) rfl (oD_1 hd) rfl h kk
theorem gv_1_79 {X : PX} {S : SW} {M : Mem} {cc : ByteArray} {f lo pc : Nat} {ls : List (Option Value)} {st : List Value} {V : DM} (d : Nat) (hd : d < 2) (C : Cx X S RX1 cc f lo) (h : decode cc pc = .ok (.getfield 79, 3)) (kk : InR (V 1 0 5) → PW X S (mst M d V) (pc + 3) ls (iv (V 1 0 5) :: st)) : PW X S (mst M d V) pc ls (rv S d 1 0 :: st) := gf_1_79 d hd C h (by rw [mst_s]; exact kk)
theorem gf_4_69 {X : PX} {S : SW} {M : Mem} {cc : ByteArray} {f lo pc : Nat} {ls : List (Option Value)} {st : List Value} (d : Nat) (hd : d < 2) (C : Cx X S RX4 cc f lo) (h : decode cc pc = .ok (.getfield 69, 3)) (kk : InR (M d 1 0 5) → PW X S M (pc + 3) ls (iv (M d 1 0 5) :: st)) : PW X S M pc ls (rv S d 1 0 :: st) := pw_getf (n := 5) C (inT1 52 rfl rfl) iX6 rfl (by decide) rfl (oD_1 hd) rfl h kk
theorem gv_4_69 {X : PX} {S : SW} {M : Mem} {cc : ByteArray} {f lo pc : Nat} {ls : List (Option Value)} {st : List Value} {V : DM} (d : Nat) (hd : d < 2) (C : Cx X S RX4 cc f lo) (h : decode cc pc = .ok (.getfield 69, 3)) (kk : InR (V 1 0 5) → PW X S (mst M d V) (pc + 3) ls (iv (V 1 0 5) :: st)) : PW X S (mst M d V) pc ls (rv S d 1 0 :: st) := gf_4_69 d hd C h (by rw [mst_s]; exact kk)
theorem gf_8_118 {X : PX} {S : SW} {M : Mem} {cc : ByteArray} {f lo pc : Nat} {ls : List (Option Value)} {st : List Value} (d : Nat) (hd : d < 2) (C : Cx X S RX8 cc f lo) (h : decode cc pc = .ok (.getfield 118, 3)) (kk : InR (M d 1 0 5) → PW X S M (pc + 3) ls (iv (M d 1 0 5) :: st)) : PW X S M pc ls (rv S d 1 0 :: st) := pw_getf (n := 5) C (inT1 53 rfl rfl) iX6 rfl (by decide) rfl (oD_1 hd) rfl h kk
theorem gv_8_118 {X : PX} {S : SW} {M : Mem} {cc : ByteArray} {f lo pc : Nat} {ls : List (Option Value)} {st : List Value} {V : DM} (d : Nat) (hd : d < 2) (C : Cx X S RX8 cc f lo) (h : decode cc pc = .ok (.getfield 118, 3)) (kk : InR (V 1 0 5) → PW X S (mst M d V) (pc + 3) ls (iv (V 1 0 5) :: st)) : PW X S (mst M d V) pc ls (rv S d 1 0 :: st) := gf_8_118 d hd C h (by rw [mst_s]; exact kk)
theorem gf_6_35 {X : PX} {S : SW} {M : Mem} {cc : ByteArray} {f lo pc : Nat} {ls : List (Option Value)} {st : List Value} (d : Nat) (hd : d < 2) (C : Cx X S RX6 cc f lo) (h : decode cc pc = .ok (.getfield 35, 3)) (kk : InR (M d 1 0 6) → PW X S M (pc + 3) ls (iv (M d 1 0 6) :: st)) : PW X S M pc ls (rv S d 1 0 :: st) := pw_getf (n := 6) C (inT1 54 rfl rfl) iX6 rfl (by decide) rfl (oD_1 hd) rfl h kk
theorem gv_6_35 {X : PX} {S : SW} {M : Mem} {cc : ByteArray} {f lo pc : Nat} {ls : List (Option Value)} {st : List Value} {V : DM} (d : Nat) (hd : d < 2) (C : Cx X S RX6 cc f lo) (h : decode cc pc = .ok (.getfield 35, 3)) (kk : InR (V 1 0 6) → PW X S (mst M d V) (pc + 3) ls (iv (V 1 0 6) :: st)) : PW X S (mst M d V) pc ls (rv S d 1 0 :: st) := gf_6_35 d hd C h (by rw [mst_s]; exact kk)
theorem pf_6_35 {X : PX} {S : SW} {M : Mem} {cc : ByteArray} {f lo pc : Nat} {ls : List (Option Value)} {st : List Value} (d : Nat) (hd : d < 2) (C : Cx X S RX6 cc f lo) {v : Int} (hv : InR v) (h : decode cc pc = .ok (.putfield 35, 3)) (kk : PW X S (mst M d (vup (M d) 1 0 6 v)) (pc + 3) ls st) : PW X S M pc ls (iv v :: rv S d 1 0 :: st) := pw_putf (n := 6) (q := (0, 0, 0)) C (inT1 54 rfl rfl) iX6 rfl (by decide) rfl tyX6_ok nmX6 rfl (oD_1 hd) rfl rfl rfl rfl hv h kk
theorem pv_6_35 {X : PX} {S : SW} {M : Mem} {cc : ByteArray} {f lo pc : Nat} {ls : List (Option Value)} {st : List Value} {V : DM} (d : Nat) (hd : d < 2) (C : Cx X S RX6 cc f lo) {v : Int} (hv : InR v) (h : decode cc pc = .ok (.putfield 35, 3)) (kk : PW X S (mst M d (vup V 1 0 6 v)) (pc + 3) ls st) : PW X S (mst M d V) pc ls (iv v :: rv S d 1 0 :: st) := pf_6_35 d hd C hv h (by rw [mst_m, mst_s]; exact kk)
theorem gf_8_80 {X : PX} {S : SW} {M : Mem} {cc : ByteArray} {f lo pc : Nat} {ls : List (Option Value)} {st : List Value} (d : Nat) (hd : d < 2) (C : Cx X S RX8 cc f lo) (h : decode cc pc = .ok (.getfield 80, 3)) (kk : InR (M d 1 0 6) → PW X S M (pc + 3) ls (iv (M d 1 0 6) :: st)) : PW X S M pc ls (rv S d 1 0 :: st) := pw_getf (n := 6) C (inT1 55 rfl rfl) iX6 rfl (by decide) rfl (oD_1 hd) rfl h kk
theorem gv_8_80 {X : PX} {S : SW} {M : Mem} {cc : ByteArray} {f lo pc : Nat} {ls : List (Option Value)} {st : List Value} {V : DM} (d : Nat) (hd : d < 2) (C : Cx X S RX8 cc f lo) (h : decode cc pc = .ok (.getfield 80, 3)) (kk : InR (V 1 0 6) → PW X S (mst M d V) (pc + 3) ls (iv (V 1 0 6) :: st)) : PW X S (mst M d V) pc ls (rv S d 1 0 :: st) := gf_8_80 d hd C h (by rw [mst_s]; exact kk)
theorem gf_1_67 {X : PX} {S : SW} {M : Mem} {cc : ByteArray} {f lo pc : Nat} {ls : List (Option Value)} {st : List Value} (d : Nat) (hd : d < 2) (C : Cx X S RX1 cc f lo) (h : decode cc pc = .ok (.getfield 67, 3)) (kk : InR (M d 1 0 6) → PW X S M (pc + 3) ls (iv (M d 1 0 6) :: st)) : PW X S M pc ls (rv S d 1 0 :: st) := pw_getf (n := 6) C (inT1 56 rfl rfl) iX6 rfl (by decide) rfl (oD_1 hd) rfl h kk
theorem gv_1_67 {X : PX} {S : SW} {M : Mem} {cc : ByteArray} {f lo pc : Nat} {ls : List (Option Value)} {st : List Value} {V : DM} (d : Nat) (hd : d < 2) (C : Cx X S RX1 cc f lo) (h : decode cc pc = .ok (.getfield 67, 3)) (kk : InR (V 1 0 6) → PW X S (mst M d V) (pc + 3) ls (iv (V 1 0 6) :: st)) : PW X S (mst M d V) pc ls (rv S d 1 0 :: st) := gf_1_67 d hd C h (by rw [mst_s]; exact kk)
theorem gf_4_83 {X : PX} {S : SW} {M : Mem} {cc : ByteArray} {f lo pc : Nat} {ls : List (Option Value)} {st : List Value} (d : Nat) (hd : d < 2) (C : Cx X S RX4 cc f lo) (h : decode cc pc = .ok (.getfield 83, 3)) (kk : InR (M d 1 0 6) → PW X S M (pc + 3) ls (iv (M d 1 0 6) :: st)) : PW X S M pc ls (rv S d 1 0 :: st) := pw_getf (n := 6) C (inT1 57 rfl rfl) iX6 rfl (by decide) rfl (oD_1 hd) rfl h kk
theorem gv_4_83 {X : PX} {S : SW} {M : Mem} {cc : ByteArray} {f lo pc : Nat} {ls : List (Option Value)} {st : List Value} {V : DM} (d : Nat) (hd : d < 2) (C : Cx X S RX4 cc f lo) (h : decode cc pc = .ok (.getfield 83, 3)) (kk : InR (V 1 0 6) → PW X S (mst M d V) (pc + 3) ls (iv (V 1 0 6) :: st)) : PW X S (mst M d V) pc ls (rv S d 1 0 :: st) := gf_4_83 d hd C h (by rw [mst_s]; exact kk)
theorem gf_6_38 {X : PX} {S : SW} {M : Mem} {cc : ByteArray} {f lo pc : Nat} {ls : List (Option Value)} {st : List Value} (d : Nat) (hd : d < 2) (C : Cx X S RX6 cc f lo) (h : decode cc pc = .ok (.getfield 38, 3)) (kk : InR (M d 1 0 7) → PW X S M (pc + 3) ls (iv (M d 1 0 7) :: st)) : PW X S M pc ls (rv S d 1 0 :: st) := pw_getf (n := 7) C (inT1 58 rfl rfl) iX6 rfl (by decide) rfl (oD_1 hd) rfl h kk
theorem gv_6_38 {X : PX} {S : SW} {M : Mem} {cc : ByteArray} {f lo pc : Nat} {ls : List (Option Value)} {st : List Value} {V : DM} (d : Nat) (hd : d < 2) (C : Cx X S RX6 cc f lo) (h : decode cc pc = .ok (.getfield 38, 3)) (kk : InR (V 1 0 7) → PW X S (mst M d V) (pc + 3) ls (iv (V 1 0 7) :: st)) : PW X S (mst M d V) pc ls (rv S d 1 0 :: st) := gf_6_38 d hd C h (by rw [mst_s]; exact kk)
theorem pf_6_38 {X : PX} {S : SW} {M : Mem} {cc : ByteArray} {f lo pc : Nat} {ls : List (Option Value)} {st : List Value} (d : Nat) (hd : d < 2) (C : Cx X S RX6 cc f lo) {v : Int} (hv : InR v) (h : decode cc pc = .ok (.putfield 38, 3)) (kk : PW X S (mst M d (vup (M d) 1 0 7 v)) (pc + 3) ls st) : PW X S M pc ls (iv v :: rv S d 1 0 :: st) := pw_putf (n := 7) (q := (0, 0, 0)) C (inT1 58 rfl rfl) iX6 rfl (by decide) rfl tyX6_ok nmX6 rfl (oD_1 hd) rfl rfl rfl rfl hv h kk
theorem pv_6_38 {X : PX} {S : SW} {M : Mem} {cc : ByteArray} {f lo pc : Nat} {ls : List (Option Value)} {st : List Value} {V : DM} (d : Nat) (hd : d < 2) (C : Cx X S RX6 cc f lo) {v : Int} (hv : InR v) (h : decode cc pc = .ok (.putfield 38, 3)) (kk : PW X S (mst M d (vup V 1 0 7 v)) (pc + 3) ls st) : PW X S (mst M d V) pc ls (iv v :: rv S d 1 0 :: st) := pf_6_38 d hd C hv h (by rw [mst_m, mst_s]; exact kk)
theorem gf_1_97 {X : PX} {S : SW} {M : Mem} {cc : ByteArray} {f lo pc : Nat} {ls : List (Option Value)} {st : List Value} (d : Nat) (hd : d < 2) (C : Cx X S RX1 cc f lo) (h : decode cc pc = .ok (.getfield 97, 3)) (kk : InR (M d 1 0 7) → PW X S M (pc + 3) ls (iv (M d 1 0 7) :: st)) : PW X S M pc ls (rv S d 1 0 :: st) := pw_getf (n := 7) C (inT1 59 rfl rfl) iX6 rfl (by decide) rfl (oD_1 hd) rfl h kk
theorem gv_1_97 {X : PX} {S : SW} {M : Mem} {cc : ByteArray} {f lo pc : Nat} {ls : List (Option Value)} {st : List Value} {V : DM} (d : Nat) (hd : d < 2) (C : Cx X S RX1 cc f lo) (h : decode cc pc = .ok (.getfield 97, 3)) (kk : InR (V 1 0 7) → PW X S (mst M d V) (pc + 3) ls (iv (V 1 0 7) :: st)) : PW X S (mst M d V) pc ls (rv S d 1 0 :: st) := gf_1_97 d hd C h (by rw [mst_s]; exact kk)
theorem gf_4_86 {X : PX} {S : SW} {M : Mem} {cc : ByteArray} {f lo pc : Nat} {ls : List (Option Value)} {st : List Value} (d : Nat) (hd : d < 2) (C : Cx X S RX4 cc f lo) (h : decode cc pc = .ok (.getfield 86, 3)) (kk : InR (M d 1 0 7) → PW X S M (pc + 3) ls (iv (M d 1 0 7) :: st)) : PW X S M pc ls (rv S d 1 0 :: st) := pw_getf (n := 7) C (inT1 60 rfl rfl) iX6 rfl (by decide) rfl (oD_1 hd) rfl h kk
theorem gv_4_86 {X : PX} {S : SW} {M : Mem} {cc : ByteArray} {f lo pc : Nat} {ls : List (Option Value)} {st : List Value} {V : DM} (d : Nat) (hd : d < 2) (C : Cx X S RX4 cc f lo) (h : decode cc pc = .ok (.getfield 86, 3)) (kk : InR (V 1 0 7) → PW X S (mst M d V) (pc + 3) ls (iv (V 1 0 7) :: st)) : PW X S (mst M d V) pc ls (rv S d 1 0 :: st) := gf_4_86 d hd C h (by rw [mst_s]; exact kk)
theorem gf_8_135 {X : PX} {S : SW} {M : Mem} {cc : ByteArray} {f lo pc : Nat} {ls : List (Option Value)} {st : List Value} (d : Nat) (hd : d < 2) (C : Cx X S RX8 cc f lo) (h : decode cc pc = .ok (.getfield 135, 3)) (kk : InR (M d 1 0 7) → PW X S M (pc + 3) ls (iv (M d 1 0 7) :: st)) : PW X S M pc ls (rv S d 1 0 :: st) := pw_getf (n := 7) C (inT1 61 rfl rfl) iX6 rfl (by decide) rfl (oD_1 hd) rfl h kk
theorem gv_8_135 {X : PX} {S : SW} {M : Mem} {cc : ByteArray} {f lo pc : Nat} {ls : List (Option Value)} {st : List Value} {V : DM} (d : Nat) (hd : d < 2) (C : Cx X S RX8 cc f lo) (h : decode cc pc = .ok (.getfield 135, 3)) (kk : InR (V 1 0 7) → PW X S (mst M d V) (pc + 3) ls (iv (V 1 0 7) :: st)) : PW X S (mst M d V) pc ls (rv S d 1 0 :: st) := gf_8_135 d hd C h (by rw [mst_s]; exact kk)
theorem pf_8_135 {X : PX} {S : SW} {M : Mem} {cc : ByteArray} {f lo pc : Nat} {ls : List (Option Value)} {st : List Value} (d : Nat) (hd : d < 2) (C : Cx X S RX8 cc f lo) {v : Int} (hv : InR v) (h : decode cc pc = .ok (.putfield 135, 3)) (kk : PW X S (mst M d (vup (M d) 1 0 7 v)) (pc + 3) ls st) : PW X S M pc ls (iv v :: rv S d 1 0 :: st) := pw_putf (n := 7) (q := (0, 0, 0)) C (inT1 61 rfl rfl) iX6 rfl (by decide) rfl tyX6_ok nmX6 rfl (oD_1 hd) rfl rfl rfl rfl hv h kk
theorem pv_8_135 {X : PX} {S : SW} {M : Mem} {cc : ByteArray} {f lo pc : Nat} {ls : List (Option Value)} {st : List Value} {V : DM} (d : Nat) (hd : d < 2) (C : Cx X S RX8 cc f lo) {v : Int} (hv : InR v) (h : decode cc pc = .ok (.putfield 135, 3)) (kk : PW X S (mst M d (vup V 1 0 7 v)) (pc + 3) ls st) : PW X S (mst M d V) pc ls (iv v :: rv S d 1 0 :: st) := pf_8_135 d hd C hv h (by rw [mst_m, mst_s]; exact kk)
theorem gf_6_41 {X : PX} {S : SW} {M : Mem} {cc : ByteArray} {f lo pc : Nat} {ls : List (Option Value)} {st : List Value} (d : Nat) (hd : d < 2) (C : Cx X S RX6 cc f lo) (h : decode cc pc = .ok (.getfield 41, 3)) (kk : InR (M d 1 0 8) → PW X S M (pc + 3) ls (iv (M d 1 0 8) :: st)) : PW X S M pc ls (rv S d 1 0 :: st) := pw_getf (n := 8) C (inT1 62 rfl rfl) iX6 rfl (by decide) rfl (oD_1 hd) rfl h kk
theorem gv_6_41 {X : PX} {S : SW} {M : Mem} {cc : ByteArray} {f lo pc : Nat} {ls : List (Option Value)} {st : List Value} {V : DM} (d : Nat) (hd : d < 2) (C : Cx X S RX6 cc f lo) (h : decode cc pc = .ok (.getfield 41, 3)) (kk : InR (V 1 0 8) → PW X S (mst M d V) (pc + 3) ls (iv (V 1 0 8) :: st)) : PW X S (mst M d V) pc ls (rv S d 1 0 :: st) := gf_6_41 d hd C h (by rw [mst_s]; exact kk)
theorem pf_6_41 {X : PX} {S : SW} {M : Mem} {cc : ByteArray} {f lo pc : Nat} {ls : List (Option Value)} {st : List Value} (d : Nat) (hd : d < 2) (C : Cx X S RX6 cc f lo) {v : Int} (hv : v = 0 ∨ v = 1) (h : decode cc pc = .ok (.putfield 41, 3)) (kk : PW X S (mst M d (vup (M d) 1 0 8 v)) (pc + 3) ls st) : PW X S M pc ls (iv v :: rv S d 1 0 :: st) := pw_putf (n := 8) (q := (0, 0, 0)) C (inT1 62 rfl rfl) iX6 rfl (by decide) rfl tyX6_ok nmX6 rfl (oD_1 hd) rfl rfl (by rcases hv with rfl | rfl <;> rfl) (by rcases hv with rfl | rfl <;> rfl) (by rcases hv with rfl | rfl <;> unfold InR <;> omega) h kk
theorem pv_6_41 {X : PX} {S : SW} {M : Mem} {cc : ByteArray} {f lo pc : Nat} {ls : List (Option Value)} {st : List Value} {V : DM} (d : Nat) (hd : d < 2) (C : Cx X S RX6 cc f lo) {v : Int} (hv : v = 0 ∨ v = 1) (h : decode cc pc = .ok (.putfield 41, 3)) (kk : PW X S (mst M d (vup V 1 0 8 v)) (pc + 3) ls st) : PW X S (mst M d V) pc ls (iv v :: rv S d 1 0 :: st) := pf_6_41 d hd C hv h (by rw [mst_m, mst_s]; exact kk)
theorem gf_1_116 {X : PX} {S : SW} {M : Mem} {cc : ByteArray} {f lo pc : Nat} {ls : List (Option Value)} {st : List Value} (d : Nat) (hd : d < 2) (C : Cx X S RX1 cc f lo) (h : decode cc pc = .ok (.getfield 116, 3)) (kk : InR (M d 1 0 8) → PW X S M (pc + 3) ls (iv (M d 1 0 8) :: st)) : PW X S M pc ls (rv S d 1 0 :: st) := pw_getf (n := 8) C (inT1 63 rfl rfl) iX6 rfl (by decide) rfl (oD_1 hd) rfl h kk
theorem gv_1_116 {X : PX} {S : SW} {M : Mem} {cc : ByteArray} {f lo pc : Nat} {ls : List (Option Value)} {st : List Value} {V : DM} (d : Nat) (hd : d < 2) (C : Cx X S RX1 cc f lo) (h : decode cc pc = .ok (.getfield 116, 3)) (kk : InR (V 1 0 8) → PW X S (mst M d V) (pc + 3) ls (iv (V 1 0 8) :: st)) : PW X S (mst M d V) pc ls (rv S d 1 0 :: st) := gf_1_116 d hd C h (by rw [mst_s]; exact kk)
theorem gf_8_138 {X : PX} {S : SW} {M : Mem} {cc : ByteArray} {f lo pc : Nat} {ls : List (Option Value)} {st : List Value} (d : Nat) (hd : d < 2) (C : Cx X S RX8 cc f lo) (h : decode cc pc = .ok (.getfield 138, 3)) (kk : InR (M d 1 0 8) → PW X S M (pc + 3) ls (iv (M d 1 0 8) :: st)) : PW X S M pc ls (rv S d 1 0 :: st) := pw_getf (n := 8) C (inT1 64 rfl rfl) iX6 rfl (by decide) rfl (oD_1 hd) rfl h kk
theorem gv_8_138 {X : PX} {S : SW} {M : Mem} {cc : ByteArray} {f lo pc : Nat} {ls : List (Option Value)} {st : List Value} {V : DM} (d : Nat) (hd : d < 2) (C : Cx X S RX8 cc f lo) (h : decode cc pc = .ok (.getfield 138, 3)) (kk : InR (V 1 0 8) → PW X S (mst M d V) (pc + 3) ls (iv (V 1 0 8) :: st)) : PW X S (mst M d V) pc ls (rv S d 1 0 :: st) := gf_8_138 d hd C h (by rw [mst_s]; exact kk)
theorem pf_8_138 {X : PX} {S : SW} {M : Mem} {cc : ByteArray} {f lo pc : Nat} {ls : List (Option Value)} {st : List Value} (d : Nat) (hd : d < 2) (C : Cx X S RX8 cc f lo) {v : Int} (hv : v = 0 ∨ v = 1) (h : decode cc pc = .ok (.putfield 138, 3)) (kk : PW X S (mst M d (vup (M d) 1 0 8 v)) (pc + 3) ls st) : PW X S M pc ls (iv v :: rv S d 1 0 :: st) := pw_putf (n := 8) (q := (0, 0, 0)) C (inT1 64 rfl rfl) iX6 rfl (by decide) rfl tyX6_ok nmX6 rfl (oD_1 hd) rfl rfl (by rcases hv with rfl | rfl <;> rfl) (by rcases hv with rfl | rfl <;> rfl) (by rcases hv with rfl | rfl <;> unfold InR <;> omega) h kk
theorem pv_8_138 {X : PX} {S : SW} {M : Mem} {cc : ByteArray} {f lo pc : Nat} {ls : List (Option Value)} {st : List Value} {V : DM} (d : Nat) (hd : d < 2) (C : Cx X S RX8 cc f lo) {v : Int} (hv : v = 0 ∨ v = 1) (h : decode cc pc = .ok (.putfield 138, 3)) (kk : PW X S (mst M d (vup V 1 0 8 v)) (pc + 3) ls st) : PW X S (mst M d V) pc ls (iv v :: rv S d 1 0 :: st) := pf_8_138 d hd C hv h (by rw [mst_m, mst_s]; exact kk)
theorem gf_0_9 {X : PX} {S : SW} {M : Mem} {cc : ByteArray} {f lo pc : Nat} {ls : List (Option Value)} {st : List Value} (d : Nat) (hd : d < 2) (C : Cx X S RX0 cc f lo) (h : decode cc pc = .ok (.getfield 9, 3)) (kk : PW X S M (pc + 3) ls (rv S d 9 0 :: st)) : PW X S M pc ls (rv S d 8 0 :: st) := pw_getf (n := 0) C (inT1 91 rfl rfl) iX0 rfl (by decide) rfl (oD_8 hd) rfl h (fun _ => kk)
theorem gf_1_127 {X : PX} {S : SW} {M : Mem} {cc : ByteArray} {f lo pc : Nat} {ls : List (Option Value)} {st : List Value} (d : Nat) (hd : d < 2) (C : Cx X S RX1 cc f lo) (h : decode cc pc = .ok (.getfield 127, 3)) (kk : PW X S M (pc + 3) ls (rv S d 9 0 :: st)) : PW X S M pc ls (rv S d 8 0 :: st) := pw_getf (n := 0) C (inT1 92 rfl rfl) iX0 rfl (by decide) rfl (oD_8 hd) rfl h (fun _ => kk)
theorem gf_8_148 {X : PX} {S : SW} {M : Mem} {cc : ByteArray} {f lo pc : Nat} {ls : List (Option Value)} {st : List Value} (d : Nat) (hd : d < 2) (C : Cx X S RX8 cc f lo) (h : decode cc pc = .ok (.getfield 148, 3)) (kk : PW X S M (pc + 3) ls (rv S d 9 0 :: st)) : PW X S M pc ls (rv S d 8 0 :: st) := pw_getf (n := 0) C (inT1 93 rfl rfl) iX0 rfl (by decide) rfl (oD_8 hd) rfl h (fun _ => kk)
theorem gf_0_15 {X : PX} {S : SW} {M : Mem} {cc : ByteArray} {f lo pc : Nat} {ls : List (Option Value)} {st : List Value} (d : Nat) (hd : d < 2) (C : Cx X S RX0 cc f lo) (h : decode cc pc = .ok (.getfield 15, 3)) (kk : PW X S M (pc + 3) ls (rv S d 10 0 :: st)) : PW X S M pc ls (rv S d 8 0 :: st) := pw_getf (n := 1) C (inT1 94 rfl rfl) iX0 rfl (by decide) rfl (oD_8 hd) rfl h (fun _ => kk)
theorem gf_1_113 {X : PX} {S : SW} {M : Mem} {cc : ByteArray} {f lo pc : Nat} {ls : List (Option Value)} {st : List Value} (d : Nat) (hd : d < 2) (C : Cx X S RX1 cc f lo) (h : decode cc pc = .ok (.getfield 113, 3)) (kk : PW X S M (pc + 3) ls (rv S d 10 0 :: st)) : PW X S M pc ls (rv S d 8 0 :: st) := pw_getf (n := 1) C (inT1 95 rfl rfl) iX0 rfl (by decide) rfl (oD_8 hd) rfl h (fun _ => kk)
theorem gf_8_151 {X : PX} {S : SW} {M : Mem} {cc : ByteArray} {f lo pc : Nat} {ls : List (Option Value)} {st : List Value} (d : Nat) (hd : d < 2) (C : Cx X S RX8 cc f lo) (h : decode cc pc = .ok (.getfield 151, 3)) (kk : PW X S M (pc + 3) ls (rv S d 10 0 :: st)) : PW X S M pc ls (rv S d 8 0 :: st) := pw_getf (n := 1) C (inT1 96 rfl rfl) iX0 rfl (by decide) rfl (oD_8 hd) rfl h (fun _ => kk)
theorem gf_0_18 {X : PX} {S : SW} {M : Mem} {cc : ByteArray} {f lo pc : Nat} {ls : List (Option Value)} {st : List Value} (d : Nat) (hd : d < 2) (C : Cx X S RX0 cc f lo) (h : decode cc pc = .ok (.getfield 18, 3)) (kk : PW X S M (pc + 3) ls (rv S d 11 0 :: st)) : PW X S M pc ls (rv S d 8 0 :: st) := pw_getf (n := 2) C (inT1 97 rfl rfl) iX0 rfl (by decide) rfl (oD_8 hd) rfl h (fun _ => kk)
theorem gf_1_107 {X : PX} {S : SW} {M : Mem} {cc : ByteArray} {f lo pc : Nat} {ls : List (Option Value)} {st : List Value} (d : Nat) (hd : d < 2) (C : Cx X S RX1 cc f lo) (h : decode cc pc = .ok (.getfield 107, 3)) (kk : PW X S M (pc + 3) ls (rv S d 11 0 :: st)) : PW X S M pc ls (rv S d 8 0 :: st) := pw_getf (n := 2) C (inT1 98 rfl rfl) iX0 rfl (by decide) rfl (oD_8 hd) rfl h (fun _ => kk)
theorem gf_8_154 {X : PX} {S : SW} {M : Mem} {cc : ByteArray} {f lo pc : Nat} {ls : List (Option Value)} {st : List Value} (d : Nat) (hd : d < 2) (C : Cx X S RX8 cc f lo) (h : decode cc pc = .ok (.getfield 154, 3)) (kk : PW X S M (pc + 3) ls (rv S d 11 0 :: st)) : PW X S M pc ls (rv S d 8 0 :: st) := pw_getf (n := 2) C (inT1 99 rfl rfl) iX0 rfl (by decide) rfl (oD_8 hd) rfl h (fun _ => kk)
theorem gf_0_21 {X : PX} {S : SW} {M : Mem} {cc : ByteArray} {f lo pc : Nat} {ls : List (Option Value)} {st : List Value} (d : Nat) (hd : d < 2) (C : Cx X S RX0 cc f lo) (h : decode cc pc = .ok (.getfield 21, 3)) (kk : PW X S M (pc + 3) ls (rv S d 12 0 :: st)) : PW X S M pc ls (rv S d 8 0 :: st) := pw_getf (n := 3) C (inT1 100 rfl rfl) iX0 rfl (by decide) rfl (oD_8 hd) rfl h (fun _ => kk)
theorem gf_1_130 {X : PX} {S : SW} {M : Mem} {cc : ByteArray} {f lo pc : Nat} {ls : List (Option Value)} {st : List Value} (d : Nat) (hd : d < 2) (C : Cx X S RX1 cc f lo) (h : decode cc pc = .ok (.getfield 130, 3)) (kk : PW X S M (pc + 3) ls (rv S d 12 0 :: st)) : PW X S M pc ls (rv S d 8 0 :: st) := pw_getf (n := 3) C (inT1 101 rfl rfl) iX0 rfl (by decide) rfl (oD_8 hd) rfl h (fun _ => kk)
theorem gf_8_157 {X : PX} {S : SW} {M : Mem} {cc : ByteArray} {f lo pc : Nat} {ls : List (Option Value)} {st : List Value} (d : Nat) (hd : d < 2) (C : Cx X S RX8 cc f lo) (h : decode cc pc = .ok (.getfield 157, 3)) (kk : PW X S M (pc + 3) ls (rv S d 12 0 :: st)) : PW X S M pc ls (rv S d 8 0 :: st) := pw_getf (n := 3) C (inT1 102 rfl rfl) iX0 rfl (by decide) rfl (oD_8 hd) rfl h (fun _ => kk)
theorem gf_0_24 {X : PX} {S : SW} {M : Mem} {cc : ByteArray} {f lo pc : Nat} {ls : List (Option Value)} {st : List Value} (d : Nat) (hd : d < 2) (C : Cx X S RX0 cc f lo) (h : decode cc pc = .ok (.getfield 24, 3)) (kk : InR (M d 8 0 4) → PW X S M (pc + 3) ls (iv (M d 8 0 4) :: st)) : PW X S M pc ls (rv S d 8 0 :: st) := pw_getf (n := 4) C (inT1 103 rfl rfl) iX0 rfl (by decide) rfl (oD_8 hd) rfl h kk
theorem gv_0_24 {X : PX} {S : SW} {M : Mem} {cc : ByteArray} {f lo pc : Nat} {ls : List (Option Value)} {st : List Value} {V : DM} (d : Nat) (hd : d < 2) (C : Cx X S RX0 cc f lo) (h : decode cc pc = .ok (.getfield 24, 3)) (kk : InR (V 8 0 4) → PW X S (mst M d V) (pc + 3) ls (iv (V 8 0 4) :: st)) : PW X S (mst M d V) pc ls (rv S d 8 0 :: st) := gf_0_24 d hd C h (by rw [mst_s]; exact kk)
theorem pf_0_24 {X : PX} {S : SW} {M : Mem} {cc : ByteArray} {f lo pc : Nat} {ls : List (Option Value)} {st : List Value} (d : Nat) (hd : d < 2) (C : Cx X S RX0 cc f lo) {v : Int} (hv : InR v) (h : decode cc pc = .ok (.putfield 24, 3)) (kk : PW X S (mst M d (vup (M d) 8 0 4 v)) (pc + 3) ls st) : PW X S M pc ls (iv v :: rv S d 8 0 :: st) := pw_putf (n := 4) (q := (0, 0, 0)) C (inT1 103 rfl rfl) iX0 rfl (by decide) rfl tyX0_ok nmX0 rfl (oD_8 hd) rfl rfl rfl rfl hv h kk
theorem pv_0_24 {X : PX} {S : SW} {M : Mem} {cc : ByteArray} {f lo pc : Nat} {ls : List (Option Value)} {st : List Value} {V : DM} (d : Nat) (hd : d < 2) (C : Cx X S RX0 cc f lo) {v : Int} (hv : InR v) (h : decode cc pc = .ok (.putfield 24, 3)) (kk : PW X S (mst M d (vup V 8 0 4 v)) (pc + 3) ls st) : PW X S (mst M d V) pc ls (iv v :: rv S d 8 0 :: st) := pf_0_24 d hd C hv h (by rw [mst_m, mst_s]; exact kk)
theorem gf_8_74 {X : PX} {S : SW} {M : Mem} {cc : ByteArray} {f lo pc : Nat} {ls : List (Option Value)} {st : List Value} (d : Nat) (hd : d < 2) (C : Cx X S RX8 cc f lo) (h : decode cc pc = .ok (.getfield 74, 3)) (kk : InR (M d 8 0 4) → PW X S M (pc + 3) ls (iv (M d 8 0 4) :: st)) : PW X S M pc ls (rv S d 8 0 :: st) := pw_getf (n := 4) C (inT1 104 rfl rfl) iX0 rfl (by decide) rfl (oD_8 hd) rfl h kk
theorem gv_8_74 {X : PX} {S : SW} {M : Mem} {cc : ByteArray} {f lo pc : Nat} {ls : List (Option Value)} {st : List Value} {V : DM} (d : Nat) (hd : d < 2) (C : Cx X S RX8 cc f lo) (h : decode cc pc = .ok (.getfield 74, 3)) (kk : InR (V 8 0 4) → PW X S (mst M d V) (pc + 3) ls (iv (V 8 0 4) :: st)) : PW X S (mst M d V) pc ls (rv S d 8 0 :: st) := gf_8_74 d hd C h (by rw [mst_s]; exact kk)
theorem pf_8_74 {X : PX} {S : SW} {M : Mem} {cc : ByteArray} {f lo pc : Nat} {ls : List (Option Value)} {st : List Value} (d : Nat) (hd : d < 2) (C : Cx X S RX8 cc f lo) {v : Int} (hv : InR v) (h : decode cc pc = .ok (.putfield 74, 3)) (kk : PW X S (mst M d (vup (M d) 8 0 4 v)) (pc + 3) ls st) : PW X S M pc ls (iv v :: rv S d 8 0 :: st) := pw_putf (n := 4) (q := (0, 0, 0)) C (inT1 104 rfl rfl) iX0 rfl (by decide) rfl tyX0_ok nmX0 rfl (oD_8 hd) rfl rfl rfl rfl hv h kk
theorem pv_8_74 {X : PX} {S : SW} {M : Mem} {cc : ByteArray} {f lo pc : Nat} {ls : List (Option Value)} {st : List Value} {V : DM} (d : Nat) (hd : d < 2) (C : Cx X S RX8 cc f lo) {v : Int} (hv : InR v) (h : decode cc pc = .ok (.putfield 74, 3)) (kk : PW X S (mst M d (vup V 8 0 4 v)) (pc + 3) ls st) : PW X S (mst M d V) pc ls (iv v :: rv S d 8 0 :: st) := pf_8_74 d hd C hv h (by rw [mst_m, mst_s]; exact kk)
theorem gf_1_73 {X : PX} {S : SW} {M : Mem} {cc : ByteArray} {f lo pc : Nat} {ls : List (Option Value)} {st : List Value} (d : Nat) (hd : d < 2) (C : Cx X S RX1 cc f lo) (h : decode cc pc = .ok (.getfield 73, 3)) (kk : InR (M d 8 0 4) → PW X S M (pc + 3) ls (iv (M d 8 0 4) :: st)) : PW X S M pc ls (rv S d 8 0 :: st) := pw_getf (n := 4) C (inT1 105 rfl rfl) iX0 rfl (by decide) rfl (oD_8 hd) rfl h kk
theorem gv_1_73 {X : PX} {S : SW} {M : Mem} {cc : ByteArray} {f lo pc : Nat} {ls : List (Option Value)} {st : List Value} {V : DM} (d : Nat) (hd : d < 2) (C : Cx X S RX1 cc f lo) (h : decode cc pc = .ok (.getfield 73, 3)) (kk : InR (V 8 0 4) → PW X S (mst M d V) (pc + 3) ls (iv (V 8 0 4) :: st)) : PW X S (mst M d V) pc ls (rv S d 8 0 :: st) := gf_1_73 d hd C h (by rw [mst_s]; exact kk)
theorem gf_1_12 {X : PX} {S : SW} {M : Mem} {cc : ByteArray} {f lo pc : Nat} {ls : List (Option Value)} {st : List Value} (d : Nat) (hd : d < 2) (C : Cx X S RX1 cc f lo) (h : decode cc pc = .ok (.getfield 12, 3)) (kk : PW X S M (pc + 3) ls (rv S d 1 0 :: st)) : PW X S M pc ls (rv S d 0 0 :: st) := pw_getf (n := 0) C (inT1 117 rfl rfl) iX1 rfl (by decide) rfl (oD_0 hd) rfl h (fun _ => kk)
theorem gf_4_33 {X : PX} {S : SW} {M : Mem} {cc : ByteArray} {f lo pc : Nat} {ls : List (Option Value)} {st : List Value} (d : Nat) (hd : d < 2) (C : Cx X S RX4 cc f lo) (h : decode cc pc = .ok (.getfield 33, 3)) (kk : PW X S M (pc + 3) ls (rv S d 1 0 :: st)) : PW X S M pc ls (rv S d 0 0 :: st) := pw_getf (n := 0) C (inT1 118 rfl rfl) iX1 rfl (by decide) rfl (oD_0 hd) rfl h (fun _ => kk)
theorem gf_8_60 {X : PX} {S : SW} {M : Mem} {cc : ByteArray} {f lo pc : Nat} {ls : List (Option Value)} {st : List Value} (d : Nat) (hd : d < 2) (C : Cx X S RX8 cc f lo) (h : decode cc pc = .ok (.getfield 60, 3)) (kk : PW X S M (pc + 3) ls (rv S d 1 0 :: st)) : PW X S M pc ls (rv S d 0 0 :: st) := pw_getf (n := 0) C (inT1 119 rfl rfl) iX1 rfl (by decide) rfl (oD_0 hd) rfl h (fun _ => kk)
theorem gf_1_21 {X : PX} {S : SW} {M : Mem} {cc : ByteArray} {f lo pc : Nat} {ls : List (Option Value)} {st : List Value} (d : Nat) (hd : d < 2) (C : Cx X S RX1 cc f lo) (h : decode cc pc = .ok (.getfield 21, 3)) (kk : PW X S M (pc + 3) ls (rv S d 8 0 :: st)) : PW X S M pc ls (rv S d 0 0 :: st) := pw_getf (n := 1) C (inT1 120 rfl rfl) iX1 rfl (by decide) rfl (oD_0 hd) rfl h (fun _ => kk)
theorem gf_8_70 {X : PX} {S : SW} {M : Mem} {cc : ByteArray} {f lo pc : Nat} {ls : List (Option Value)} {st : List Value} (d : Nat) (hd : d < 2) (C : Cx X S RX8 cc f lo) (h : decode cc pc = .ok (.getfield 70, 3)) (kk : PW X S M (pc + 3) ls (rv S d 8 0 :: st)) : PW X S M pc ls (rv S d 0 0 :: st) := pw_getf (n := 1) C (inT1 121 rfl rfl) iX1 rfl (by decide) rfl (oD_0 hd) rfl h (fun _ => kk)
theorem gf_1_25 {X : PX} {S : SW} {M : Mem} {cc : ByteArray} {f lo pc : Nat} {ls : List (Option Value)} {st : List Value} (d : Nat) (hd : d < 2) (C : Cx X S RX1 cc f lo) (h : decode cc pc = .ok (.getfield 25, 3)) (kk : PW X S M (pc + 3) ls (rv S d 13 0 :: st)) : PW X S M pc ls (rv S d 0 0 :: st) := pw_getf (n := 2) C (inT1 122 rfl rfl) iX1 rfl (by decide) rfl (oD_0 hd) rfl h (fun _ => kk)
theorem gf_4_92 {X : PX} {S : SW} {M : Mem} {cc : ByteArray} {f lo pc : Nat} {ls : List (Option Value)} {st : List Value} (d : Nat) (hd : d < 2) (C : Cx X S RX4 cc f lo) (h : decode cc pc = .ok (.getfield 92, 3)) (kk : PW X S M (pc + 3) ls (rv S d 13 0 :: st)) : PW X S M pc ls (rv S d 0 0 :: st) := pw_getf (n := 2) C (inT1 123 rfl rfl) iX1 rfl (by decide) rfl (oD_0 hd) rfl h (fun _ => kk)
theorem gf_8_195 {X : PX} {S : SW} {M : Mem} {cc : ByteArray} {f lo pc : Nat} {ls : List (Option Value)} {st : List Value} (d : Nat) (hd : d < 2) (C : Cx X S RX8 cc f lo) (h : decode cc pc = .ok (.getfield 195, 3)) (kk : PW X S M (pc + 3) ls (rv S d 13 0 :: st)) : PW X S M pc ls (rv S d 0 0 :: st) := pw_getf (n := 2) C (inT1 124 rfl rfl) iX1 rfl (by decide) rfl (oD_0 hd) rfl h (fun _ => kk)
theorem gf_1_29 {X : PX} {S : SW} {M : Mem} {cc : ByteArray} {f lo pc : Nat} {ls : List (Option Value)} {st : List Value} (d : Nat) (hd : d < 2) (C : Cx X S RX1 cc f lo) (h : decode cc pc = .ok (.getfield 29, 3)) (kk : PW X S M (pc + 3) ls (rv S d 14 0 :: st)) : PW X S M pc ls (rv S d 0 0 :: st) := pw_getf (n := 3) C (inT1 125 rfl rfl) iX1 rfl (by decide) rfl (oD_0 hd) rfl h (fun _ => kk)
theorem gf_8_198 {X : PX} {S : SW} {M : Mem} {cc : ByteArray} {f lo pc : Nat} {ls : List (Option Value)} {st : List Value} (d : Nat) (hd : d < 2) (C : Cx X S RX8 cc f lo) (h : decode cc pc = .ok (.getfield 198, 3)) (kk : PW X S M (pc + 3) ls (rv S d 14 0 :: st)) : PW X S M pc ls (rv S d 0 0 :: st) := pw_getf (n := 3) C (inT1 126 rfl rfl) iX1 rfl (by decide) rfl (oD_0 hd) rfl h (fun _ => kk)
theorem gf_1_32 {X : PX} {S : SW} {M : Mem} {cc : ByteArray} {f lo pc : Nat} {ls : List (Option Value)} {st : List Value} (d : Nat) (hd : d < 2) (C : Cx X S RX1 cc f lo) (h : decode cc pc = .ok (.getfield 32, 3)) (kk : PW X S M (pc + 3) ls (rv S d 15 0 :: st)) : PW X S M pc ls (rv S d 0 0 :: st) := pw_getf (n := 4) C (inT1 127 rfl rfl) iX1 rfl (by decide) rfl (oD_0 hd) rfl h (fun _ => kk)
theorem gf_8_201 {X : PX} {S : SW} {M : Mem} {cc : ByteArray} {f lo pc : Nat} {ls : List (Option Value)} {st : List Value} (d : Nat) (hd : d < 2) (C : Cx X S RX8 cc f lo) (h : decode cc pc = .ok (.getfield 201, 3)) (kk : PW X S M (pc + 3) ls (rv S d 15 0 :: st)) : PW X S M pc ls (rv S d 0 0 :: st) := pw_getf (n := 4) C (inT1 128 rfl rfl) iX1 rfl (by decide) rfl (oD_0 hd) rfl h (fun _ => kk)
theorem gf_1_35 {X : PX} {S : SW} {M : Mem} {cc : ByteArray} {f lo pc : Nat} {ls : List (Option Value)} {st : List Value} (d : Nat) (hd : d < 2) (C : Cx X S RX1 cc f lo) (h : decode cc pc = .ok (.getfield 35, 3)) (kk : PW X S M (pc + 3) ls (rv S d 16 0 :: st)) : PW X S M pc ls (rv S d 0 0 :: st) := pw_getf (n := 5) C (inT1 129 rfl rfl) iX1 rfl (by decide) rfl (oD_0 hd) rfl h (fun _ => kk)
theorem gf_8_183 {X : PX} {S : SW} {M : Mem} {cc : ByteArray} {f lo pc : Nat} {ls : List (Option Value)} {st : List Value} (d : Nat) (hd : d < 2) (C : Cx X S RX8 cc f lo) (h : decode cc pc = .ok (.getfield 183, 3)) (kk : PW X S M (pc + 3) ls (rv S d 16 0 :: st)) : PW X S M pc ls (rv S d 0 0 :: st) := pw_getf (n := 5) C (inT1 130 rfl rfl) iX1 rfl (by decide) rfl (oD_0 hd) rfl h (fun _ => kk)
theorem gf_1_38 {X : PX} {S : SW} {M : Mem} {cc : ByteArray} {f lo pc : Nat} {ls : List (Option Value)} {st : List Value} (d : Nat) (hd : d < 2) (C : Cx X S RX1 cc f lo) (h : decode cc pc = .ok (.getfield 38, 3)) (kk : PW X S M (pc + 3) ls (rv S d 17 0 :: st)) : PW X S M pc ls (rv S d 0 0 :: st) := pw_getf (n := 6) C (inT1 131 rfl rfl) iX1 rfl (by decide) rfl (oD_0 hd) rfl h (fun _ => kk)
theorem gf_8_186 {X : PX} {S : SW} {M : Mem} {cc : ByteArray} {f lo pc : Nat} {ls : List (Option Value)} {st : List Value} (d : Nat) (hd : d < 2) (C : Cx X S RX8 cc f lo) (h : decode cc pc = .ok (.getfield 186, 3)) (kk : PW X S M (pc + 3) ls (rv S d 17 0 :: st)) : PW X S M pc ls (rv S d 0 0 :: st) := pw_getf (n := 6) C (inT1 132 rfl rfl) iX1 rfl (by decide) rfl (oD_0 hd) rfl h (fun _ => kk)
theorem gf_1_41 {X : PX} {S : SW} {M : Mem} {cc : ByteArray} {f lo pc : Nat} {ls : List (Option Value)} {st : List Value} (d : Nat) (hd : d < 2) (C : Cx X S RX1 cc f lo) (h : decode cc pc = .ok (.getfield 41, 3)) (kk : PW X S M (pc + 3) ls (rv S d 18 0 :: st)) : PW X S M pc ls (rv S d 0 0 :: st) := pw_getf (n := 7) C (inT1 133 rfl rfl) iX1 rfl (by decide) rfl (oD_0 hd) rfl h (fun _ => kk)
theorem gf_8_189 {X : PX} {S : SW} {M : Mem} {cc : ByteArray} {f lo pc : Nat} {ls : List (Option Value)} {st : List Value} (d : Nat) (hd : d < 2) (C : Cx X S RX8 cc f lo) (h : decode cc pc = .ok (.getfield 189, 3)) (kk : PW X S M (pc + 3) ls (rv S d 18 0 :: st)) : PW X S M pc ls (rv S d 0 0 :: st) := pw_getf (n := 7) C (inT1 134 rfl rfl) iX1 rfl (by decide) rfl (oD_0 hd) rfl h (fun _ => kk)
theorem gf_1_44 {X : PX} {S : SW} {M : Mem} {cc : ByteArray} {f lo pc : Nat} {ls : List (Option Value)} {st : List Value} (d : Nat) (hd : d < 2) (C : Cx X S RX1 cc f lo) (h : decode cc pc = .ok (.getfield 44, 3)) (kk : PW X S M (pc + 3) ls (rv S d 19 0 :: st)) : PW X S M pc ls (rv S d 0 0 :: st) := pw_getf (n := 8) C (inT1 135 rfl rfl) iX1 rfl (by decide) rfl (oD_0 hd) rfl h (fun _ => kk)
theorem gf_8_192 {X : PX} {S : SW} {M : Mem} {cc : ByteArray} {f lo pc : Nat} {ls : List (Option Value)} {st : List Value} (d : Nat) (hd : d < 2) (C : Cx X S RX8 cc f lo) (h : decode cc pc = .ok (.getfield 192, 3)) (kk : PW X S M (pc + 3) ls (rv S d 19 0 :: st)) : PW X S M pc ls (rv S d 0 0 :: st) := pw_getf (n := 8) C (inT1 136 rfl rfl) iX1 rfl (by decide) rfl (oD_0 hd) rfl h (fun _ => kk)
theorem gf_1_64 {X : PX} {S : SW} {M : Mem} {cc : ByteArray} {f lo pc : Nat} {ls : List (Option Value)} {st : List Value} (d : Nat) (hd : d < 2) (C : Cx X S RX1 cc f lo) (h : decode cc pc = .ok (.getfield 64, 3)) (kk : InR (M d 0 0 9) → PW X S M (pc + 3) ls (iv (M d 0 0 9) :: st)) : PW X S M pc ls (rv S d 0 0 :: st) := pw_getf (n := 9) C (inT1 137 rfl rfl) iX1 rfl (by decide) rfl (oD_0 hd) rfl h kk
theorem gv_1_64 {X : PX} {S : SW} {M : Mem} {cc : ByteArray} {f lo pc : Nat} {ls : List (Option Value)} {st : List Value} {V : DM} (d : Nat) (hd : d < 2) (C : Cx X S RX1 cc f lo) (h : decode cc pc = .ok (.getfield 64, 3)) (kk : InR (V 0 0 9) → PW X S (mst M d V) (pc + 3) ls (iv (V 0 0 9) :: st)) : PW X S (mst M d V) pc ls (rv S d 0 0 :: st) := gf_1_64 d hd C h (by rw [mst_s]; exact kk)
theorem pf_1_64 {X : PX} {S : SW} {M : Mem} {cc : ByteArray} {f lo pc : Nat} {ls : List (Option Value)} {st : List Value} (d : Nat) (hd : d < 2) (C : Cx X S RX1 cc f lo) {v : Int} (hv : InR v) (h : decode cc pc = .ok (.putfield 64, 3)) (kk : PW X S (mst M d (vup (M d) 0 0 9 v)) (pc + 3) ls st) : PW X S M pc ls (iv v :: rv S d 0 0 :: st) := pw_putf (n := 9) (q := (0, 0, 0)) C (inT1 137 rfl rfl) iX1 rfl (by decide) rfl tyX1_ok nmX1 rfl (oD_0 hd) rfl rfl rfl rfl hv h kk
theorem pv_1_64 {X : PX} {S : SW} {M : Mem} {cc : ByteArray} {f lo pc : Nat} {ls : List (Option Value)} {st : List Value} {V : DM} (d : Nat) (hd : d < 2) (C : Cx X S RX1 cc f lo) {v : Int} (hv : InR v) (h : decode cc pc = .ok (.putfield 64, 3)) (kk : PW X S (mst M d (vup V 0 0 9 v)) (pc + 3) ls st) : PW X S (mst M d V) pc ls (iv v :: rv S d 0 0 :: st) := pf_1_64 d hd C hv h (by rw [mst_m, mst_s]; exact kk)
theorem gf_8_170 {X : PX} {S : SW} {M : Mem} {cc : ByteArray} {f lo pc : Nat} {ls : List (Option Value)} {st : List Value} (d : Nat) (hd : d < 2) (C : Cx X S RX8 cc f lo) (h : decode cc pc = .ok (.getfield 170, 3)) (kk : InR (M d 0 0 9) → PW X S M (pc + 3) ls (iv (M d 0 0 9) :: st)) : PW X S M pc ls (rv S d 0 0 :: st) := pw_getf (n := 9) C (inT1 138 rfl rfl) iX1 rfl (by decide) rfl (oD_0 hd) rfl h kk
theorem gv_8_170 {X : PX} {S : SW} {M : Mem} {cc : ByteArray} {f lo pc : Nat} {ls : List (Option Value)} {st : List Value} {V : DM} (d : Nat) (hd : d < 2) (C : Cx X S RX8 cc f lo) (h : decode cc pc = .ok (.getfield 170, 3)) (kk : InR (V 0 0 9) → PW X S (mst M d V) (pc + 3) ls (iv (V 0 0 9) :: st)) : PW X S (mst M d V) pc ls (rv S d 0 0 :: st) := gf_8_170 d hd C h (by rw [mst_s]; exact kk)
theorem gf_1_58 {X : PX} {S : SW} {M : Mem} {cc : ByteArray} {f lo pc : Nat} {ls : List (Option Value)} {st : List Value} (d : Nat) (hd : d < 2) (C : Cx X S RX1 cc f lo) (h : decode cc pc = .ok (.getfield 58, 3)) (kk : InR (M d 0 0 10) → PW X S M (pc + 3) ls (iv (M d 0 0 10) :: st)) : PW X S M pc ls (rv S d 0 0 :: st) := pw_getf (n := 10) C (inT1 139 rfl rfl) iX1 rfl (by decide) rfl (oD_0 hd) rfl h kk
theorem gv_1_58 {X : PX} {S : SW} {M : Mem} {cc : ByteArray} {f lo pc : Nat} {ls : List (Option Value)} {st : List Value} {V : DM} (d : Nat) (hd : d < 2) (C : Cx X S RX1 cc f lo) (h : decode cc pc = .ok (.getfield 58, 3)) (kk : InR (V 0 0 10) → PW X S (mst M d V) (pc + 3) ls (iv (V 0 0 10) :: st)) : PW X S (mst M d V) pc ls (rv S d 0 0 :: st) := gf_1_58 d hd C h (by rw [mst_s]; exact kk)
theorem pf_1_58 {X : PX} {S : SW} {M : Mem} {cc : ByteArray} {f lo pc : Nat} {ls : List (Option Value)} {st : List Value} (d : Nat) (hd : d < 2) (C : Cx X S RX1 cc f lo) {v : Int} (hv : InR v) (h : decode cc pc = .ok (.putfield 58, 3)) (kk : PW X S (mst M d (vup (M d) 0 0 10 v)) (pc + 3) ls st) : PW X S M pc ls (iv v :: rv S d 0 0 :: st) := pw_putf (n := 10) (q := (0, 0, 0)) C (inT1 139 rfl rfl) iX1 rfl (by decide) rfl tyX1_ok nmX1 rfl (oD_0 hd) rfl rfl rfl rfl hv h kk
theorem pv_1_58 {X : PX} {S : SW} {M : Mem} {cc : ByteArray} {f lo pc : Nat} {ls : List (Option Value)} {st : List Value} {V : DM} (d : Nat) (hd : d < 2) (C : Cx X S RX1 cc f lo) {v : Int} (hv : InR v) (h : decode cc pc = .ok (.putfield 58, 3)) (kk : PW X S (mst M d (vup V 0 0 10 v)) (pc + 3) ls st) : PW X S (mst M d V) pc ls (iv v :: rv S d 0 0 :: st) := pf_1_58 d hd C hv h (by rw [mst_m, mst_s]; exact kk)
theorem gf_1_47 {X : PX} {S : SW} {M : Mem} {cc : ByteArray} {f lo pc : Nat} {ls : List (Option Value)} {st : List Value} (d : Nat) (hd : d < 2) (C : Cx X S RX1 cc f lo) (h : decode cc pc = .ok (.getfield 47, 3)) (kk : InR (M d 0 0 11) → PW X S M (pc + 3) ls (iv (M d 0 0 11) :: st)) : PW X S M pc ls (rv S d 0 0 :: st) := pw_getf (n := 11) C (inT1 140 rfl rfl) iX1 rfl (by decide) rfl (oD_0 hd) rfl h kk
theorem gv_1_47 {X : PX} {S : SW} {M : Mem} {cc : ByteArray} {f lo pc : Nat} {ls : List (Option Value)} {st : List Value} {V : DM} (d : Nat) (hd : d < 2) (C : Cx X S RX1 cc f lo) (h : decode cc pc = .ok (.getfield 47, 3)) (kk : InR (V 0 0 11) → PW X S (mst M d V) (pc + 3) ls (iv (V 0 0 11) :: st)) : PW X S (mst M d V) pc ls (rv S d 0 0 :: st) := gf_1_47 d hd C h (by rw [mst_s]; exact kk)
theorem pf_1_47 {X : PX} {S : SW} {M : Mem} {cc : ByteArray} {f lo pc : Nat} {ls : List (Option Value)} {st : List Value} (d : Nat) (hd : d < 2) (C : Cx X S RX1 cc f lo) {v : Int} (hv : InR v) (h : decode cc pc = .ok (.putfield 47, 3)) (kk : PW X S (mst M d (vup (M d) 0 0 11 v)) (pc + 3) ls st) : PW X S M pc ls (iv v :: rv S d 0 0 :: st) := pw_putf (n := 11) (q := (0, 0, 0)) C (inT1 140 rfl rfl) iX1 rfl (by decide) rfl tyX1_ok nmX1 rfl (oD_0 hd) rfl rfl rfl rfl hv h kk
theorem pv_1_47 {X : PX} {S : SW} {M : Mem} {cc : ByteArray} {f lo pc : Nat} {ls : List (Option Value)} {st : List Value} {V : DM} (d : Nat) (hd : d < 2) (C : Cx X S RX1 cc f lo) {v : Int} (hv : InR v) (h : decode cc pc = .ok (.putfield 47, 3)) (kk : PW X S (mst M d (vup V 0 0 11 v)) (pc + 3) ls st) : PW X S (mst M d V) pc ls (iv v :: rv S d 0 0 :: st) := pf_1_47 d hd C hv h (by rw [mst_m, mst_s]; exact kk)
theorem gf_1_61 {X : PX} {S : SW} {M : Mem} {cc : ByteArray} {f lo pc : Nat} {ls : List (Option Value)} {st : List Value} (d : Nat) (hd : d < 2) (C : Cx X S RX1 cc f lo) (h : decode cc pc = .ok (.getfield 61, 3)) (kk : InR (M d 0 0 12) → PW X S M (pc + 3) ls (iv (M d 0 0 12) :: st)) : PW X S M pc ls (rv S d 0 0 :: st) := pw_getf (n := 12) C (inT1 141 rfl rfl) iX1 rfl (by decide) rfl (oD_0 hd) rfl h kk
theorem gv_1_61 {X : PX} {S : SW} {M : Mem} {cc : ByteArray} {f lo pc : Nat} {ls : List (Option Value)} {st : List Value} {V : DM} (d : Nat) (hd : d < 2) (C : Cx X S RX1 cc f lo) (h : decode cc pc = .ok (.getfield 61, 3)) (kk : InR (V 0 0 12) → PW X S (mst M d V) (pc + 3) ls (iv (V 0 0 12) :: st)) : PW X S (mst M d V) pc ls (rv S d 0 0 :: st) := gf_1_61 d hd C h (by rw [mst_s]; exact kk)
theorem pf_1_61 {X : PX} {S : SW} {M : Mem} {cc : ByteArray} {f lo pc : Nat} {ls : List (Option Value)} {st : List Value} (d : Nat) (hd : d < 2) (C : Cx X S RX1 cc f lo) {v : Int} (hv : InR v) (h : decode cc pc = .ok (.putfield 61, 3)) (kk : PW X S (mst M d (vup (M d) 0 0 12 v)) (pc + 3) ls st) : PW X S M pc ls (iv v :: rv S d 0 0 :: st) := pw_putf (n := 12) (q := (0, 0, 0)) C (inT1 141 rfl rfl) iX1 rfl (by decide) rfl tyX1_ok nmX1 rfl (oD_0 hd) rfl rfl rfl rfl hv h kk
theorem pv_1_61 {X : PX} {S : SW} {M : Mem} {cc : ByteArray} {f lo pc : Nat} {ls : List (Option Value)} {st : List Value} {V : DM} (d : Nat) (hd : d < 2) (C : Cx X S RX1 cc f lo) {v : Int} (hv : InR v) (h : decode cc pc = .ok (.putfield 61, 3)) (kk : PW X S (mst M d (vup V 0 0 12 v)) (pc + 3) ls st) : PW X S (mst M d V) pc ls (iv v :: rv S d 0 0 :: st) := pf_1_61 d hd C hv h (by rw [mst_m, mst_s]; exact kk)
theorem gf_4_12 {X : PX} {S : SW} {M : Mem} {cc : ByteArray} {f lo pc : Nat} {ls : List (Option Value)} {st : List Value} (C : Cx X S RX4 cc f lo) (h : decode cc pc = .ok (.getfield 12, 3)) (kk : PW X S M (pc + 3) ls (rv S 1 0 0 :: st)) : PW X S M pc ls (rv S 2 1 0 :: st) := pw_getf (n := 0) C (inT1 177 rfl rfl) iX4 rfl (by decide) rfl (oC_1) rfl h (fun _ => kk)
theorem gf_4_18 {X : PX} {S : SW} {M : Mem} {cc : ByteArray} {f lo pc : Nat} {ls : List (Option Value)} {st : List Value} (C : Cx X S RX4 cc f lo) (h : decode cc pc = .ok (.getfield 18, 3)) (kk : PW X S M (pc + 3) ls (rv S 2 2 0 :: st)) : PW X S M pc ls (rv S 2 1 0 :: st) := pw_getf (n := 1) C (inT1 178 rfl rfl) iX4 rfl (by decide) rfl (oC_1) rfl h (fun _ => kk)
theorem gf_8_222 {X : PX} {S : SW} {M : Mem} {cc : ByteArray} {f lo pc : Nat} {ls : List (Option Value)} {st : List Value} (C : Cx X S RX8 cc f lo) (h : decode cc pc = .ok (.getfield 222, 3)) (kk : PW X S M (pc + 3) ls (rv S 2 2 0 :: st)) : PW X S M pc ls (rv S 2 1 0 :: st) := pw_getf (n := 1) C (inT1 179 rfl rfl) iX4 rfl (by decide) rfl (oC_1) rfl h (fun _ => kk)
theorem gf_4_22 {X : PX} {S : SW} {M : Mem} {cc : ByteArray} {f lo pc : Nat} {ls : List (Option Value)} {st : List Value} (C : Cx X S RX4 cc f lo) (h : decode cc pc = .ok (.getfield 22, 3)) (kk : PW X S M (pc + 3) ls (rv S 2 3 0 :: st)) : PW X S M pc ls (rv S 2 1 0 :: st) := pw_getf (n := 2) C (inT1 180 rfl rfl) iX4 rfl (by decide) rfl (oC_1) rfl h (fun _ => kk)
theorem gf_4_26 {X : PX} {S : SW} {M : Mem} {cc : ByteArray} {f lo pc : Nat} {ls : List (Option Value)} {st : List Value} (C : Cx X S RX4 cc f lo) (h : decode cc pc = .ok (.getfield 26, 3)) (kk : PW X S M (pc + 3) ls (rv S 2 4 0 :: st)) : PW X S M pc ls (rv S 2 1 0 :: st) := pw_getf (n := 3) C (inT1 181 rfl rfl) iX4 rfl (by decide) rfl (oC_1) rfl h (fun _ => kk)
theorem gf_4_56 {X : PX} {S : SW} {M : Mem} {cc : ByteArray} {f lo pc : Nat} {ls : List (Option Value)} {st : List Value} (C : Cx X S RX4 cc f lo) (h : decode cc pc = .ok (.getfield 56, 3)) (kk : InR (M 2 1 0 4) → PW X S M (pc + 3) ls (iv (M 2 1 0 4) :: st)) : PW X S M pc ls (rv S 2 1 0 :: st) := pw_getf (n := 4) C (inT1 182 rfl rfl) iX4 rfl (by decide) rfl (oC_1) rfl h kk
theorem gv_4_56 {X : PX} {S : SW} {M : Mem} {cc : ByteArray} {f lo pc : Nat} {ls : List (Option Value)} {st : List Value} {V : DM} (C : Cx X S RX4 cc f lo) (h : decode cc pc = .ok (.getfield 56, 3)) (kk : InR (V 1 0 4) → PW X S (mst M 2 V) (pc + 3) ls (iv (V 1 0 4) :: st)) : PW X S (mst M 2 V) pc ls (rv S 2 1 0 :: st) := gf_4_56 C h (by rw [mst_s]; exact kk)
theorem pf_4_56 {X : PX} {S : SW} {M : Mem} {cc : ByteArray} {f lo pc : Nat} {ls : List (Option Value)} {st : List Value} (C : Cx X S RX4 cc f lo) {v : Int} (hv : InR v) (h : decode cc pc = .ok (.putfield 56, 3)) (kk : PW X S (mst M 2 (vup (M 2) 1 0 4 v)) (pc + 3) ls st) : PW X S M pc ls (iv v :: rv S 2 1 0 :: st) := pw_putf (n := 4) (q := (0, 0, 0)) C (inT1 182 rfl rfl) iX4 rfl (by decide) rfl tyX4_ok nmX4 rfl (oC_1) rfl rfl rfl rfl hv h kk
theorem pv_4_56 {X : PX} {S : SW} {M : Mem} {cc : ByteArray} {f lo pc : Nat} {ls : List (Option Value)} {st : List Value} {V : DM} (C : Cx X S RX4 cc f lo) {v : Int} (hv : InR v) (h : decode cc pc = .ok (.putfield 56, 3)) (kk : PW X S (mst M 2 (vup V 1 0 4 v)) (pc + 3) ls st) : PW X S (mst M 2 V) pc ls (iv v :: rv S 2 1 0 :: st) := pf_4_56 C hv h (by rw [mst_m, mst_s]; exact kk)
theorem gf_8_211 {X : PX} {S : SW} {M : Mem} {cc : ByteArray} {f lo pc : Nat} {ls : List (Option Value)} {st : List Value} (C : Cx X S RX8 cc f lo) (h : decode cc pc = .ok (.getfield 211, 3)) (kk : InR (M 2 1 0 4) → PW X S M (pc + 3) ls (iv (M 2 1 0 4) :: st)) : PW X S M pc ls (rv S 2 1 0 :: st) := pw_getf (n := 4) C (inT1 183 rfl rfl) iX4 rfl (by decide) rfl (oC_1) rfl h kk
theorem gv_8_211 {X : PX} {S : SW} {M : Mem} {cc : ByteArray} {f lo pc : Nat} {ls : List (Option Value)} {st : List Value} {V : DM} (C : Cx X S RX8 cc f lo) (h : decode cc pc = .ok (.getfield 211, 3)) (kk : InR (V 1 0 4) → PW X S (mst M 2 V) (pc + 3) ls (iv (V 1 0 4) :: st)) : PW X S (mst M 2 V) pc ls (rv S 2 1 0 :: st) := gf_8_211 C h (by rw [mst_s]; exact kk)
theorem pf_4_66 {X : PX} {S : SW} {M : Mem} {cc : ByteArray} {f lo pc : Nat} {ls : List (Option Value)} {st : List Value} (C : Cx X S RX4 cc f lo) {v : Int} (hv : InR v) (h : decode cc pc = .ok (.putfield 66, 3)) (kk : PW X S (mst M 2 (vup (M 2) 1 0 5 v)) (pc + 3) ls st) : PW X S M pc ls (iv v :: rv S 2 1 0 :: st) := pw_putf (n := 5) (q := (0, 0, 0)) C (inT1 184 rfl rfl) iX4 rfl (by decide) rfl tyX4_ok nmX4 rfl (oC_1) rfl rfl rfl rfl hv h kk
theorem pv_4_66 {X : PX} {S : SW} {M : Mem} {cc : ByteArray} {f lo pc : Nat} {ls : List (Option Value)} {st : List Value} {V : DM} (C : Cx X S RX4 cc f lo) {v : Int} (hv : InR v) (h : decode cc pc = .ok (.putfield 66, 3)) (kk : PW X S (mst M 2 (vup V 1 0 5 v)) (pc + 3) ls st) : PW X S (mst M 2 V) pc ls (iv v :: rv S 2 1 0 :: st) := pf_4_66 C hv h (by rw [mst_m, mst_s]; exact kk)
theorem gf_8_217 {X : PX} {S : SW} {M : Mem} {cc : ByteArray} {f lo pc : Nat} {ls : List (Option Value)} {st : List Value} (C : Cx X S RX8 cc f lo) (h : decode cc pc = .ok (.getfield 217, 3)) (kk : InR (M 2 1 0 5) → PW X S M (pc + 3) ls (iv (M 2 1 0 5) :: st)) : PW X S M pc ls (rv S 2 1 0 :: st) := pw_getf (n := 5) C (inT1 185 rfl rfl) iX4 rfl (by decide) rfl (oC_1) rfl h kk
theorem gv_8_217 {X : PX} {S : SW} {M : Mem} {cc : ByteArray} {f lo pc : Nat} {ls : List (Option Value)} {st : List Value} {V : DM} (C : Cx X S RX8 cc f lo) (h : decode cc pc = .ok (.getfield 217, 3)) (kk : InR (V 1 0 5) → PW X S (mst M 2 V) (pc + 3) ls (iv (V 1 0 5) :: st)) : PW X S (mst M 2 V) pc ls (rv S 2 1 0 :: st) := gf_8_217 C h (by rw [mst_s]; exact kk)
theorem pf_4_63 {X : PX} {S : SW} {M : Mem} {cc : ByteArray} {f lo pc : Nat} {ls : List (Option Value)} {st : List Value} (C : Cx X S RX4 cc f lo) {v : Int} (hv : InR v) (h : decode cc pc = .ok (.putfield 63, 3)) (kk : PW X S (mst M 2 (vup (M 2) 1 0 6 v)) (pc + 3) ls st) : PW X S M pc ls (iv v :: rv S 2 1 0 :: st) := pw_putf (n := 6) (q := (0, 0, 0)) C (inT1 186 rfl rfl) iX4 rfl (by decide) rfl tyX4_ok nmX4 rfl (oC_1) rfl rfl rfl rfl hv h kk
theorem pv_4_63 {X : PX} {S : SW} {M : Mem} {cc : ByteArray} {f lo pc : Nat} {ls : List (Option Value)} {st : List Value} {V : DM} (C : Cx X S RX4 cc f lo) {v : Int} (hv : InR v) (h : decode cc pc = .ok (.putfield 63, 3)) (kk : PW X S (mst M 2 (vup V 1 0 6 v)) (pc + 3) ls st) : PW X S (mst M 2 V) pc ls (iv v :: rv S 2 1 0 :: st) := pf_4_63 C hv h (by rw [mst_m, mst_s]; exact kk)
theorem gf_8_208 {X : PX} {S : SW} {M : Mem} {cc : ByteArray} {f lo pc : Nat} {ls : List (Option Value)} {st : List Value} (C : Cx X S RX8 cc f lo) (h : decode cc pc = .ok (.getfield 208, 3)) (kk : InR (M 2 1 0 6) → PW X S M (pc + 3) ls (iv (M 2 1 0 6) :: st)) : PW X S M pc ls (rv S 2 1 0 :: st) := pw_getf (n := 6) C (inT1 187 rfl rfl) iX4 rfl (by decide) rfl (oC_1) rfl h kk
theorem gv_8_208 {X : PX} {S : SW} {M : Mem} {cc : ByteArray} {f lo pc : Nat} {ls : List (Option Value)} {st : List Value} {V : DM} (C : Cx X S RX8 cc f lo) (h : decode cc pc = .ok (.getfield 208, 3)) (kk : InR (V 1 0 6) → PW X S (mst M 2 V) (pc + 3) ls (iv (V 1 0 6) :: st)) : PW X S (mst M 2 V) pc ls (rv S 2 1 0 :: st) := gf_8_208 C h (by rw [mst_s]; exact kk)
theorem gf_5_11 {X : PX} {S : SW} {M : Mem} {cc : ByteArray} {f lo pc : Nat} {ls : List (Option Value)} {st : List Value} (C : Cx X S RX5 cc f lo) (h : decode cc pc = .ok (.getfield 11, 3)) (kk : PW X S M (pc + 3) ls (rv S 2 6 0 :: st)) : PW X S M pc ls (rv S 2 5 0 :: st) := pw_getf (n := 0) C (inT1 211 rfl rfl) iX5 rfl (by decide) rfl (oC_5) rfl h (fun _ => kk)
theorem gf_8_50 {X : PX} {S : SW} {M : Mem} {cc : ByteArray} {f lo pc : Nat} {ls : List (Option Value)} {st : List Value} (C : Cx X S RX8 cc f lo) (h : decode cc pc = .ok (.getfield 50, 3)) (kk : PW X S M (pc + 3) ls (rv S 2 6 0 :: st)) : PW X S M pc ls (rv S 2 5 0 :: st) := pw_getf (n := 0) C (inT1 212 rfl rfl) iX5 rfl (by decide) rfl (oC_5) rfl h (fun _ => kk)
theorem gf_5_14 {X : PX} {S : SW} {M : Mem} {cc : ByteArray} {f lo pc : Nat} {ls : List (Option Value)} {st : List Value} (C : Cx X S RX5 cc f lo) (h : decode cc pc = .ok (.getfield 14, 3)) (kk : PW X S M (pc + 3) ls (rv S 2 8 0 :: st)) : PW X S M pc ls (rv S 2 5 0 :: st) := pw_getf (n := 1) C (inT1 213 rfl rfl) iX5 rfl (by decide) rfl (oC_5) rfl h (fun _ => kk)
theorem gf_8_299 {X : PX} {S : SW} {M : Mem} {cc : ByteArray} {f lo pc : Nat} {ls : List (Option Value)} {st : List Value} (C : Cx X S RX8 cc f lo) (h : decode cc pc = .ok (.getfield 299, 3)) (kk : PW X S M (pc + 3) ls (rv S 2 8 0 :: st)) : PW X S M pc ls (rv S 2 5 0 :: st) := pw_getf (n := 1) C (inT1 214 rfl rfl) iX5 rfl (by decide) rfl (oC_5) rfl h (fun _ => kk)
theorem gf_5_18 {X : PX} {S : SW} {M : Mem} {cc : ByteArray} {f lo pc : Nat} {ls : List (Option Value)} {st : List Value} (C : Cx X S RX5 cc f lo) (h : decode cc pc = .ok (.getfield 18, 3)) (kk : PW X S M (pc + 3) ls (rv S 2 9 0 :: st)) : PW X S M pc ls (rv S 2 5 0 :: st) := pw_getf (n := 2) C (inT1 215 rfl rfl) iX5 rfl (by decide) rfl (oC_5) rfl h (fun _ => kk)
theorem gf_8_293 {X : PX} {S : SW} {M : Mem} {cc : ByteArray} {f lo pc : Nat} {ls : List (Option Value)} {st : List Value} (C : Cx X S RX8 cc f lo) (h : decode cc pc = .ok (.getfield 293, 3)) (kk : PW X S M (pc + 3) ls (rv S 2 9 0 :: st)) : PW X S M pc ls (rv S 2 5 0 :: st) := pw_getf (n := 2) C (inT1 216 rfl rfl) iX5 rfl (by decide) rfl (oC_5) rfl h (fun _ => kk)
theorem gf_3_9 {X : PX} {S : SW} {M : Mem} {cc : ByteArray} {f lo pc : Nat} {ls : List (Option Value)} {st : List Value} (C : Cx X S RX3 cc f lo) (h : decode cc pc = .ok (.getfield 9, 3)) (kk : PW X S M (pc + 3) ls (rv S 2 11 0 :: st)) : PW X S M pc ls (rv S 2 10 0 :: st) := pw_getf (n := 0) C (inT1 230 rfl rfl) iX3 rfl (by decide) rfl (oC_10) rfl h (fun _ => kk)
theorem gf_3_23 {X : PX} {S : SW} {M : Mem} {cc : ByteArray} {f lo pc : Nat} {ls : List (Option Value)} {st : List Value} (C : Cx X S RX3 cc f lo) (h : decode cc pc = .ok (.getfield 23, 3)) (kk : InR (M 2 10 0 1) → PW X S M (pc + 3) ls (iv (M 2 10 0 1) :: st)) : PW X S M pc ls (rv S 2 10 0 :: st) := pw_getf (n := 1) C (inT1 231 rfl rfl) iX3 rfl (by decide) rfl (oC_10) rfl h kk
theorem gv_3_23 {X : PX} {S : SW} {M : Mem} {cc : ByteArray} {f lo pc : Nat} {ls : List (Option Value)} {st : List Value} {V : DM} (C : Cx X S RX3 cc f lo) (h : decode cc pc = .ok (.getfield 23, 3)) (kk : InR (V 10 0 1) → PW X S (mst M 2 V) (pc + 3) ls (iv (V 10 0 1) :: st)) : PW X S (mst M 2 V) pc ls (rv S 2 10 0 :: st) := gf_3_23 C h (by rw [mst_s]; exact kk)
theorem pf_3_23 {X : PX} {S : SW} {M : Mem} {cc : ByteArray} {f lo pc : Nat} {ls : List (Option Value)} {st : List Value} (C : Cx X S RX3 cc f lo) {v : Int} (hv : InR v) (h : decode cc pc = .ok (.putfield 23, 3)) (kk : PW X S (mst M 2 (vup (M 2) 10 0 1 v)) (pc + 3) ls st) : PW X S M pc ls (iv v :: rv S 2 10 0 :: st) := pw_putf (n := 1) (q := (0, 0, 0)) C (inT1 231 rfl rfl) iX3 rfl (by decide) rfl tyX3_ok nmX3 rfl (oC_10) rfl rfl rfl rfl hv h kk
theorem pv_3_23 {X : PX} {S : SW} {M : Mem} {cc : ByteArray} {f lo pc : Nat} {ls : List (Option Value)} {st : List Value} {V : DM} (C : Cx X S RX3 cc f lo) {v : Int} (hv : InR v) (h : decode cc pc = .ok (.putfield 23, 3)) (kk : PW X S (mst M 2 (vup V 10 0 1 v)) (pc + 3) ls st) : PW X S (mst M 2 V) pc ls (iv v :: rv S 2 10 0 :: st) := pf_3_23 C hv h (by rw [mst_m, mst_s]; exact kk)
theorem gf_3_27 {X : PX} {S : SW} {M : Mem} {cc : ByteArray} {f lo pc : Nat} {ls : List (Option Value)} {st : List Value} (C : Cx X S RX3 cc f lo) (h : decode cc pc = .ok (.getfield 27, 3)) (kk : InR (M 2 10 0 2) → PW X S M (pc + 3) ls (iv (M 2 10 0 2) :: st)) : PW X S M pc ls (rv S 2 10 0 :: st) := pw_getf (n := 2) C (inT1 232 rfl rfl) iX3 rfl (by decide) rfl (oC_10) rfl h kk
theorem gv_3_27 {X : PX} {S : SW} {M : Mem} {cc : ByteArray} {f lo pc : Nat} {ls : List (Option Value)} {st : List Value} {V : DM} (C : Cx X S RX3 cc f lo) (h : decode cc pc = .ok (.getfield 27, 3)) (kk : InR (V 10 0 2) → PW X S (mst M 2 V) (pc + 3) ls (iv (V 10 0 2) :: st)) : PW X S (mst M 2 V) pc ls (rv S 2 10 0 :: st) := gf_3_27 C h (by rw [mst_s]; exact kk)
theorem pf_3_27 {X : PX} {S : SW} {M : Mem} {cc : ByteArray} {f lo pc : Nat} {ls : List (Option Value)} {st : List Value} (C : Cx X S RX3 cc f lo) {v : Int} (hv : InR v) (h : decode cc pc = .ok (.putfield 27, 3)) (kk : PW X S (mst M 2 (vup (M 2) 10 0 2 v)) (pc + 3) ls st) : PW X S M pc ls (iv v :: rv S 2 10 0 :: st) := pw_putf (n := 2) (q := (0, 0, 0)) C (inT1 232 rfl rfl) iX3 rfl (by decide) rfl tyX3_ok nmX3 rfl (oC_10) rfl rfl rfl rfl hv h kk
theorem pv_3_27 {X : PX} {S : SW} {M : Mem} {cc : ByteArray} {f lo pc : Nat} {ls : List (Option Value)} {st : List Value} {V : DM} (C : Cx X S RX3 cc f lo) {v : Int} (hv : InR v) (h : decode cc pc = .ok (.putfield 27, 3)) (kk : PW X S (mst M 2 (vup V 10 0 2 v)) (pc + 3) ls st) : PW X S (mst M 2 V) pc ls (iv v :: rv S 2 10 0 :: st) := pf_3_27 C hv h (by rw [mst_m, mst_s]; exact kk)
theorem gf_8_245 {X : PX} {S : SW} {M : Mem} {cc : ByteArray} {f lo pc : Nat} {ls : List (Option Value)} {st : List Value} (C : Cx X S RX8 cc f lo) (h : decode cc pc = .ok (.getfield 245, 3)) (kk : InR (M 2 10 0 2) → PW X S M (pc + 3) ls (iv (M 2 10 0 2) :: st)) : PW X S M pc ls (rv S 2 10 0 :: st) := pw_getf (n := 2) C (inT1 233 rfl rfl) iX3 rfl (by decide) rfl (oC_10) rfl h kk
theorem gv_8_245 {X : PX} {S : SW} {M : Mem} {cc : ByteArray} {f lo pc : Nat} {ls : List (Option Value)} {st : List Value} {V : DM} (C : Cx X S RX8 cc f lo) (h : decode cc pc = .ok (.getfield 245, 3)) (kk : InR (V 10 0 2) → PW X S (mst M 2 V) (pc + 3) ls (iv (V 10 0 2) :: st)) : PW X S (mst M 2 V) pc ls (rv S 2 10 0 :: st) := gf_8_245 C h (by rw [mst_s]; exact kk)
theorem gf_2_9 {X : PX} {S : SW} {M : Mem} {cc : ByteArray} {f lo pc : Nat} {ls : List (Option Value)} {st : List Value} (C : Cx X S RX2 cc f lo) (h : decode cc pc = .ok (.getfield 9, 3)) (kk : PW X S M (pc + 3) ls (rv S 2 13 0 :: st)) : PW X S M pc ls (rv S 2 12 0 :: st) := pw_getf (n := 0) C (inT2 7 rfl rfl) iX2 rfl (by decide) rfl (oC_12) rfl h (fun _ => kk)
theorem gf_2_13 {X : PX} {S : SW} {M : Mem} {cc : ByteArray} {f lo pc : Nat} {ls : List (Option Value)} {st : List Value} (C : Cx X S RX2 cc f lo) (h : decode cc pc = .ok (.getfield 13, 3)) (kk : PW X S M (pc + 3) ls (rv S 2 14 0 :: st)) : PW X S M pc ls (rv S 2 12 0 :: st) := pw_getf (n := 1) C (inT2 8 rfl rfl) iX2 rfl (by decide) rfl (oC_12) rfl h (fun _ => kk)
theorem gf_8_12 {X : PX} {S : SW} {M : Mem} {cc : ByteArray} {f lo pc : Nat} {ls : List (Option Value)} {st : List Value} (C : Cx X S RX8 cc f lo) (h : decode cc pc = .ok (.getfield 12, 3)) (kk : PW X S M (pc + 3) ls (rv S 0 0 0 :: st)) : PW X S M pc ls (rv S 2 0 0 :: st) := pw_getf (n := 0) C (inT2 14 rfl rfl) iX8 rfl (by decide) rfl (oC_0) rfl h (fun _ => kk)
theorem gf_8_21 {X : PX} {S : SW} {M : Mem} {cc : ByteArray} {f lo pc : Nat} {ls : List (Option Value)} {st : List Value} (C : Cx X S RX8 cc f lo) (h : decode cc pc = .ok (.getfield 21, 3)) (kk : PW X S M (pc + 3) ls (rv S 2 1 0 :: st)) : PW X S M pc ls (rv S 2 0 0 :: st) := pw_getf (n := 1) C (inT2 15 rfl rfl) iX8 rfl (by decide) rfl (oC_0) rfl h (fun _ => kk)
theorem gf_8_28 {X : PX} {S : SW} {M : Mem} {cc : ByteArray} {f lo pc : Nat} {ls : List (Option Value)} {st : List Value} (C : Cx X S RX8 cc f lo) (h : decode cc pc = .ok (.getfield 28, 3)) (kk : PW X S M (pc + 3) ls (rv S 2 5 0 :: st)) : PW X S M pc ls (rv S 2 0 0 :: st) := pw_getf (n := 2) C (inT2 16 rfl rfl) iX8 rfl (by decide) rfl (oC_0) rfl h (fun _ => kk)
theorem gf_8_35 {X : PX} {S : SW} {M : Mem} {cc : ByteArray} {f lo pc : Nat} {ls : List (Option Value)} {st : List Value} (C : Cx X S RX8 cc f lo) (h : decode cc pc = .ok (.getfield 35, 3)) (kk : PW X S M (pc + 3) ls (rv S 2 10 0 :: st)) : PW X S M pc ls (rv S 2 0 0 :: st) := pw_getf (n := 3) C (inT2 17 rfl rfl) iX8 rfl (by decide) rfl (oC_0) rfl h (fun _ => kk)
theorem gf_8_42 {X : PX} {S : SW} {M : Mem} {cc : ByteArray} {f lo pc : Nat} {ls : List (Option Value)} {st : List Value} (C : Cx X S RX8 cc f lo) (h : decode cc pc = .ok (.getfield 42, 3)) (kk : PW X S M (pc + 3) ls (rv S 2 12 0 :: st)) : PW X S M pc ls (rv S 2 0 0 :: st) := pw_getf (n := 4) C (inT2 18 rfl rfl) iX8 rfl (by decide) rfl (oC_0) rfl h (fun _ => kk)
theorem gf_8_318 {X : PX} {S : SW} {M : Mem} {cc : ByteArray} {f lo pc : Nat} {ls : List (Option Value)} {st : List Value} (C : Cx X S RX8 cc f lo) (h : decode cc pc = .ok (.getfield 318, 3)) (kk : InR (M 2 0 0 5) → PW X S M (pc + 3) ls (iv (M 2 0 0 5) :: st)) : PW X S M pc ls (rv S 2 0 0 :: st) := pw_getf (n := 5) C (inT2 19 rfl rfl) iX8 rfl (by decide) rfl (oC_0) rfl h kk
theorem gv_8_318 {X : PX} {S : SW} {M : Mem} {cc : ByteArray} {f lo pc : Nat} {ls : List (Option Value)} {st : List Value} {V : DM} (C : Cx X S RX8 cc f lo) (h : decode cc pc = .ok (.getfield 318, 3)) (kk : InR (V 0 0 5) → PW X S (mst M 2 V) (pc + 3) ls (iv (V 0 0 5) :: st)) : PW X S (mst M 2 V) pc ls (rv S 2 0 0 :: st) := gf_8_318 C h (by rw [mst_s]; exact kk)
theorem pf_8_318 {X : PX} {S : SW} {M : Mem} {cc : ByteArray} {f lo pc : Nat} {ls : List (Option Value)} {st : List Value} (C : Cx X S RX8 cc f lo) {v : Int} (hv : InR v) (h : decode cc pc = .ok (.putfield 318, 3)) (kk : PW X S (mst M 2 (vup (M 2) 0 0 5 v)) (pc + 3) ls st) : PW X S M pc ls (iv v :: rv S 2 0 0 :: st) := pw_putf (n := 5) (q := (0, 0, 0)) C (inT2 19 rfl rfl) iX8 rfl (by decide) rfl tyX8_ok nmX8 rfl (oC_0) rfl rfl rfl rfl hv h kk
theorem pv_8_318 {X : PX} {S : SW} {M : Mem} {cc : ByteArray} {f lo pc : Nat} {ls : List (Option Value)} {st : List Value} {V : DM} (C : Cx X S RX8 cc f lo) {v : Int} (hv : InR v) (h : decode cc pc = .ok (.putfield 318, 3)) (kk : PW X S (mst M 2 (vup V 0 0 5 v)) (pc + 3) ls st) : PW X S (mst M 2 V) pc ls (iv v :: rv S 2 0 0 :: st) := pf_8_318 C hv h (by rw [mst_m, mst_s]; exact kk)
theorem gf_8_115 {X : PX} {S : SW} {M : Mem} {cc : ByteArray} {f lo pc : Nat} {ls : List (Option Value)} {st : List Value} (C : Cx X S RX8 cc f lo) (h : decode cc pc = .ok (.getfield 115, 3)) (kk : InR (M 2 0 0 6) → PW X S M (pc + 3) ls (iv (M 2 0 0 6) :: st)) : PW X S M pc ls (rv S 2 0 0 :: st) := pw_getf (n := 6) C (inT2 20 rfl rfl) iX8 rfl (by decide) rfl (oC_0) rfl h kk
theorem gv_8_115 {X : PX} {S : SW} {M : Mem} {cc : ByteArray} {f lo pc : Nat} {ls : List (Option Value)} {st : List Value} {V : DM} (C : Cx X S RX8 cc f lo) (h : decode cc pc = .ok (.getfield 115, 3)) (kk : InR (V 0 0 6) → PW X S (mst M 2 V) (pc + 3) ls (iv (V 0 0 6) :: st)) : PW X S (mst M 2 V) pc ls (rv S 2 0 0 :: st) := gf_8_115 C h (by rw [mst_s]; exact kk)
theorem pf_8_115 {X : PX} {S : SW} {M : Mem} {cc : ByteArray} {f lo pc : Nat} {ls : List (Option Value)} {st : List Value} (C : Cx X S RX8 cc f lo) {v : Int} (hv : InR v) (h : decode cc pc = .ok (.putfield 115, 3)) (kk : PW X S (mst M 2 (vup (M 2) 0 0 6 v)) (pc + 3) ls st) : PW X S M pc ls (iv v :: rv S 2 0 0 :: st) := pw_putf (n := 6) (q := (0, 0, 0)) C (inT2 20 rfl rfl) iX8 rfl (by decide) rfl tyX8_ok nmX8 rfl (oC_0) rfl rfl rfl rfl hv h kk
theorem pv_8_115 {X : PX} {S : SW} {M : Mem} {cc : ByteArray} {f lo pc : Nat} {ls : List (Option Value)} {st : List Value} {V : DM} (C : Cx X S RX8 cc f lo) {v : Int} (hv : InR v) (h : decode cc pc = .ok (.putfield 115, 3)) (kk : PW X S (mst M 2 (vup V 0 0 6 v)) (pc + 3) ls st) : PW X S (mst M 2 V) pc ls (iv v :: rv S 2 0 0 :: st) := pf_8_115 C hv h (by rw [mst_m, mst_s]; exact kk)
theorem gf_9_91 {X : PX} {S : SW} {M : Mem} {cc : ByteArray} {f lo pc : Nat} {ls : List (Option Value)} {st : List Value} (C : Cx X S RX9 cc f lo) (h : decode cc pc = .ok (.getfield 91, 3)) (kk : InR (M 3 0 0 0) → PW X S M (pc + 3) ls (iv (M 3 0 0 0) :: st)) : PW X S M pc ls (rv S 3 0 0 :: st) := pw_getf (n := 0) C (inT3 226 rfl rfl) iX9 rfl (by decide) rfl (oM_0) rfl h kk
theorem gv_9_91 {X : PX} {S : SW} {M : Mem} {cc : ByteArray} {f lo pc : Nat} {ls : List (Option Value)} {st : List Value} {V : DM} (C : Cx X S RX9 cc f lo) (h : decode cc pc = .ok (.getfield 91, 3)) (kk : InR (V 0 0 0) → PW X S (mst M 3 V) (pc + 3) ls (iv (V 0 0 0) :: st)) : PW X S (mst M 3 V) pc ls (rv S 3 0 0 :: st) := gf_9_91 C h (by rw [mst_s]; exact kk)
theorem pf_9_91 {X : PX} {S : SW} {M : Mem} {cc : ByteArray} {f lo pc : Nat} {ls : List (Option Value)} {st : List Value} (C : Cx X S RX9 cc f lo) {v : Int} (hv : InR v) (h : decode cc pc = .ok (.putfield 91, 3)) (kk : PW X S (mst M 3 (vup (M 3) 0 0 0 v)) (pc + 3) ls st) : PW X S M pc ls (iv v :: rv S 3 0 0 :: st) := pw_putf (n := 0) (q := (0, 0, 0)) C (inT3 226 rfl rfl) iX9 rfl (by decide) rfl tyX9_ok nmX9 rfl (oM_0) rfl rfl rfl rfl hv h kk
theorem pv_9_91 {X : PX} {S : SW} {M : Mem} {cc : ByteArray} {f lo pc : Nat} {ls : List (Option Value)} {st : List Value} {V : DM} (C : Cx X S RX9 cc f lo) {v : Int} (hv : InR v) (h : decode cc pc = .ok (.putfield 91, 3)) (kk : PW X S (mst M 3 (vup V 0 0 0 v)) (pc + 3) ls st) : PW X S (mst M 3 V) pc ls (iv v :: rv S 3 0 0 :: st) := pf_9_91 C hv h (by rw [mst_m, mst_s]; exact kk)
theorem gf_9_119 {X : PX} {S : SW} {M : Mem} {cc : ByteArray} {f lo pc : Nat} {ls : List (Option Value)} {st : List Value} (C : Cx X S RX9 cc f lo) (h : decode cc pc = .ok (.getfield 119, 3)) (kk : InR (M 3 0 0 1) → PW X S M (pc + 3) ls (iv (M 3 0 0 1) :: st)) : PW X S M pc ls (rv S 3 0 0 :: st) := pw_getf (n := 1) C (inT3 227 rfl rfl) iX9 rfl (by decide) rfl (oM_0) rfl h kk
theorem gv_9_119 {X : PX} {S : SW} {M : Mem} {cc : ByteArray} {f lo pc : Nat} {ls : List (Option Value)} {st : List Value} {V : DM} (C : Cx X S RX9 cc f lo) (h : decode cc pc = .ok (.getfield 119, 3)) (kk : InR (V 0 0 1) → PW X S (mst M 3 V) (pc + 3) ls (iv (V 0 0 1) :: st)) : PW X S (mst M 3 V) pc ls (rv S 3 0 0 :: st) := gf_9_119 C h (by rw [mst_s]; exact kk)
theorem pf_9_119 {X : PX} {S : SW} {M : Mem} {cc : ByteArray} {f lo pc : Nat} {ls : List (Option Value)} {st : List Value} (C : Cx X S RX9 cc f lo) {v : Int} (hv : InR v) (h : decode cc pc = .ok (.putfield 119, 3)) (kk : PW X S (mst M 3 (vup (M 3) 0 0 1 v)) (pc + 3) ls st) : PW X S M pc ls (iv v :: rv S 3 0 0 :: st) := pw_putf (n := 1) (q := (0, 0, 0)) C (inT3 227 rfl rfl) iX9 rfl (by decide) rfl tyX9_ok nmX9 rfl (oM_0) rfl rfl rfl rfl hv h kk
theorem pv_9_119 {X : PX} {S : SW} {M : Mem} {cc : ByteArray} {f lo pc : Nat} {ls : List (Option Value)} {st : List Value} {V : DM} (C : Cx X S RX9 cc f lo) {v : Int} (hv : InR v) (h : decode cc pc = .ok (.putfield 119, 3)) (kk : PW X S (mst M 3 (vup V 0 0 1 v)) (pc + 3) ls st) : PW X S (mst M 3 V) pc ls (iv v :: rv S 3 0 0 :: st) := pf_9_119 C hv h (by rw [mst_m, mst_s]; exact kk)
theorem gf_9_116 {X : PX} {S : SW} {M : Mem} {cc : ByteArray} {f lo pc : Nat} {ls : List (Option Value)} {st : List Value} (C : Cx X S RX9 cc f lo) (h : decode cc pc = .ok (.getfield 116, 3)) (kk : InR (M 3 0 0 2) → PW X S M (pc + 3) ls (iv (M 3 0 0 2) :: st)) : PW X S M pc ls (rv S 3 0 0 :: st) := pw_getf (n := 2) C (inT3 228 rfl rfl) iX9 rfl (by decide) rfl (oM_0) rfl h kk
theorem gv_9_116 {X : PX} {S : SW} {M : Mem} {cc : ByteArray} {f lo pc : Nat} {ls : List (Option Value)} {st : List Value} {V : DM} (C : Cx X S RX9 cc f lo) (h : decode cc pc = .ok (.getfield 116, 3)) (kk : InR (V 0 0 2) → PW X S (mst M 3 V) (pc + 3) ls (iv (V 0 0 2) :: st)) : PW X S (mst M 3 V) pc ls (rv S 3 0 0 :: st) := gf_9_116 C h (by rw [mst_s]; exact kk)
theorem pf_9_116 {X : PX} {S : SW} {M : Mem} {cc : ByteArray} {f lo pc : Nat} {ls : List (Option Value)} {st : List Value} (C : Cx X S RX9 cc f lo) {v : Int} (hv : InR v) (h : decode cc pc = .ok (.putfield 116, 3)) (kk : PW X S (mst M 3 (vup (M 3) 0 0 2 v)) (pc + 3) ls st) : PW X S M pc ls (iv v :: rv S 3 0 0 :: st) := pw_putf (n := 2) (q := (0, 0, 0)) C (inT3 228 rfl rfl) iX9 rfl (by decide) rfl tyX9_ok nmX9 rfl (oM_0) rfl rfl rfl rfl hv h kk
theorem pv_9_116 {X : PX} {S : SW} {M : Mem} {cc : ByteArray} {f lo pc : Nat} {ls : List (Option Value)} {st : List Value} {V : DM} (C : Cx X S RX9 cc f lo) {v : Int} (hv : InR v) (h : decode cc pc = .ok (.putfield 116, 3)) (kk : PW X S (mst M 3 (vup V 0 0 2 v)) (pc + 3) ls st) : PW X S (mst M 3 V) pc ls (iv v :: rv S 3 0 0 :: st) := pf_9_116 C hv h (by rw [mst_m, mst_s]; exact kk)
theorem gf_9_7 {X : PX} {S : SW} {M : Mem} {cc : ByteArray} {f lo pc : Nat} {ls : List (Option Value)} {st : List Value} (C : Cx X S RX9 cc f lo) (h : decode cc pc = .ok (.getfield 7, 3)) (kk : PW X S M (pc + 3) ls (rv S 3 4 0 :: st)) : PW X S M pc ls (rv S 3 0 0 :: st) := pw_getf (n := 3) C (inT3 229 rfl rfl) iX9 rfl (by decide) rfl (oM_0) rfl h (fun _ => kk)
theorem gf_9_13 {X : PX} {S : SW} {M : Mem} {cc : ByteArray} {f lo pc : Nat} {ls : List (Option Value)} {st : List Value} (C : Cx X S RX9 cc f lo) (h : decode cc pc = .ok (.getfield 13, 3)) (kk : PW X S M (pc + 3) ls (rv S 3 5 0 :: st)) : PW X S M pc ls (rv S 3 0 0 :: st) := pw_getf (n := 4) C (inT3 230 rfl rfl) iX9 rfl (by decide) rfl (oM_0) rfl h (fun _ => kk)
theorem gf_9_16 {X : PX} {S : SW} {M : Mem} {cc : ByteArray} {f lo pc : Nat} {ls : List (Option Value)} {st : List Value} (C : Cx X S RX9 cc f lo) (h : decode cc pc = .ok (.getfield 16, 3)) (kk : PW X S M (pc + 3) ls (rv S 3 6 0 :: st)) : PW X S M pc ls (rv S 3 0 0 :: st) := pw_getf (n := 5) C (inT3 231 rfl rfl) iX9 rfl (by decide) rfl (oM_0) rfl h (fun _ => kk)
theorem gf_9_19 {X : PX} {S : SW} {M : Mem} {cc : ByteArray} {f lo pc : Nat} {ls : List (Option Value)} {st : List Value} (C : Cx X S RX9 cc f lo) (h : decode cc pc = .ok (.getfield 19, 3)) (kk : PW X S M (pc + 3) ls (rv S 3 7 0 :: st)) : PW X S M pc ls (rv S 3 0 0 :: st) := pw_getf (n := 6) C (inT3 232 rfl rfl) iX9 rfl (by decide) rfl (oM_0) rfl h (fun _ => kk)
theorem gf_9_22 {X : PX} {S : SW} {M : Mem} {cc : ByteArray} {f lo pc : Nat} {ls : List (Option Value)} {st : List Value} (C : Cx X S RX9 cc f lo) (h : decode cc pc = .ok (.getfield 22, 3)) (kk : PW X S M (pc + 3) ls (rv S 3 8 0 :: st)) : PW X S M pc ls (rv S 3 0 0 :: st) := pw_getf (n := 7) C (inT3 233 rfl rfl) iX9 rfl (by decide) rfl (oM_0) rfl h (fun _ => kk)
theorem gf_9_156 {X : PX} {S : SW} {M : Mem} {cc : ByteArray} {f lo pc : Nat} {ls : List (Option Value)} {st : List Value} (C : Cx X S RX9 cc f lo) (h : decode cc pc = .ok (.getfield 156, 3)) (kk : InR (M 3 0 0 8) → PW X S M (pc + 3) ls (iv (M 3 0 0 8) :: st)) : PW X S M pc ls (rv S 3 0 0 :: st) := pw_getf (n := 8) C (inT3 234 rfl rfl) iX9 rfl (by decide) rfl (oM_0) rfl h kk
theorem gv_9_156 {X : PX} {S : SW} {M : Mem} {cc : ByteArray} {f lo pc : Nat} {ls : List (Option Value)} {st : List Value} {V : DM} (C : Cx X S RX9 cc f lo) (h : decode cc pc = .ok (.getfield 156, 3)) (kk : InR (V 0 0 8) → PW X S (mst M 3 V) (pc + 3) ls (iv (V 0 0 8) :: st)) : PW X S (mst M 3 V) pc ls (rv S 3 0 0 :: st) := gf_9_156 C h (by rw [mst_s]; exact kk)
theorem pf_9_156 {X : PX} {S : SW} {M : Mem} {cc : ByteArray} {f lo pc : Nat} {ls : List (Option Value)} {st : List Value} (C : Cx X S RX9 cc f lo) {v : Int} (hv : InR v) (h : decode cc pc = .ok (.putfield 156, 3)) (kk : PW X S (mst M 3 (vup (M 3) 0 0 8 v)) (pc + 3) ls st) : PW X S M pc ls (iv v :: rv S 3 0 0 :: st) := pw_putf (n := 8) (q := (0, 0, 0)) C (inT3 234 rfl rfl) iX9 rfl (by decide) rfl tyX9_ok nmX9 rfl (oM_0) rfl rfl rfl rfl hv h kk
theorem pv_9_156 {X : PX} {S : SW} {M : Mem} {cc : ByteArray} {f lo pc : Nat} {ls : List (Option Value)} {st : List Value} {V : DM} (C : Cx X S RX9 cc f lo) {v : Int} (hv : InR v) (h : decode cc pc = .ok (.putfield 156, 3)) (kk : PW X S (mst M 3 (vup V 0 0 8 v)) (pc + 3) ls st) : PW X S (mst M 3 V) pc ls (iv v :: rv S 3 0 0 :: st) := pf_9_156 C hv h (by rw [mst_m, mst_s]; exact kk)
theorem gf_9_159 {X : PX} {S : SW} {M : Mem} {cc : ByteArray} {f lo pc : Nat} {ls : List (Option Value)} {st : List Value} (C : Cx X S RX9 cc f lo) (h : decode cc pc = .ok (.getfield 159, 3)) (kk : InR (M 3 0 0 9) → PW X S M (pc + 3) ls (iv (M 3 0 0 9) :: st)) : PW X S M pc ls (rv S 3 0 0 :: st) := pw_getf (n := 9) C (inT3 235 rfl rfl) iX9 rfl (by decide) rfl (oM_0) rfl h kk
theorem gv_9_159 {X : PX} {S : SW} {M : Mem} {cc : ByteArray} {f lo pc : Nat} {ls : List (Option Value)} {st : List Value} {V : DM} (C : Cx X S RX9 cc f lo) (h : decode cc pc = .ok (.getfield 159, 3)) (kk : InR (V 0 0 9) → PW X S (mst M 3 V) (pc + 3) ls (iv (V 0 0 9) :: st)) : PW X S (mst M 3 V) pc ls (rv S 3 0 0 :: st) := gf_9_159 C h (by rw [mst_s]; exact kk)
theorem pf_9_159 {X : PX} {S : SW} {M : Mem} {cc : ByteArray} {f lo pc : Nat} {ls : List (Option Value)} {st : List Value} (C : Cx X S RX9 cc f lo) {v : Int} (hv : v = 0 ∨ v = 1) (h : decode cc pc = .ok (.putfield 159, 3)) (kk : PW X S (mst M 3 (vup (M 3) 0 0 9 v)) (pc + 3) ls st) : PW X S M pc ls (iv v :: rv S 3 0 0 :: st) := pw_putf (n := 9) (q := (0, 0, 0)) C (inT3 235 rfl rfl) iX9 rfl (by decide) rfl tyX9_ok nmX9 rfl (oM_0) rfl rfl (by rcases hv with rfl | rfl <;> rfl) (by rcases hv with rfl | rfl <;> rfl) (by rcases hv with rfl | rfl <;> unfold InR <;> omega) h kk
theorem pv_9_159 {X : PX} {S : SW} {M : Mem} {cc : ByteArray} {f lo pc : Nat} {ls : List (Option Value)} {st : List Value} {V : DM} (C : Cx X S RX9 cc f lo) {v : Int} (hv : v = 0 ∨ v = 1) (h : decode cc pc = .ok (.putfield 159, 3)) (kk : PW X S (mst M 3 (vup V 0 0 9 v)) (pc + 3) ls st) : PW X S (mst M 3 V) pc ls (iv v :: rv S 3 0 0 :: st) := pf_9_159 C hv h (by rw [mst_m, mst_s]; exact kk)
theorem gf_9_122 {X : PX} {S : SW} {M : Mem} {cc : ByteArray} {f lo pc : Nat} {ls : List (Option Value)} {st : List Value} (C : Cx X S RX9 cc f lo) (h : decode cc pc = .ok (.getfield 122, 3)) (kk : InR (M 3 0 0 10) → PW X S M (pc + 3) ls (iv (M 3 0 0 10) :: st)) : PW X S M pc ls (rv S 3 0 0 :: st) := pw_getf (n := 10) C (inT3 236 rfl rfl) iX9 rfl (by decide) rfl (oM_0) rfl h kk
theorem gv_9_122 {X : PX} {S : SW} {M : Mem} {cc : ByteArray} {f lo pc : Nat} {ls : List (Option Value)} {st : List Value} {V : DM} (C : Cx X S RX9 cc f lo) (h : decode cc pc = .ok (.getfield 122, 3)) (kk : InR (V 0 0 10) → PW X S (mst M 3 V) (pc + 3) ls (iv (V 0 0 10) :: st)) : PW X S (mst M 3 V) pc ls (rv S 3 0 0 :: st) := gf_9_122 C h (by rw [mst_s]; exact kk)
theorem pf_9_122 {X : PX} {S : SW} {M : Mem} {cc : ByteArray} {f lo pc : Nat} {ls : List (Option Value)} {st : List Value} (C : Cx X S RX9 cc f lo) {v : Int} (hv : InR v) (h : decode cc pc = .ok (.putfield 122, 3)) (kk : PW X S (mst M 3 (vup (M 3) 0 0 10 v)) (pc + 3) ls st) : PW X S M pc ls (iv v :: rv S 3 0 0 :: st) := pw_putf (n := 10) (q := (0, 0, 0)) C (inT3 236 rfl rfl) iX9 rfl (by decide) rfl tyX9_ok nmX9 rfl (oM_0) rfl rfl rfl rfl hv h kk
theorem pv_9_122 {X : PX} {S : SW} {M : Mem} {cc : ByteArray} {f lo pc : Nat} {ls : List (Option Value)} {st : List Value} {V : DM} (C : Cx X S RX9 cc f lo) {v : Int} (hv : InR v) (h : decode cc pc = .ok (.putfield 122, 3)) (kk : PW X S (mst M 3 (vup V 0 0 10 v)) (pc + 3) ls st) : PW X S (mst M 3 V) pc ls (iv v :: rv S 3 0 0 :: st) := pf_9_122 C hv h (by rw [mst_m, mst_s]; exact kk)
theorem gf_9_125 {X : PX} {S : SW} {M : Mem} {cc : ByteArray} {f lo pc : Nat} {ls : List (Option Value)} {st : List Value} (C : Cx X S RX9 cc f lo) (h : decode cc pc = .ok (.getfield 125, 3)) (kk : InR (M 3 0 0 11) → PW X S M (pc + 3) ls (iv (M 3 0 0 11) :: st)) : PW X S M pc ls (rv S 3 0 0 :: st) := pw_getf (n := 11) C (inT3 237 rfl rfl) iX9 rfl (by decide) rfl (oM_0) rfl h kk
theorem gv_9_125 {X : PX} {S : SW} {M : Mem} {cc : ByteArray} {f lo pc : Nat} {ls : List (Option Value)} {st : List Value} {V : DM} (C : Cx X S RX9 cc f lo) (h : decode cc pc = .ok (.getfield 125, 3)) (kk : InR (V 0 0 11) → PW X S (mst M 3 V) (pc + 3) ls (iv (V 0 0 11) :: st)) : PW X S (mst M 3 V) pc ls (rv S 3 0 0 :: st) := gf_9_125 C h (by rw [mst_s]; exact kk)
theorem pf_9_125 {X : PX} {S : SW} {M : Mem} {cc : ByteArray} {f lo pc : Nat} {ls : List (Option Value)} {st : List Value} (C : Cx X S RX9 cc f lo) {v : Int} (hv : InR v) (h : decode cc pc = .ok (.putfield 125, 3)) (kk : PW X S (mst M 3 (vup (M 3) 0 0 11 v)) (pc + 3) ls st) : PW X S M pc ls (iv v :: rv S 3 0 0 :: st) := pw_putf (n := 11) (q := (0, 0, 0)) C (inT3 237 rfl rfl) iX9 rfl (by decide) rfl tyX9_ok nmX9 rfl (oM_0) rfl rfl rfl rfl hv h kk
theorem pv_9_125 {X : PX} {S : SW} {M : Mem} {cc : ByteArray} {f lo pc : Nat} {ls : List (Option Value)} {st : List Value} {V : DM} (C : Cx X S RX9 cc f lo) {v : Int} (hv : InR v) (h : decode cc pc = .ok (.putfield 125, 3)) (kk : PW X S (mst M 3 (vup V 0 0 11 v)) (pc + 3) ls st) : PW X S (mst M 3 V) pc ls (iv v :: rv S 3 0 0 :: st) := pf_9_125 C hv h (by rw [mst_m, mst_s]; exact kk)
theorem gf_9_139 {X : PX} {S : SW} {M : Mem} {cc : ByteArray} {f lo pc : Nat} {ls : List (Option Value)} {st : List Value} (C : Cx X S RX9 cc f lo) (h : decode cc pc = .ok (.getfield 139, 3)) (kk : InR (M 3 0 0 12) → PW X S M (pc + 3) ls (iv (M 3 0 0 12) :: st)) : PW X S M pc ls (rv S 3 0 0 :: st) := pw_getf (n := 12) C (inT3 238 rfl rfl) iX9 rfl (by decide) rfl (oM_0) rfl h kk
theorem gv_9_139 {X : PX} {S : SW} {M : Mem} {cc : ByteArray} {f lo pc : Nat} {ls : List (Option Value)} {st : List Value} {V : DM} (C : Cx X S RX9 cc f lo) (h : decode cc pc = .ok (.getfield 139, 3)) (kk : InR (V 0 0 12) → PW X S (mst M 3 V) (pc + 3) ls (iv (V 0 0 12) :: st)) : PW X S (mst M 3 V) pc ls (rv S 3 0 0 :: st) := gf_9_139 C h (by rw [mst_s]; exact kk)
theorem pf_9_139 {X : PX} {S : SW} {M : Mem} {cc : ByteArray} {f lo pc : Nat} {ls : List (Option Value)} {st : List Value} (C : Cx X S RX9 cc f lo) {v : Int} (hv : InR v) (h : decode cc pc = .ok (.putfield 139, 3)) (kk : PW X S (mst M 3 (vup (M 3) 0 0 12 v)) (pc + 3) ls st) : PW X S M pc ls (iv v :: rv S 3 0 0 :: st) := pw_putf (n := 12) (q := (0, 0, 0)) C (inT3 238 rfl rfl) iX9 rfl (by decide) rfl tyX9_ok nmX9 rfl (oM_0) rfl rfl rfl rfl hv h kk
theorem pv_9_139 {X : PX} {S : SW} {M : Mem} {cc : ByteArray} {f lo pc : Nat} {ls : List (Option Value)} {st : List Value} {V : DM} (C : Cx X S RX9 cc f lo) {v : Int} (hv : InR v) (h : decode cc pc = .ok (.putfield 139, 3)) (kk : PW X S (mst M 3 (vup V 0 0 12 v)) (pc + 3) ls st) : PW X S (mst M 3 V) pc ls (iv v :: rv S 3 0 0 :: st) := pf_9_139 C hv h (by rw [mst_m, mst_s]; exact kk)
theorem gf_9_128 {X : PX} {S : SW} {M : Mem} {cc : ByteArray} {f lo pc : Nat} {ls : List (Option Value)} {st : List Value} (C : Cx X S RX9 cc f lo) (h : decode cc pc = .ok (.getfield 128, 3)) (kk : InR (M 3 0 0 13) → PW X S M (pc + 3) ls (iv (M 3 0 0 13) :: st)) : PW X S M pc ls (rv S 3 0 0 :: st) := pw_getf (n := 13) C (inT3 239 rfl rfl) iX9 rfl (by decide) rfl (oM_0) rfl h kk
theorem gv_9_128 {X : PX} {S : SW} {M : Mem} {cc : ByteArray} {f lo pc : Nat} {ls : List (Option Value)} {st : List Value} {V : DM} (C : Cx X S RX9 cc f lo) (h : decode cc pc = .ok (.getfield 128, 3)) (kk : InR (V 0 0 13) → PW X S (mst M 3 V) (pc + 3) ls (iv (V 0 0 13) :: st)) : PW X S (mst M 3 V) pc ls (rv S 3 0 0 :: st) := gf_9_128 C h (by rw [mst_s]; exact kk)
theorem pf_9_128 {X : PX} {S : SW} {M : Mem} {cc : ByteArray} {f lo pc : Nat} {ls : List (Option Value)} {st : List Value} (C : Cx X S RX9 cc f lo) {v : Int} (hv : InR v) (h : decode cc pc = .ok (.putfield 128, 3)) (kk : PW X S (mst M 3 (vup (M 3) 0 0 13 v)) (pc + 3) ls st) : PW X S M pc ls (iv v :: rv S 3 0 0 :: st) := pw_putf (n := 13) (q := (0, 0, 0)) C (inT3 239 rfl rfl) iX9 rfl (by decide) rfl tyX9_ok nmX9 rfl (oM_0) rfl rfl rfl rfl hv h kk
theorem pv_9_128 {X : PX} {S : SW} {M : Mem} {cc : ByteArray} {f lo pc : Nat} {ls : List (Option Value)} {st : List Value} {V : DM} (C : Cx X S RX9 cc f lo) {v : Int} (hv : InR v) (h : decode cc pc = .ok (.putfield 128, 3)) (kk : PW X S (mst M 3 (vup V 0 0 13 v)) (pc + 3) ls st) : PW X S (mst M 3 V) pc ls (iv v :: rv S 3 0 0 :: st) := pf_9_128 C hv h (by rw [mst_m, mst_s]; exact kk)
theorem gf_9_25 {X : PX} {S : SW} {M : Mem} {cc : ByteArray} {f lo pc : Nat} {ls : List (Option Value)} {st : List Value} (C : Cx X S RX9 cc f lo) (h : decode cc pc = .ok (.getfield 25, 3)) (kk : PW X S M (pc + 3) ls (rv S 3 15 0 :: st)) : PW X S M pc ls (rv S 3 0 0 :: st) := pw_getf (n := 14) C (inT4 0 rfl rfl) iX9 rfl (by decide) rfl (oM_0) rfl h (fun _ => kk)
theorem gf_9_153 {X : PX} {S : SW} {M : Mem} {cc : ByteArray} {f lo pc : Nat} {ls : List (Option Value)} {st : List Value} (C : Cx X S RX9 cc f lo) (h : decode cc pc = .ok (.getfield 153, 3)) (kk : InR (M 3 0 0 15) → PW X S M (pc + 3) ls (iv (M 3 0 0 15) :: st)) : PW X S M pc ls (rv S 3 0 0 :: st) := pw_getf (n := 15) C (inT4 1 rfl rfl) iX9 rfl (by decide) rfl (oM_0) rfl h kk
theorem gv_9_153 {X : PX} {S : SW} {M : Mem} {cc : ByteArray} {f lo pc : Nat} {ls : List (Option Value)} {st : List Value} {V : DM} (C : Cx X S RX9 cc f lo) (h : decode cc pc = .ok (.getfield 153, 3)) (kk : InR (V 0 0 15) → PW X S (mst M 3 V) (pc + 3) ls (iv (V 0 0 15) :: st)) : PW X S (mst M 3 V) pc ls (rv S 3 0 0 :: st) := gf_9_153 C h (by rw [mst_s]; exact kk)
theorem pf_9_153 {X : PX} {S : SW} {M : Mem} {cc : ByteArray} {f lo pc : Nat} {ls : List (Option Value)} {st : List Value} (C : Cx X S RX9 cc f lo) {v : Int} (hv : InR v) (h : decode cc pc = .ok (.putfield 153, 3)) (kk : PW X S (mst M 3 (vup (M 3) 0 0 15 v)) (pc + 3) ls st) : PW X S M pc ls (iv v :: rv S 3 0 0 :: st) := pw_putf (n := 15) (q := (0, 0, 0)) C (inT4 1 rfl rfl) iX9 rfl (by decide) rfl tyX9_ok nmX9 rfl (oM_0) rfl rfl rfl rfl hv h kk
theorem pv_9_153 {X : PX} {S : SW} {M : Mem} {cc : ByteArray} {f lo pc : Nat} {ls : List (Option Value)} {st : List Value} {V : DM} (C : Cx X S RX9 cc f lo) {v : Int} (hv : InR v) (h : decode cc pc = .ok (.putfield 153, 3)) (kk : PW X S (mst M 3 (vup V 0 0 15 v)) (pc + 3) ls st) : PW X S (mst M 3 V) pc ls (iv v :: rv S 3 0 0 :: st) := pf_9_153 C hv h (by rw [mst_m, mst_s]; exact kk)
theorem gf_9_28 {X : PX} {S : SW} {M : Mem} {cc : ByteArray} {f lo pc : Nat} {ls : List (Option Value)} {st : List Value} (C : Cx X S RX9 cc f lo) (h : decode cc pc = .ok (.getfield 28, 3)) (kk : PW X S M (pc + 3) ls (rv S 3 17 0 :: st)) : PW X S M pc ls (rv S 3 0 0 :: st) := pw_getf (n := 16) C (inT4 2 rfl rfl) iX9 rfl (by decide) rfl (oM_0) rfl h (fun _ => kk)
theorem gf_9_31 {X : PX} {S : SW} {M : Mem} {cc : ByteArray} {f lo pc : Nat} {ls : List (Option Value)} {st : List Value} (C : Cx X S RX9 cc f lo) (h : decode cc pc = .ok (.getfield 31, 3)) (kk : PW X S M (pc + 3) ls (rv S 3 18 0 :: st)) : PW X S M pc ls (rv S 3 0 0 :: st) := pw_getf (n := 17) C (inT4 3 rfl rfl) iX9 rfl (by decide) rfl (oM_0) rfl h (fun _ => kk)
theorem gf_9_34 {X : PX} {S : SW} {M : Mem} {cc : ByteArray} {f lo pc : Nat} {ls : List (Option Value)} {st : List Value} (C : Cx X S RX9 cc f lo) (h : decode cc pc = .ok (.getfield 34, 3)) (kk : PW X S M (pc + 3) ls (rv S 3 19 0 :: st)) : PW X S M pc ls (rv S 3 0 0 :: st) := pw_getf (n := 18) C (inT4 4 rfl rfl) iX9 rfl (by decide) rfl (oM_0) rfl h (fun _ => kk)
theorem gf_9_37 {X : PX} {S : SW} {M : Mem} {cc : ByteArray} {f lo pc : Nat} {ls : List (Option Value)} {st : List Value} (C : Cx X S RX9 cc f lo) (h : decode cc pc = .ok (.getfield 37, 3)) (kk : PW X S M (pc + 3) ls (rv S 3 20 0 :: st)) : PW X S M pc ls (rv S 3 0 0 :: st) := pw_getf (n := 19) C (inT4 5 rfl rfl) iX9 rfl (by decide) rfl (oM_0) rfl h (fun _ => kk)
theorem gf_9_40 {X : PX} {S : SW} {M : Mem} {cc : ByteArray} {f lo pc : Nat} {ls : List (Option Value)} {st : List Value} (C : Cx X S RX9 cc f lo) (h : decode cc pc = .ok (.getfield 40, 3)) (kk : PW X S M (pc + 3) ls (rv S 3 21 0 :: st)) : PW X S M pc ls (rv S 3 0 0 :: st) := pw_getf (n := 20) C (inT4 6 rfl rfl) iX9 rfl (by decide) rfl (oM_0) rfl h (fun _ => kk)
theorem gf_9_207 {X : PX} {S : SW} {M : Mem} {cc : ByteArray} {f lo pc : Nat} {ls : List (Option Value)} {st : List Value} (C : Cx X S RX9 cc f lo) (h : decode cc pc = .ok (.getfield 207, 3)) (kk : InR (M 3 0 0 21) → PW X S M (pc + 3) ls (iv (M 3 0 0 21) :: st)) : PW X S M pc ls (rv S 3 0 0 :: st) := pw_getf (n := 21) C (inT4 7 rfl rfl) iX9 rfl (by decide) rfl (oM_0) rfl h kk
theorem gv_9_207 {X : PX} {S : SW} {M : Mem} {cc : ByteArray} {f lo pc : Nat} {ls : List (Option Value)} {st : List Value} {V : DM} (C : Cx X S RX9 cc f lo) (h : decode cc pc = .ok (.getfield 207, 3)) (kk : InR (V 0 0 21) → PW X S (mst M 3 V) (pc + 3) ls (iv (V 0 0 21) :: st)) : PW X S (mst M 3 V) pc ls (rv S 3 0 0 :: st) := gf_9_207 C h (by rw [mst_s]; exact kk)
theorem pf_9_207 {X : PX} {S : SW} {M : Mem} {cc : ByteArray} {f lo pc : Nat} {ls : List (Option Value)} {st : List Value} (C : Cx X S RX9 cc f lo) {v : Int} (hv : InR v) (h : decode cc pc = .ok (.putfield 207, 3)) (kk : PW X S (mst M 3 (vup (M 3) 0 0 21 v)) (pc + 3) ls st) : PW X S M pc ls (iv v :: rv S 3 0 0 :: st) := pw_putf (n := 21) (q := (0, 0, 0)) C (inT4 7 rfl rfl) iX9 rfl (by decide) rfl tyX9_ok nmX9 rfl (oM_0) rfl rfl rfl rfl hv h kk
theorem pv_9_207 {X : PX} {S : SW} {M : Mem} {cc : ByteArray} {f lo pc : Nat} {ls : List (Option Value)} {st : List Value} {V : DM} (C : Cx X S RX9 cc f lo) {v : Int} (hv : InR v) (h : decode cc pc = .ok (.putfield 207, 3)) (kk : PW X S (mst M 3 (vup V 0 0 21 v)) (pc + 3) ls st) : PW X S (mst M 3 V) pc ls (iv v :: rv S 3 0 0 :: st) := pf_9_207 C hv h (by rw [mst_m, mst_s]; exact kk)
theorem gf_9_43 {X : PX} {S : SW} {M : Mem} {cc : ByteArray} {f lo pc : Nat} {ls : List (Option Value)} {st : List Value} (C : Cx X S RX9 cc f lo) (h : decode cc pc = .ok (.getfield 43, 3)) (kk : PW X S M (pc + 3) ls (rv S 3 23 0 :: st)) : PW X S M pc ls (rv S 3 0 0 :: st) := pw_getf (n := 22) C (inT4 8 rfl rfl) iX9 rfl (by decide) rfl (oM_0) rfl h (fun _ => kk)
theorem gf_9_46 {X : PX} {S : SW} {M : Mem} {cc : ByteArray} {f lo pc : Nat} {ls : List (Option Value)} {st : List Value} (C : Cx X S RX9 cc f lo) (h : decode cc pc = .ok (.getfield 46, 3)) (kk : PW X S M (pc + 3) ls (rv S 3 24 0 :: st)) : PW X S M pc ls (rv S 3 0 0 :: st) := pw_getf (n := 23) C (inT4 9 rfl rfl) iX9 rfl (by decide) rfl (oM_0) rfl h (fun _ => kk)
theorem gf_9_49 {X : PX} {S : SW} {M : Mem} {cc : ByteArray} {f lo pc : Nat} {ls : List (Option Value)} {st : List Value} (C : Cx X S RX9 cc f lo) (h : decode cc pc = .ok (.getfield 49, 3)) (kk : PW X S M (pc + 3) ls (rv S 3 25 0 :: st)) : PW X S M pc ls (rv S 3 0 0 :: st) := pw_getf (n := 24) C (inT4 10 rfl rfl) iX9 rfl (by decide) rfl (oM_0) rfl h (fun _ => kk)
theorem gf_9_52 {X : PX} {S : SW} {M : Mem} {cc : ByteArray} {f lo pc : Nat} {ls : List (Option Value)} {st : List Value} (C : Cx X S RX9 cc f lo) (h : decode cc pc = .ok (.getfield 52, 3)) (kk : PW X S M (pc + 3) ls (rv S 3 26 0 :: st)) : PW X S M pc ls (rv S 3 0 0 :: st) := pw_getf (n := 25) C (inT4 11 rfl rfl) iX9 rfl (by decide) rfl (oM_0) rfl h (fun _ => kk)
theorem gf_9_55 {X : PX} {S : SW} {M : Mem} {cc : ByteArray} {f lo pc : Nat} {ls : List (Option Value)} {st : List Value} (C : Cx X S RX9 cc f lo) (h : decode cc pc = .ok (.getfield 55, 3)) (kk : PW X S M (pc + 3) ls (rv S 3 27 0 :: st)) : PW X S M pc ls (rv S 3 0 0 :: st) := pw_getf (n := 26) C (inT4 12 rfl rfl) iX9 rfl (by decide) rfl (oM_0) rfl h (fun _ => kk)
theorem gf_9_58 {X : PX} {S : SW} {M : Mem} {cc : ByteArray} {f lo pc : Nat} {ls : List (Option Value)} {st : List Value} (C : Cx X S RX9 cc f lo) (h : decode cc pc = .ok (.getfield 58, 3)) (kk : PW X S M (pc + 3) ls (rv S 3 28 0 :: st)) : PW X S M pc ls (rv S 3 0 0 :: st) := pw_getf (n := 27) C (inT4 13 rfl rfl) iX9 rfl (by decide) rfl (oM_0) rfl h (fun _ => kk)
theorem gf_9_61 {X : PX} {S : SW} {M : Mem} {cc : ByteArray} {f lo pc : Nat} {ls : List (Option Value)} {st : List Value} (C : Cx X S RX9 cc f lo) (h : decode cc pc = .ok (.getfield 61, 3)) (kk : PW X S M (pc + 3) ls (rv S 3 29 0 :: st)) : PW X S M pc ls (rv S 3 0 0 :: st) := pw_getf (n := 28) C (inT4 14 rfl rfl) iX9 rfl (by decide) rfl (oM_0) rfl h (fun _ => kk)
theorem gf_9_64 {X : PX} {S : SW} {M : Mem} {cc : ByteArray} {f lo pc : Nat} {ls : List (Option Value)} {st : List Value} (C : Cx X S RX9 cc f lo) (h : decode cc pc = .ok (.getfield 64, 3)) (kk : PW X S M (pc + 3) ls (rv S 3 30 0 :: st)) : PW X S M pc ls (rv S 3 0 0 :: st) := pw_getf (n := 29) C (inT4 15 rfl rfl) iX9 rfl (by decide) rfl (oM_0) rfl h (fun _ => kk)
theorem gf_9_67 {X : PX} {S : SW} {M : Mem} {cc : ByteArray} {f lo pc : Nat} {ls : List (Option Value)} {st : List Value} (C : Cx X S RX9 cc f lo) (h : decode cc pc = .ok (.getfield 67, 3)) (kk : PW X S M (pc + 3) ls (rv S 3 31 0 :: st)) : PW X S M pc ls (rv S 3 0 0 :: st) := pw_getf (n := 30) C (inT4 16 rfl rfl) iX9 rfl (by decide) rfl (oM_0) rfl h (fun _ => kk)
theorem gf_9_70 {X : PX} {S : SW} {M : Mem} {cc : ByteArray} {f lo pc : Nat} {ls : List (Option Value)} {st : List Value} (C : Cx X S RX9 cc f lo) (h : decode cc pc = .ok (.getfield 70, 3)) (kk : PW X S M (pc + 3) ls (rv S 3 32 0 :: st)) : PW X S M pc ls (rv S 3 0 0 :: st) := pw_getf (n := 31) C (inT4 17 rfl rfl) iX9 rfl (by decide) rfl (oM_0) rfl h (fun _ => kk)
theorem gf_9_273 {X : PX} {S : SW} {M : Mem} {cc : ByteArray} {f lo pc : Nat} {ls : List (Option Value)} {st : List Value} (C : Cx X S RX9 cc f lo) (h : decode cc pc = .ok (.getfield 273, 3)) (kk : InR (M 3 0 0 32) → PW X S M (pc + 3) ls (jv (M 3 0 0 32) :: st)) : PW X S M pc ls (rv S 3 0 0 :: st) := pw_getf (n := 32) C (inT4 18 rfl rfl) iX9 rfl (by decide) rfl (oM_0) rfl h kk
theorem gv_9_273 {X : PX} {S : SW} {M : Mem} {cc : ByteArray} {f lo pc : Nat} {ls : List (Option Value)} {st : List Value} {V : DM} (C : Cx X S RX9 cc f lo) (h : decode cc pc = .ok (.getfield 273, 3)) (kk : InR (V 0 0 32) → PW X S (mst M 3 V) (pc + 3) ls (jv (V 0 0 32) :: st)) : PW X S (mst M 3 V) pc ls (rv S 3 0 0 :: st) := gf_9_273 C h (by rw [mst_s]; exact kk)
theorem pf_9_273 {X : PX} {S : SW} {M : Mem} {cc : ByteArray} {f lo pc : Nat} {ls : List (Option Value)} {st : List Value} (C : Cx X S RX9 cc f lo) {v : Int} (hv : InR v) (h : decode cc pc = .ok (.putfield 273, 3)) (kk : PW X S (mst M 3 (vup (M 3) 0 0 32 v)) (pc + 3) ls st) : PW X S M pc ls (jv v :: rv S 3 0 0 :: st) := pw_putf (n := 32) (q := (1, 0, 0)) C (inT4 18 rfl rfl) iX9 rfl (by decide) rfl tyX9_ok nmX9 rfl (oM_0) rfl rfl rfl rfl hv h kk
theorem pv_9_273 {X : PX} {S : SW} {M : Mem} {cc : ByteArray} {f lo pc : Nat} {ls : List (Option Value)} {st : List Value} {V : DM} (C : Cx X S RX9 cc f lo) {v : Int} (hv : InR v) (h : decode cc pc = .ok (.putfield 273, 3)) (kk : PW X S (mst M 3 (vup V 0 0 32 v)) (pc + 3) ls st) : PW X S (mst M 3 V) pc ls (jv v :: rv S 3 0 0 :: st) := pf_9_273 C hv h (by rw [mst_m, mst_s]; exact kk)
theorem gf_9_277 {X : PX} {S : SW} {M : Mem} {cc : ByteArray} {f lo pc : Nat} {ls : List (Option Value)} {st : List Value} (C : Cx X S RX9 cc f lo) (h : decode cc pc = .ok (.getfield 277, 3)) (kk : InR (M 3 0 0 33) → PW X S M (pc + 3) ls (jv (M 3 0 0 33) :: st)) : PW X S M pc ls (rv S 3 0 0 :: st) := pw_getf (n := 33) C (inT4 19 rfl rfl) iX9 rfl (by decide) rfl (oM_0) rfl h kk
theorem gv_9_277 {X : PX} {S : SW} {M : Mem} {cc : ByteArray} {f lo pc : Nat} {ls : List (Option Value)} {st : List Value} {V : DM} (C : Cx X S RX9 cc f lo) (h : decode cc pc = .ok (.getfield 277, 3)) (kk : InR (V 0 0 33) → PW X S (mst M 3 V) (pc + 3) ls (jv (V 0 0 33) :: st)) : PW X S (mst M 3 V) pc ls (rv S 3 0 0 :: st) := gf_9_277 C h (by rw [mst_s]; exact kk)
theorem pf_9_277 {X : PX} {S : SW} {M : Mem} {cc : ByteArray} {f lo pc : Nat} {ls : List (Option Value)} {st : List Value} (C : Cx X S RX9 cc f lo) {v : Int} (hv : InR v) (h : decode cc pc = .ok (.putfield 277, 3)) (kk : PW X S (mst M 3 (vup (M 3) 0 0 33 v)) (pc + 3) ls st) : PW X S M pc ls (jv v :: rv S 3 0 0 :: st) := pw_putf (n := 33) (q := (1, 0, 0)) C (inT4 19 rfl rfl) iX9 rfl (by decide) rfl tyX9_ok nmX9 rfl (oM_0) rfl rfl rfl rfl hv h kk
theorem pv_9_277 {X : PX} {S : SW} {M : Mem} {cc : ByteArray} {f lo pc : Nat} {ls : List (Option Value)} {st : List Value} {V : DM} (C : Cx X S RX9 cc f lo) {v : Int} (hv : InR v) (h : decode cc pc = .ok (.putfield 277, 3)) (kk : PW X S (mst M 3 (vup V 0 0 33 v)) (pc + 3) ls st) : PW X S (mst M 3 V) pc ls (jv v :: rv S 3 0 0 :: st) := pf_9_277 C hv h (by rw [mst_m, mst_s]; exact kk)
theorem gf_9_73 {X : PX} {S : SW} {M : Mem} {cc : ByteArray} {f lo pc : Nat} {ls : List (Option Value)} {st : List Value} (C : Cx X S RX9 cc f lo) (h : decode cc pc = .ok (.getfield 73, 3)) (kk : PW X S M (pc + 3) ls (rv S 3 35 0 :: st)) : PW X S M pc ls (rv S 3 0 0 :: st) := pw_getf (n := 34) C (inT4 20 rfl rfl) iX9 rfl (by decide) rfl (oM_0) rfl h (fun _ => kk)
theorem gf_9_76 {X : PX} {S : SW} {M : Mem} {cc : ByteArray} {f lo pc : Nat} {ls : List (Option Value)} {st : List Value} (C : Cx X S RX9 cc f lo) (h : decode cc pc = .ok (.getfield 76, 3)) (kk : PW X S M (pc + 3) ls (rv S 3 36 0 :: st)) : PW X S M pc ls (rv S 3 0 0 :: st) := pw_getf (n := 35) C (inT4 21 rfl rfl) iX9 rfl (by decide) rfl (oM_0) rfl h (fun _ => kk)
theorem gf_9_79 {X : PX} {S : SW} {M : Mem} {cc : ByteArray} {f lo pc : Nat} {ls : List (Option Value)} {st : List Value} (C : Cx X S RX9 cc f lo) (h : decode cc pc = .ok (.getfield 79, 3)) (kk : PW X S M (pc + 3) ls (rv S 3 37 0 :: st)) : PW X S M pc ls (rv S 3 0 0 :: st) := pw_getf (n := 36) C (inT4 22 rfl rfl) iX9 rfl (by decide) rfl (oM_0) rfl h (fun _ => kk)
theorem gf_9_82 {X : PX} {S : SW} {M : Mem} {cc : ByteArray} {f lo pc : Nat} {ls : List (Option Value)} {st : List Value} (C : Cx X S RX9 cc f lo) (h : decode cc pc = .ok (.getfield 82, 3)) (kk : PW X S M (pc + 3) ls (rv S 3 38 0 :: st)) : PW X S M pc ls (rv S 3 0 0 :: st) := pw_getf (n := 37) C (inT4 23 rfl rfl) iX9 rfl (by decide) rfl (oM_0) rfl h (fun _ => kk)
theorem gf_9_290 {X : PX} {S : SW} {M : Mem} {cc : ByteArray} {f lo pc : Nat} {ls : List (Option Value)} {st : List Value} (C : Cx X S RX9 cc f lo) (h : decode cc pc = .ok (.getfield 290, 3)) (kk : InR (M 3 0 0 38) → PW X S M (pc + 3) ls (iv (M 3 0 0 38) :: st)) : PW X S M pc ls (rv S 3 0 0 :: st) := pw_getf (n := 38) C (inT4 24 rfl rfl) iX9 rfl (by decide) rfl (oM_0) rfl h kk
theorem gv_9_290 {X : PX} {S : SW} {M : Mem} {cc : ByteArray} {f lo pc : Nat} {ls : List (Option Value)} {st : List Value} {V : DM} (C : Cx X S RX9 cc f lo) (h : decode cc pc = .ok (.getfield 290, 3)) (kk : InR (V 0 0 38) → PW X S (mst M 3 V) (pc + 3) ls (iv (V 0 0 38) :: st)) : PW X S (mst M 3 V) pc ls (rv S 3 0 0 :: st) := gf_9_290 C h (by rw [mst_s]; exact kk)
theorem pf_9_290 {X : PX} {S : SW} {M : Mem} {cc : ByteArray} {f lo pc : Nat} {ls : List (Option Value)} {st : List Value} (C : Cx X S RX9 cc f lo) {v : Int} (hv : InR v) (h : decode cc pc = .ok (.putfield 290, 3)) (kk : PW X S (mst M 3 (vup (M 3) 0 0 38 v)) (pc + 3) ls st) : PW X S M pc ls (iv v :: rv S 3 0 0 :: st) := pw_putf (n := 38) (q := (0, 0, 0)) C (inT4 24 rfl rfl) iX9 rfl (by decide) rfl tyX9_ok nmX9 rfl (oM_0) rfl rfl rfl rfl hv h kk
theorem pv_9_290 {X : PX} {S : SW} {M : Mem} {cc : ByteArray} {f lo pc : Nat} {ls : List (Option Value)} {st : List Value} {V : DM} (C : Cx X S RX9 cc f lo) {v : Int} (hv : InR v) (h : decode cc pc = .ok (.putfield 290, 3)) (kk : PW X S (mst M 3 (vup V 0 0 38 v)) (pc + 3) ls st) : PW X S (mst M 3 V) pc ls (iv v :: rv S 3 0 0 :: st) := pf_9_290 C hv h (by rw [mst_m, mst_s]; exact kk)
theorem cpy_8_125 : CPY RX8 125 := ⟨(inT2 118 rfl rfl), (inT2 120 rfl rfl), (inT2 119 rfl rfl), (inT1 11 rfl rfl)⟩
theorem cpy_6_45 : CPY RX6 45 := ⟨(inT3 1 rfl rfl), (inT2 120 rfl rfl), (inT2 119 rfl rfl), (inT1 11 rfl rfl)⟩
theorem cpy_0_28 : CPY RX0 28 := ⟨(inT3 6 rfl rfl), (inT2 120 rfl rfl), (inT2 119 rfl rfl), (inT1 11 rfl rfl)⟩
theorem mx_6_55 : MXX RX6 55 Lib.Math.max.name Lib.Math.max.code 2 .int := ⟨(inT3 22 rfl rfl), (inT3 23 rfl rfl), (inT1 12 rfl rfl), (inT3 24 rfl rfl)⟩
theorem cpy_4_98 : CPY RX4 98 := ⟨(inT3 41 rfl rfl), (inT2 120 rfl rfl), (inT2 119 rfl rfl), (inT1 11 rfl rfl)⟩
theorem mx_3_30 : MXX RX3 30 Lib.Math.min.name Lib.Math.min.code 2 .int := ⟨(inT3 84 rfl rfl), (inT3 85 rfl rfl), (inT1 12 rfl rfl), (inT3 86 rfl rfl)⟩
theorem mx_8_321 : MXX RX8 321 Lib.MathLoose.abs_long.x Lib.MathLoose.abs_long.code 2 .long := ⟨(inT3 90 rfl rfl), (inT3 91 rfl rfl), (inT1 12 rfl rfl), (inT3 92 rfl rfl)⟩
end
