/-- a private method of a class that the tables say can be made, by its rows of tables_1 -/
def lw_okq (q : MethodName × Nat) : Prop := (q.1.cls ≠ "java/lang/invoke/MethodHandle" ∧ q.1.cls ≠ "java/lang/invoke/VarHandle") ∧ Cond.instantiable q.1.cls q.2 ∈ tables_1 ∧ Cond.privateMethod q.1 ∈ tables_1 ∧ Cond.instanceMethod q.1 ∈ tables_1
theorem lw_p0 : lw_okq (⟨"IceSlab", "lookAtCells", "(IIII)I"⟩, 7) := ⟨⟨by decide +kernel, by decide +kernel⟩, List.mem_of_getElem? (i := 14) (by decide +kernel), List.mem_of_getElem? (i := 281) (by decide +kernel), List.mem_of_getElem? (i := 282) (by decide +kernel)⟩
theorem lw_p1 : lw_okq (⟨"IceSlab", "faultOf", "(I)I"⟩, 7) := ⟨⟨by decide +kernel, by decide +kernel⟩, List.mem_of_getElem? (i := 14) (by decide +kernel), List.mem_of_getElem? (i := 297) (by decide +kernel), List.mem_of_getElem? (i := 298) (by decide +kernel)⟩
theorem lw_p2 : lw_okq (⟨"IceSlab$Day", "liesDearer", "(II)Z"⟩, 13) := ⟨⟨by decide +kernel, by decide +kernel⟩, List.mem_of_getElem? (i := 22) (by decide +kernel), List.mem_of_getElem? (i := 403) (by decide +kernel), List.mem_of_getElem? (i := 404) (by decide +kernel)⟩
theorem lw_p3 : lw_okq (⟨"IceSlab$Day", "sellAllToCook", "()V"⟩, 13) := ⟨⟨by decide +kernel, by decide +kernel⟩, List.mem_of_getElem? (i := 22) (by decide +kernel), List.mem_of_getElem? (i := 416) (by decide +kernel), List.mem_of_getElem? (i := 417) (by decide +kernel)⟩
theorem lw_p4 : lw_okq (⟨"IceSlab$Day", "comes", "(II)Z"⟩, 13) := ⟨⟨by decide +kernel, by decide +kernel⟩, List.mem_of_getElem? (i := 22) (by decide +kernel), List.mem_of_getElem? (i := 420) (by decide +kernel), List.mem_of_getElem? (i := 421) (by decide +kernel)⟩
theorem lw_p5 : lw_okq (⟨"IceSlab$Day", "choiceOf", "(II)I"⟩, 13) := ⟨⟨by decide +kernel, by decide +kernel⟩, List.mem_of_getElem? (i := 22) (by decide +kernel), List.mem_of_getElem? (i := 424) (by decide +kernel), List.mem_of_getElem? (i := 425) (by decide +kernel)⟩
theorem lw_p6 : lw_okq (⟨"IceSlab$Day", "gainOf", "(III)I"⟩, 13) := ⟨⟨by decide +kernel, by decide +kernel⟩, List.mem_of_getElem? (i := 22) (by decide +kernel), List.mem_of_getElem? (i := 432) (by decide +kernel), List.mem_of_getElem? (i := 433) (by decide +kernel)⟩
theorem lw_p7 : lw_okq (⟨"IceSlab$Day", "sellOne", "(III)V"⟩, 13) := ⟨⟨by decide +kernel, by decide +kernel⟩, List.mem_of_getElem? (i := 22) (by decide +kernel), List.mem_of_getElem? (i := 437) (by decide +kernel), List.mem_of_getElem? (i := 438) (by decide +kernel)⟩
theorem lw_p8 : lw_okq (⟨"IceSlab$Search", "weighRow", "()V"⟩, 7) := ⟨⟨by decide +kernel, by decide +kernel⟩, List.mem_of_getElem? (i := 170) (by decide +kernel), List.mem_of_getElem? (i := 513) (by decide +kernel), List.mem_of_getElem? (i := 514) (by decide +kernel)⟩
theorem lw_p9 : lw_okq (⟨"IceSlab$Search", "isRaisedFirst", "()Z"⟩, 7) := ⟨⟨by decide +kernel, by decide +kernel⟩, List.mem_of_getElem? (i := 170) (by decide +kernel), List.mem_of_getElem? (i := 517) (by decide +kernel), List.mem_of_getElem? (i := 518) (by decide +kernel)⟩
theorem lw_p10 : lw_okq (⟨"IceSlab$Search", "goToNextRow", "()Z"⟩, 7) := ⟨⟨by decide +kernel, by decide +kernel⟩, List.mem_of_getElem? (i := 170) (by decide +kernel), List.mem_of_getElem? (i := 522) (by decide +kernel), List.mem_of_getElem? (i := 523) (by decide +kernel)⟩
theorem lw_p11 : lw_okq (⟨"IceSlab", "tellAsWaiting", "(I)I"⟩, 7) := ⟨⟨by decide +kernel, by decide +kernel⟩, List.mem_of_getElem? (i := 14) (by decide +kernel), List.mem_of_getElem? (i := 664) (by decide +kernel), List.mem_of_getElem? (i := 665) (by decide +kernel)⟩
theorem lw_p12 : lw_okq (⟨"IceSlab", "leaveTrace", "(I)V"⟩, 7) := ⟨⟨by decide +kernel, by decide +kernel⟩, List.mem_of_getElem? (i := 14) (by decide +kernel), List.mem_of_getElem? (i := 668) (by decide +kernel), List.mem_of_getElem? (i := 669) (by decide +kernel)⟩
theorem lw_p13 : lw_okq (⟨"IceSlab", "tellAsChoosing", "(I)I"⟩, 7) := ⟨⟨by decide +kernel, by decide +kernel⟩, List.mem_of_getElem? (i := 14) (by decide +kernel), List.mem_of_getElem? (i := 672) (by decide +kernel), List.mem_of_getElem? (i := 673) (by decide +kernel)⟩
theorem lw_p14 : lw_okq (⟨"IceSlab", "tellAsBuyer", "(I)I"⟩, 7) := ⟨⟨by decide +kernel, by decide +kernel⟩, List.mem_of_getElem? (i := 14) (by decide +kernel), List.mem_of_getElem? (i := 676) (by decide +kernel), List.mem_of_getElem? (i := 677) (by decide +kernel)⟩
theorem lw_p15 : lw_okq (⟨"IceSlabModel", "barred", "(IIIJ)I"⟩, 39) := ⟨⟨by decide +kernel, by decide +kernel⟩, List.mem_of_getElem? (i := 700) (by decide +kernel), List.mem_of_getElem? (i := 828) (by decide +kernel), List.mem_of_getElem? (i := 829) (by decide +kernel)⟩
def lw_privs_1 : List (MethodName × Nat) := [(⟨"IceSlab", "lookAtCells", "(IIII)I"⟩, 7), (⟨"IceSlab", "faultOf", "(I)I"⟩, 7), (⟨"IceSlab$Day", "liesDearer", "(II)Z"⟩, 13), (⟨"IceSlab$Day", "sellAllToCook", "()V"⟩, 13), (⟨"IceSlab$Day", "comes", "(II)Z"⟩, 13), (⟨"IceSlab$Day", "choiceOf", "(II)I"⟩, 13), (⟨"IceSlab$Day", "gainOf", "(III)I"⟩, 13), (⟨"IceSlab$Day", "sellOne", "(III)V"⟩, 13), (⟨"IceSlab$Search", "weighRow", "()V"⟩, 7), (⟨"IceSlab$Search", "isRaisedFirst", "()Z"⟩, 7), (⟨"IceSlab$Search", "goToNextRow", "()Z"⟩, 7), (⟨"IceSlab", "tellAsWaiting", "(I)I"⟩, 7), (⟨"IceSlab", "leaveTrace", "(I)V"⟩, 7), (⟨"IceSlab", "tellAsChoosing", "(I)I"⟩, 7), (⟨"IceSlab", "tellAsBuyer", "(I)I"⟩, 7), (⟨"IceSlabModel", "barred", "(IIIJ)I"⟩, 39)]
theorem lw_r1 : ∀ q ∈ lw_privs_1, lw_okq q := List.forall_mem_cons.mpr ⟨lw_p0, List.forall_mem_cons.mpr ⟨lw_p1, List.forall_mem_cons.mpr ⟨lw_p2, List.forall_mem_cons.mpr ⟨lw_p3, List.forall_mem_cons.mpr ⟨lw_p4, List.forall_mem_cons.mpr ⟨lw_p5, List.forall_mem_cons.mpr ⟨lw_p6, List.forall_mem_cons.mpr ⟨lw_p7, List.forall_mem_cons.mpr ⟨lw_p8, List.forall_mem_cons.mpr ⟨lw_p9, List.forall_mem_cons.mpr ⟨lw_p10, List.forall_mem_cons.mpr ⟨lw_p11, List.forall_mem_cons.mpr ⟨lw_p12, List.forall_mem_cons.mpr ⟨lw_p13, List.forall_mem_cons.mpr ⟨lw_p14, List.forall_mem_cons.mpr ⟨lw_p15, fun _ h => absurd h List.not_mem_nil⟩⟩⟩⟩⟩⟩⟩⟩⟩⟩⟩⟩⟩⟩⟩⟩
theorem lw_p16 : lw_okq (⟨"IceSlabModel", "refused", "(I)I"⟩, 39) := ⟨⟨by decide +kernel, by decide +kernel⟩, List.mem_of_getElem? (i := 700) (by decide +kernel), List.mem_of_getElem? (i := 839) (by decide +kernel), List.mem_of_getElem? (i := 840) (by decide +kernel)⟩
theorem lw_p17 : lw_okq (⟨"IceSlabModel", "failed", "(I)I"⟩, 39) := ⟨⟨by decide +kernel, by decide +kernel⟩, List.mem_of_getElem? (i := 700) (by decide +kernel), List.mem_of_getElem? (i := 844) (by decide +kernel), List.mem_of_getElem? (i := 845) (by decide +kernel)⟩
theorem lw_p18 : lw_okq (⟨"IceSlabModel", "readsStall", "(II)Z"⟩, 39) := ⟨⟨by decide +kernel, by decide +kernel⟩, List.mem_of_getElem? (i := 700) (by decide +kernel), List.mem_of_getElem? (i := 851) (by decide +kernel), List.mem_of_getElem? (i := 852) (by decide +kernel)⟩
theorem lw_p19 : lw_okq (⟨"IceSlabModel", "takes", "(III)Z"⟩, 39) := ⟨⟨by decide +kernel, by decide +kernel⟩, List.mem_of_getElem? (i := 700) (by decide +kernel), List.mem_of_getElem? (i := 855) (by decide +kernel), List.mem_of_getElem? (i := 856) (by decide +kernel)⟩
theorem lw_p20 : lw_okq (⟨"IceSlabModel", "readsFigure", "(IIII)Z"⟩, 39) := ⟨⟨by decide +kernel, by decide +kernel⟩, List.mem_of_getElem? (i := 700) (by decide +kernel), List.mem_of_getElem? (i := 859) (by decide +kernel), List.mem_of_getElem? (i := 860) (by decide +kernel)⟩
theorem lw_p21 : lw_okq (⟨"IceSlabModel", "readsSort", "(II)Z"⟩, 39) := ⟨⟨by decide +kernel, by decide +kernel⟩, List.mem_of_getElem? (i := 700) (by decide +kernel), List.mem_of_getElem? (i := 863) (by decide +kernel), List.mem_of_getElem? (i := 864) (by decide +kernel)⟩
theorem lw_p22 : lw_okq (⟨"IceSlabModel", "noSort", "(I)Z"⟩, 39) := ⟨⟨by decide +kernel, by decide +kernel⟩, List.mem_of_getElem? (i := 700) (by decide +kernel), List.mem_of_getElem? (i := 871) (by decide +kernel), List.mem_of_getElem? (i := 872) (by decide +kernel)⟩
theorem lw_p23 : lw_okq (⟨"IceSlabModel", "noHour", "(I)Z"⟩, 39) := ⟨⟨by decide +kernel, by decide +kernel⟩, List.mem_of_getElem? (i := 700) (by decide +kernel), List.mem_of_getElem? (i := 879) (by decide +kernel), List.mem_of_getElem? (i := 880) (by decide +kernel)⟩
theorem lw_p24 : lw_okq (⟨"IceSlabModel", "freshAt", "(II)I"⟩, 39) := ⟨⟨by decide +kernel, by decide +kernel⟩, List.mem_of_getElem? (i := 700) (by decide +kernel), List.mem_of_getElem? (i := 883) (by decide +kernel), List.mem_of_getElem? (i := 884) (by decide +kernel)⟩
theorem lw_p25 : lw_okq (⟨"IceSlabModel", "priceOf", "(II)I"⟩, 39) := ⟨⟨by decide +kernel, by decide +kernel⟩, List.mem_of_getElem? (i := 700) (by decide +kernel), List.mem_of_getElem? (i := 899) (by decide +kernel), List.mem_of_getElem? (i := 900) (by decide +kernel)⟩
theorem lw_p26 : lw_okq (⟨"IceSlabModel", "noBuyer", "(I)Z"⟩, 39) := ⟨⟨by decide +kernel, by decide +kernel⟩, List.mem_of_getElem? (i := 700) (by decide +kernel), List.mem_of_getElem? (i := 932) (by decide +kernel), List.mem_of_getElem? (i := 933) (by decide +kernel)⟩
theorem lw_p27 : lw_okq (⟨"IceSlabModel", "layAll", "()V"⟩, 39) := ⟨⟨by decide +kernel, by decide +kernel⟩, List.mem_of_getElem? (i := 700) (by decide +kernel), List.mem_of_getElem? (i := 940) (by decide +kernel), List.mem_of_getElem? (i := 941) (by decide +kernel)⟩
theorem lw_p28 : lw_okq (⟨"IceSlabModel", "worthOf", "(III)I"⟩, 39) := ⟨⟨by decide +kernel, by decide +kernel⟩, List.mem_of_getElem? (i := 700) (by decide +kernel), List.mem_of_getElem? (i := 944) (by decide +kernel), List.mem_of_getElem? (i := 945) (by decide +kernel)⟩
theorem lw_p29 : lw_okq (⟨"IceSlabModel", "hasDearer", "(II)Z"⟩, 39) := ⟨⟨by decide +kernel, by decide +kernel⟩, List.mem_of_getElem? (i := 700) (by decide +kernel), List.mem_of_getElem? (i := 948) (by decide +kernel), List.mem_of_getElem? (i := 949) (by decide +kernel)⟩
theorem lw_p30 : lw_okq (⟨"IceSlabModel", "goThrough", "(III)V"⟩, 39) := ⟨⟨by decide +kernel, by decide +kernel⟩, List.mem_of_getElem? (i := 700) (by decide +kernel), List.mem_of_getElem? (i := 956) (by decide +kernel), List.mem_of_getElem? (i := 957) (by decide +kernel)⟩
theorem lw_p31 : lw_okq (⟨"IceSlabModel", "sell", "(III)V"⟩, 39) := ⟨⟨by decide +kernel, by decide +kernel⟩, List.mem_of_getElem? (i := 700) (by decide +kernel), List.mem_of_getElem? (i := 960) (by decide +kernel), List.mem_of_getElem? (i := 961) (by decide +kernel)⟩
def lw_privs_2 : List (MethodName × Nat) := [(⟨"IceSlabModel", "refused", "(I)I"⟩, 39), (⟨"IceSlabModel", "failed", "(I)I"⟩, 39), (⟨"IceSlabModel", "readsStall", "(II)Z"⟩, 39), (⟨"IceSlabModel", "takes", "(III)Z"⟩, 39), (⟨"IceSlabModel", "readsFigure", "(IIII)Z"⟩, 39), (⟨"IceSlabModel", "readsSort", "(II)Z"⟩, 39), (⟨"IceSlabModel", "noSort", "(I)Z"⟩, 39), (⟨"IceSlabModel", "noHour", "(I)Z"⟩, 39), (⟨"IceSlabModel", "freshAt", "(II)I"⟩, 39), (⟨"IceSlabModel", "priceOf", "(II)I"⟩, 39), (⟨"IceSlabModel", "noBuyer", "(I)Z"⟩, 39), (⟨"IceSlabModel", "layAll", "()V"⟩, 39), (⟨"IceSlabModel", "worthOf", "(III)I"⟩, 39), (⟨"IceSlabModel", "hasDearer", "(II)Z"⟩, 39), (⟨"IceSlabModel", "goThrough", "(III)V"⟩, 39), (⟨"IceSlabModel", "sell", "(III)V"⟩, 39)]
theorem lw_r2 : ∀ q ∈ lw_privs_2, lw_okq q := List.forall_mem_cons.mpr ⟨lw_p16, List.forall_mem_cons.mpr ⟨lw_p17, List.forall_mem_cons.mpr ⟨lw_p18, List.forall_mem_cons.mpr ⟨lw_p19, List.forall_mem_cons.mpr ⟨lw_p20, List.forall_mem_cons.mpr ⟨lw_p21, List.forall_mem_cons.mpr ⟨lw_p22, List.forall_mem_cons.mpr ⟨lw_p23, List.forall_mem_cons.mpr ⟨lw_p24, List.forall_mem_cons.mpr ⟨lw_p25, List.forall_mem_cons.mpr ⟨lw_p26, List.forall_mem_cons.mpr ⟨lw_p27, List.forall_mem_cons.mpr ⟨lw_p28, List.forall_mem_cons.mpr ⟨lw_p29, List.forall_mem_cons.mpr ⟨lw_p30, List.forall_mem_cons.mpr ⟨lw_p31, fun _ h => absurd h List.not_mem_nil⟩⟩⟩⟩⟩⟩⟩⟩⟩⟩⟩⟩⟩⟩⟩⟩
theorem lw_p32 : lw_okq (⟨"IceSlabModel", "comes", "(II)V"⟩, 39) := ⟨⟨by decide +kernel, by decide +kernel⟩, List.mem_of_getElem? (i := 700) (by decide +kernel), List.mem_of_getElem? (i := 964) (by decide +kernel), List.mem_of_getElem? (i := 965) (by decide +kernel)⟩
theorem lw_p33 : lw_okq (⟨"IceSlabModel", "wanted", "(II)I"⟩, 39) := ⟨⟨by decide +kernel, by decide +kernel⟩, List.mem_of_getElem? (i := 700) (by decide +kernel), List.mem_of_getElem? (i := 968) (by decide +kernel), List.mem_of_getElem? (i := 969) (by decide +kernel)⟩
theorem lw_p34 : lw_okq (⟨"IceSlabModel", "isCheaperNext", "(II)Z"⟩, 39) := ⟨⟨by decide +kernel, by decide +kernel⟩, List.mem_of_getElem? (i := 700) (by decide +kernel), List.mem_of_getElem? (i := 972) (by decide +kernel), List.mem_of_getElem? (i := 973) (by decide +kernel)⟩
theorem lw_p35 : lw_okq (⟨"IceSlabModel", "gainOf", "(III)I"⟩, 39) := ⟨⟨by decide +kernel, by decide +kernel⟩, List.mem_of_getElem? (i := 700) (by decide +kernel), List.mem_of_getElem? (i := 976) (by decide +kernel), List.mem_of_getElem? (i := 977) (by decide +kernel)⟩
theorem lw_p36 : lw_okq (⟨"IceSlabModel", "allFish", "()I"⟩, 39) := ⟨⟨by decide +kernel, by decide +kernel⟩, List.mem_of_getElem? (i := 700) (by decide +kernel), List.mem_of_getElem? (i := 980) (by decide +kernel), List.mem_of_getElem? (i := 981) (by decide +kernel)⟩
theorem lw_p37 : lw_okq (⟨"IceSlabModel", "left", "()I"⟩, 39) := ⟨⟨by decide +kernel, by decide +kernel⟩, List.mem_of_getElem? (i := 700) (by decide +kernel), List.mem_of_getElem? (i := 984) (by decide +kernel), List.mem_of_getElem? (i := 985) (by decide +kernel)⟩
theorem lw_p38 : lw_okq (⟨"IceSlabModel", "profitOf", "()I"⟩, 39) := ⟨⟨by decide +kernel, by decide +kernel⟩, List.mem_of_getElem? (i := 700) (by decide +kernel), List.mem_of_getElem? (i := 988) (by decide +kernel), List.mem_of_getElem? (i := 989) (by decide +kernel)⟩
theorem lw_p39 : lw_okq (⟨"IceSlabModel", "profit", "()I"⟩, 39) := ⟨⟨by decide +kernel, by decide +kernel⟩, List.mem_of_getElem? (i := 700) (by decide +kernel), List.mem_of_getElem? (i := 1004) (by decide +kernel), List.mem_of_getElem? (i := 1005) (by decide +kernel)⟩
theorem lw_p40 : lw_okq (⟨"IceSlabModel", "layFish", "(I)V"⟩, 39) := ⟨⟨by decide +kernel, by decide +kernel⟩, List.mem_of_getElem? (i := 700) (by decide +kernel), List.mem_of_getElem? (i := 1017) (by decide +kernel), List.mem_of_getElem? (i := 1018) (by decide +kernel)⟩
theorem lw_p41 : lw_okq (⟨"IceSlabModel", "weightsOf", "(II)I"⟩, 39) := ⟨⟨by decide +kernel, by decide +kernel⟩, List.mem_of_getElem? (i := 700) (by decide +kernel), List.mem_of_getElem? (i := 1038) (by decide +kernel), List.mem_of_getElem? (i := 1039) (by decide +kernel)⟩
theorem lw_p42 : lw_okq (⟨"IceSlabModel", "hadBy", "(IIIIII)J"⟩, 39) := ⟨⟨by decide +kernel, by decide +kernel⟩, List.mem_of_getElem? (i := 700) (by decide +kernel), List.mem_of_getElem? (i := 1049) (by decide +kernel), List.mem_of_getElem? (i := 1050) (by decide +kernel)⟩
theorem lw_p43 : lw_okq (⟨"IceSlabModel", "takesGame", "(I)Z"⟩, 39) := ⟨⟨by decide +kernel, by decide +kernel⟩, List.mem_of_getElem? (i := 700) (by decide +kernel), List.mem_of_getElem? (i := 1069) (by decide +kernel), List.mem_of_getElem? (i := 1070) (by decide +kernel)⟩
theorem lw_p44 : lw_okq (⟨"IceSlabModel", "mixes", "(II)Z"⟩, 39) := ⟨⟨by decide +kernel, by decide +kernel⟩, List.mem_of_getElem? (i := 700) (by decide +kernel), List.mem_of_getElem? (i := 1078) (by decide +kernel), List.mem_of_getElem? (i := 1079) (by decide +kernel)⟩
theorem lw_p45 : lw_okq (⟨"IceSlabModel", "noCell", "(II)I"⟩, 39) := ⟨⟨by decide +kernel, by decide +kernel⟩, List.mem_of_getElem? (i := 700) (by decide +kernel), List.mem_of_getElem? (i := 1094) (by decide +kernel), List.mem_of_getElem? (i := 1095) (by decide +kernel)⟩
theorem lw_p46 : lw_okq (⟨"IceSlabModel", "failedLong", "(I)J"⟩, 39) := ⟨⟨by decide +kernel, by decide +kernel⟩, List.mem_of_getElem? (i := 700) (by decide +kernel), List.mem_of_getElem? (i := 1102) (by decide +kernel), List.mem_of_getElem? (i := 1103) (by decide +kernel)⟩
theorem lw_p47 : lw_okq (⟨"IceSlabModel", "traced", "(I)V"⟩, 39) := ⟨⟨by decide +kernel, by decide +kernel⟩, List.mem_of_getElem? (i := 700) (by decide +kernel), List.mem_of_getElem? (i := 1114) (by decide +kernel), List.mem_of_getElem? (i := 1115) (by decide +kernel)⟩
def lw_privs_3 : List (MethodName × Nat) := [(⟨"IceSlabModel", "comes", "(II)V"⟩, 39), (⟨"IceSlabModel", "wanted", "(II)I"⟩, 39), (⟨"IceSlabModel", "isCheaperNext", "(II)Z"⟩, 39), (⟨"IceSlabModel", "gainOf", "(III)I"⟩, 39), (⟨"IceSlabModel", "allFish", "()I"⟩, 39), (⟨"IceSlabModel", "left", "()I"⟩, 39), (⟨"IceSlabModel", "profitOf", "()I"⟩, 39), (⟨"IceSlabModel", "profit", "()I"⟩, 39), (⟨"IceSlabModel", "layFish", "(I)V"⟩, 39), (⟨"IceSlabModel", "weightsOf", "(II)I"⟩, 39), (⟨"IceSlabModel", "hadBy", "(IIIIII)J"⟩, 39), (⟨"IceSlabModel", "takesGame", "(I)Z"⟩, 39), (⟨"IceSlabModel", "mixes", "(II)Z"⟩, 39), (⟨"IceSlabModel", "noCell", "(II)I"⟩, 39), (⟨"IceSlabModel", "failedLong", "(I)J"⟩, 39), (⟨"IceSlabModel", "traced", "(I)V"⟩, 39)]
theorem lw_r3 : ∀ q ∈ lw_privs_3, lw_okq q := List.forall_mem_cons.mpr ⟨lw_p32, List.forall_mem_cons.mpr ⟨lw_p33, List.forall_mem_cons.mpr ⟨lw_p34, List.forall_mem_cons.mpr ⟨lw_p35, List.forall_mem_cons.mpr ⟨lw_p36, List.forall_mem_cons.mpr ⟨lw_p37, List.forall_mem_cons.mpr ⟨lw_p38, List.forall_mem_cons.mpr ⟨lw_p39, List.forall_mem_cons.mpr ⟨lw_p40, List.forall_mem_cons.mpr ⟨lw_p41, List.forall_mem_cons.mpr ⟨lw_p42, List.forall_mem_cons.mpr ⟨lw_p43, List.forall_mem_cons.mpr ⟨lw_p44, List.forall_mem_cons.mpr ⟨lw_p45, List.forall_mem_cons.mpr ⟨lw_p46, List.forall_mem_cons.mpr ⟨lw_p47, fun _ h => absurd h List.not_mem_nil⟩⟩⟩⟩⟩⟩⟩⟩⟩⟩⟩⟩⟩⟩⟩⟩
def lw_privs : List (MethodName × Nat) := lw_privs_1 ++ (lw_privs_2 ++ (lw_privs_3))
def lw_tbl : List Cond := k2_sels lw_privs ++ tables_1
theorem lw_privs_ok : ∀ q ∈ lw_privs, lw_okq q := by
  show ∀ q ∈ lw_privs_1 ++ (lw_privs_2 ++ (lw_privs_3)), lw_okq q
  exact List.forall_mem_append.mpr ⟨lw_r1, List.forall_mem_append.mpr ⟨lw_r2, lw_r3⟩⟩
theorem goodIn_r {big : List Cond} (ws : List Cond) (ps : List Nat) (hp : ws = ps.filterMap (fun i => big[i]?)) (h : ws.all goodWord = true) : GoodIn big ws := by
  intro w hw
  have h1 := List.all_eq_true.mp h w hw
  rw [hp] at hw
  obtain ⟨i, -, hi⟩ := List.mem_filterMap.mp hw
  have hm : w ∈ big := by first | exact List.mem_of_getElem? hi | exact List.getElem?_mem hi
  exact ⟨hm, good_of_word h1⟩
theorem goodIn_app {big a b : List Cond} (ha : GoodIn big a) (hb : GoodIn big b) : GoodIn big (a ++ b) := fun w h => (List.mem_append.mp h).elim (ha w) (hb w)
theorem goodIn_ca {big a b : List Cond} {c : Cond} (ha : GoodIn big (c :: a)) (hb : GoodIn big b) : GoodIn big (c :: (a ++ b)) := fun w h => (List.mem_cons.mp h).elim (fun e => ha w (List.mem_cons.mpr (Or.inl e))) (fun h => (List.mem_append.mp h).elim (fun h => ha w (List.mem_cons.mpr (Or.inr h))) (hb w))
theorem goodIn_sub {big ws : List Cond} (hm : ∀ w ∈ ws, w ∈ big) (h : ws.all goodWord = true) : GoodIn big ws := fun w hw => ⟨hm w hw, good_of_word (List.all_eq_true.mp h w hw)⟩
def vr_up {α : Type} (f : Nat → α) (l : List Nat) (v : α) : Nat → α := fun a => if a ∈ l then v else f a
theorem vr_up_in {α : Type} {f : Nat → α} {l : List Nat} {v : α} {a : Nat} (h : a ∈ l) : vr_up f l v a = v := if_pos h
theorem vr_up_ne {α : Type} {f : Nat → α} {l : List Nat} {v : α} {a : Nat} (h : a ∉ l) : vr_up f l v a = f a := if_neg h
theorem vr_rows {L l : List Nat} {f : Nat → va_E} {e : va_E} (h : ∀ a, a ∈ l → a ∉ L) : va_pl L f ++ l.map (fun a => (a, e)) = va_pl (L ++ l) (vr_up f l e) := by
  unfold va_pl
  rw [List.map_append]
  congr 1
  · apply List.map_congr_left
    intro a ha
    rw [vr_up_ne (fun q => h a q ha)]
  · apply List.map_congr_left
    intro a ha
    rw [vr_up_in ha]
theorem vr_lay {X rows : va_W} {x : Nat × va_E} {pl : va_W} {D : va_G} {cl : List vw_C} {H : Heap} (hP : va_P D cl (((X ++ pl) ++ [x]) ++ rows) H) : va_P D cl ((X ++ [x]) ++ (pl ++ rows)) H := by
  rw [List.append_assoc (X ++ pl)] at hP
  have h := va_P.swap hP
  rw [← List.append_assoc X] at h
  have h2 := va_P.swap h
  rw [List.append_assoc (X ++ [x])] at h2
  exact h2
theorem vr_layD {X rows : va_W} {x : Nat × va_E} {pl : va_W} {A : Nat → Prop} (hD : va_D A (((X ++ pl) ++ [x]) ++ rows)) : va_D A ((X ++ [x]) ++ (pl ++ rows)) := by
  rw [List.append_assoc (X ++ pl)] at hD
  have h := va_D.swap hD
  rw [← List.append_assoc X] at h
  have h2 := va_D.swap h
  rw [List.append_assoc (X ++ [x])] at h2
  exact h2
theorem vr_outer (c : ClassId) (N h0 : Nat) : ∀ i : Nat, Jvm.Free.Multi.outerC c N h0 i = arrV c N (fun j => va_rf (if j < i then some (h0 + 1 + j) else none))
  | 0 => by
    show ({ cls := c, slots := Array.replicate N .null, vm := .none } : Cell) = _
    rw [arrV_new]
    refine congrArg (arrV c N) (funext fun j => ?_)
    simp [va_rf]
  | i + 1 => by
    show (Jvm.Free.Multi.outerC c N h0 i).setSlot i (.ref (h0 + 1 + i)) = _
    rw [vr_outer c N h0 i, arrV_store]
    refine congrArg (arrV c N) (funext fun j => ?_)
    by_cases e : j = i
    · subst e
      simp [updV, va_rf]
    · by_cases h : j < i
      · simp [updV, e, h, Nat.lt_succ_of_lt h]
      · simp [updV, e, h, show ¬ j < i + 1 by omega]
def RX0 : String := "IceSlab$Buyers"
def TX0 : u_T := fun k => match k with
  | 0 => ("IceSlab$Buyers", "kind", "[I", true)
  | 1 => ("IceSlab$Buyers", "sort", "[I", true)
  | 2 => ("IceSlab$Buyers", "pays", "[I", true)
  | 3 => ("IceSlab$Buyers", "hour", "[I", true)
  | _ => ("IceSlab$Buyers", "count", "I", false)
def tyX0 : Nat → FieldType := fun k => match k with
  | 0 => .array .int
  | 1 => .array .int
  | 2 => .array .int
  | 3 => .array .int
  | _ => .int
theorem nmX0 : ∀ a, a < 5 → ∀ b, b < 5 → a ≠ b → (TX0 a).2.1 ≠ (TX0 b).2.1 := by decide +kernel
theorem tyX0_ok : ∀ k, k < 5 → parseFieldDescriptor (TX0 k).2.2.1 = some (tyX0 k) := by decide +kernel
abbrev cX0_init : ByteArray := prog_2_method_1_code
def yX0_init : MethodName := ⟨RX0, "<init>", "()V"⟩
abbrev cX0_has : ByteArray := prog_2_method_2_code
def yX0_has : MethodName := ⟨RX0, "has", "(I)Z"⟩
abbrev cX0_add : ByteArray := prog_2_method_3_code
def yX0_add : MethodName := ⟨RX0, "add", "(IIII)I"⟩
abbrev cX0_become : ByteArray := prog_2_method_4_code
def yX0_become : MethodName := ⟨RX0, "become", "(LIceSlab$Buyers;)V"⟩
def RX1 : String := "IceSlab$Day"
def TX1 : u_T := fun k => match k with
  | 0 => ("IceSlab$Day", "stall", "LIceSlab$Stall;", true)
  | 1 => ("IceSlab$Day", "buyers", "LIceSlab$Buyers;", true)
  | 2 => ("IceSlab$Day", "left", "[I", true)
  | 3 => ("IceSlab$Day", "gone", "[I", true)
  | 4 => ("IceSlab$Day", "paid", "[I", true)
  | 5 => ("IceSlab$Day", "tookSort", "[I", true)
  | 6 => ("IceSlab$Day", "tookHour", "[I", true)
  | 7 => ("IceSlab$Day", "tookFor", "[I", true)
  | 8 => ("IceSlab$Day", "came", "[I", true)
  | 9 => ("IceSlab$Day", "income", "I", false)
  | 10 => ("IceSlab$Day", "cookSort", "I", false)
  | 11 => ("IceSlab$Day", "cookHour", "I", false)
  | _ => ("IceSlab$Day", "cookPrice", "I", false)
def tyX1 : Nat → FieldType := fun k => match k with
  | 0 => .object "IceSlab$Stall"
  | 1 => .object "IceSlab$Buyers"
  | 2 => .array .int
  | 3 => .array .int
  | 4 => .array .int
  | 5 => .array .int
  | 6 => .array .int
  | 7 => .array .int
  | 8 => .array .int
  | 9 => .int
  | 10 => .int
  | 11 => .int
  | _ => .int
theorem nmX1 : ∀ a, a < 13 → ∀ b, b < 13 → a ≠ b → (TX1 a).2.1 ≠ (TX1 b).2.1 := by decide +kernel
theorem tyX1_ok : ∀ k, k < 13 → parseFieldDescriptor (TX1 k).2.2.1 = some (tyX1 k) := by decide +kernel
abbrev cX1_init : ByteArray := prog_3_method_1_code
def yX1_init : MethodName := ⟨RX1, "<init>", "()V"⟩
abbrev cX1_become : ByteArray := prog_3_method_2_code
def yX1_become : MethodName := ⟨RX1, "become", "(LIceSlab$Day;)V"⟩
abbrev cX1_awaitCook : ByteArray := prog_3_method_3_code
def yX1_awaitCook : MethodName := ⟨RX1, "awaitCook", "(III)V"⟩
abbrev cX1_open : ByteArray := prog_3_method_4_code
def yX1_open : MethodName := ⟨RX1, "open", "()V"⟩
abbrev cX1_goThrough : ByteArray := prog_3_method_5_code
def yX1_goThrough : MethodName := ⟨RX1, "goThrough", "()V"⟩
abbrev cX1_allLeft : ByteArray := prog_3_method_6_code
def yX1_allLeft : MethodName := ⟨RX1, "allLeft", "()I"⟩
abbrev cX1_profit : ByteArray := prog_3_method_7_code
def yX1_profit : MethodName := ⟨RX1, "profit", "()I"⟩
abbrev cX1_worthTo : ByteArray := prog_3_method_8_code
def yX1_worthTo : MethodName := ⟨RX1, "worthTo", "(III)I"⟩
abbrev cX1_liesDearer : ByteArray := prog_3_method_9_code
def yX1_liesDearer : MethodName := ⟨RX1, "liesDearer", "(II)Z"⟩
abbrev cX1_sellAllToCook : ByteArray := prog_3_method_10_code
def yX1_sellAllToCook : MethodName := ⟨RX1, "sellAllToCook", "()V"⟩
abbrev cX1_comes : ByteArray := prog_3_method_11_code
def yX1_comes : MethodName := ⟨RX1, "comes", "(II)Z"⟩
abbrev cX1_sellOne : ByteArray := prog_3_method_12_code
def yX1_sellOne : MethodName := ⟨RX1, "sellOne", "(III)V"⟩
abbrev cX1_choiceOf : ByteArray := prog_3_method_13_code
def yX1_choiceOf : MethodName := ⟨RX1, "choiceOf", "(II)I"⟩
abbrev cX1_gainOf : ByteArray := prog_3_method_14_code
def yX1_gainOf : MethodName := ⟨RX1, "gainOf", "(III)I"⟩
def RX2 : String := "IceSlab$Game"
def TX2 : u_T := fun k => match k with
  | 0 => ("IceSlab$Game", "seller", "[I", true)
  | _ => ("IceSlab$Game", "buyer", "[I", true)
def tyX2 : Nat → FieldType := fun k => match k with
  | 0 => .array .int
  | _ => .array .int
theorem nmX2 : ∀ a, a < 2 → ∀ b, b < 2 → a ≠ b → (TX2 a).2.1 ≠ (TX2 b).2.1 := by decide +kernel
theorem tyX2_ok : ∀ k, k < 2 → parseFieldDescriptor (TX2 k).2.2.1 = some (tyX2 k) := by decide +kernel
abbrev cX2_init : ByteArray := prog_4_method_1_code
def yX2_init : MethodName := ⟨RX2, "<init>", "()V"⟩
abbrev cX2_take : ByteArray := prog_4_method_2_code
def yX2_take : MethodName := ⟨RX2, "take", "([II)Z"⟩
abbrev cX2_restingBits : ByteArray := prog_4_method_3_code
def yX2_restingBits : MethodName := ⟨RX2, "restingBits", "()I"⟩
abbrev cX2_hasMixed : ByteArray := prog_4_method_4_code
def yX2_hasMixed : MethodName := ⟨RX2, "hasMixed", "()Z"⟩
abbrev cX2_takingOffUpper : ByteArray := prog_4_method_5_code
def yX2_takingOffUpper : MethodName := ⟨RX2, "takingOffUpper", "()I"⟩
abbrev cX2_takingOffLower : ByteArray := prog_4_method_6_code
def yX2_takingOffLower : MethodName := ⟨RX2, "takingOffLower", "()I"⟩
abbrev cX2_buyingUpper : ByteArray := prog_4_method_7_code
def yX2_buyingUpper : MethodName := ⟨RX2, "buyingUpper", "()I"⟩
abbrev cX2_buyingLower : ByteArray := prog_4_method_8_code
def yX2_buyingLower : MethodName := ⟨RX2, "buyingLower", "()I"⟩
abbrev cX2_isBetween : ByteArray := prog_4_method_9_code
def yX2_isBetween : MethodName := ⟨RX2, "isBetween", "(II)Z"⟩
def RX3 : String := "IceSlab$Odds"
def TX3 : u_T := fun k => match k with
  | 0 => ("IceSlab$Odds", "weights", "[I", true)
  | 1 => ("IceSlab$Odds", "count", "I", false)
  | _ => ("IceSlab$Odds", "sum", "I", false)
def tyX3 : Nat → FieldType := fun k => match k with
  | 0 => .array .int
  | 1 => .int
  | _ => .int
theorem nmX3 : ∀ a, a < 3 → ∀ b, b < 3 → a ≠ b → (TX3 a).2.1 ≠ (TX3 b).2.1 := by decide +kernel
theorem tyX3_ok : ∀ k, k < 3 → parseFieldDescriptor (TX3 k).2.2.1 = some (tyX3 k) := by decide +kernel
abbrev cX3_init : ByteArray := prog_5_method_1_code
def yX3_init : MethodName := ⟨RX3, "<init>", "()V"⟩
abbrev cX3_take : ByteArray := prog_5_method_2_code
def yX3_take : MethodName := ⟨RX3, "take", "([III)Z"⟩
abbrev cX3_weighed : ByteArray := prog_5_method_3_code
def yX3_weighed : MethodName := ⟨RX3, "weighed", "(IIII)I"⟩
abbrev cX3_mostWorthwhile : ByteArray := prog_5_method_4_code
def yX3_mostWorthwhile : MethodName := ⟨RX3, "mostWorthwhile", "(III)I"⟩
def RX4 : String := "IceSlab$Search"
def TX4 : u_T := fun k => match k with
  | 0 => ("IceSlab$Search", "trial", "LIceSlab$Day;", true)
  | 1 => ("IceSlab$Search", "row", "[I", true)
  | 2 => ("IceSlab$Search", "ranOut", "[Z", true)
  | 3 => ("IceSlab$Search", "raised", "[I", true)
  | 4 => ("IceSlab$Search", "profit", "I", false)
  | 5 => ("IceSlab$Search", "hour", "I", false)
  | _ => ("IceSlab$Search", "amount", "I", false)
def tyX4 : Nat → FieldType := fun k => match k with
  | 0 => .object "IceSlab$Day"
  | 1 => .array .int
  | 2 => .array .boolean
  | 3 => .array .int
  | 4 => .int
  | 5 => .int
  | _ => .int
theorem nmX4 : ∀ a, a < 7 → ∀ b, b < 7 → a ≠ b → (TX4 a).2.1 ≠ (TX4 b).2.1 := by decide +kernel
theorem tyX4_ok : ∀ k, k < 7 → parseFieldDescriptor (TX4 k).2.2.1 = some (tyX4 k) := by decide +kernel
abbrev cX4_init : ByteArray := prog_6_method_1_code
def yX4_init : MethodName := ⟨RX4, "<init>", "()V"⟩
abbrev cX4_profitWithout : ByteArray := prog_6_method_2_code
def yX4_profitWithout : MethodName := ⟨RX4, "profitWithout", "(LIceSlab$Day;I)I"⟩
abbrev cX4_profitWithCook : ByteArray := prog_6_method_3_code
def yX4_profitWithCook : MethodName := ⟨RX4, "profitWithCook", "(LIceSlab$Day;III)I"⟩
abbrev cX4_findPrice : ByteArray := prog_6_method_4_code
def yX4_findPrice : MethodName := ⟨RX4, "findPrice", "(LIceSlab$Day;II)V"⟩
abbrev cX4_findTakingOff : ByteArray := prog_6_method_5_code
def yX4_findTakingOff : MethodName := ⟨RX4, "findTakingOff", "(LIceSlab$Day;)V"⟩
abbrev cX4_findFetched : ByteArray := prog_6_method_6_code
def yX4_findFetched : MethodName := ⟨RX4, "findFetched", "(LIceSlab$Day;)V"⟩
abbrev cX4_weighRow : ByteArray := prog_6_method_7_code
def yX4_weighRow : MethodName := ⟨RX4, "weighRow", "()V"⟩
abbrev cX4_isRaisedFirst : ByteArray := prog_6_method_8_code
def yX4_isRaisedFirst : MethodName := ⟨RX4, "isRaisedFirst", "()Z"⟩
abbrev cX4_goToNextRow : ByteArray := prog_6_method_9_code
def yX4_goToNextRow : MethodName := ⟨RX4, "goToNextRow", "()Z"⟩
def RX5 : String := "IceSlab$Sheets"
def TX5 : u_T := fun k => match k with
  | 0 => ("IceSlab$Sheets", "cells", "[[I", true)
  | 1 => ("IceSlab$Sheets", "lane", "[I", true)
  | _ => ("IceSlab$Sheets", "length", "[I", true)
def tyX5 : Nat → FieldType := fun k => match k with
  | 0 => .array (.array .int)
  | 1 => .array .int
  | _ => .array .int
theorem nmX5 : ∀ a, a < 3 → ∀ b, b < 3 → a ≠ b → (TX5 a).2.1 ≠ (TX5 b).2.1 := by decide +kernel
theorem tyX5_ok : ∀ k, k < 3 → parseFieldDescriptor (TX5 k).2.2.1 = some (tyX5 k) := by decide +kernel
abbrev cX5_init : ByteArray := prog_7_method_1_code
def yX5_init : MethodName := ⟨RX5, "<init>", "()V"⟩
abbrev cX5_cut : ByteArray := prog_7_method_2_code
def yX5_cut : MethodName := ⟨RX5, "cut", "(II)I"⟩
abbrev cX5_isThere : ByteArray := prog_7_method_3_code
def yX5_isThere : MethodName := ⟨RX5, "isThere", "(I)Z"⟩
abbrev cX5_isLane : ByteArray := prog_7_method_4_code
def yX5_isLane : MethodName := ⟨RX5, "isLane", "(I)Z"⟩
abbrev cX5_hasRow : ByteArray := prog_7_method_5_code
def yX5_hasRow : MethodName := ⟨RX5, "hasRow", "(I)Z"⟩
abbrev cX5_reaches : ByteArray := prog_7_method_6_code
def yX5_reaches : MethodName := ⟨RX5, "reaches", "(III)Z"⟩
abbrev cX5_give : ByteArray := prog_7_method_7_code
def yX5_give : MethodName := ⟨RX5, "give", "(III)V"⟩
def RX6 : String := "IceSlab$Stall"
def TX6 : u_T := fun k => match k with
  | 0 => ("IceSlab$Stall", "fish", "[I", true)
  | 1 => ("IceSlab$Stall", "cost", "[I", true)
  | 2 => ("IceSlab$Stall", "freshness", "[I", true)
  | 3 => ("IceSlab$Stall", "fades", "[I", true)
  | 4 => ("IceSlab$Stall", "prices", "[[I", true)
  | 5 => ("IceSlab$Stall", "hours", "I", false)
  | 6 => ("IceSlab$Stall", "sorts", "I", false)
  | 7 => ("IceSlab$Stall", "soup", "I", false)
  | _ => ("IceSlab$Stall", "beside", "Z", false)
def tyX6 : Nat → FieldType := fun k => match k with
  | 0 => .array .int
  | 1 => .array .int
  | 2 => .array .int
  | 3 => .array .int
  | 4 => .array (.array .int)
  | 5 => .int
  | 6 => .int
  | 7 => .int
  | _ => .boolean
theorem nmX6 : ∀ a, a < 9 → ∀ b, b < 9 → a ≠ b → (TX6 a).2.1 ≠ (TX6 b).2.1 := by decide +kernel
theorem tyX6_ok : ∀ k, k < 9 → parseFieldDescriptor (TX6 k).2.2.1 = some (tyX6 k) := by decide +kernel
abbrev cX6_init : ByteArray := prog_8_method_1_code
def yX6_init : MethodName := ⟨RX6, "<init>", "()V"⟩
abbrev cX6_readText : ByteArray := prog_8_method_2_code
def yX6_readText : MethodName := ⟨RX6, "readText", "([III)V"⟩
abbrev cX6_become : ByteArray := prog_8_method_3_code
def yX6_become : MethodName := ⟨RX6, "become", "(LIceSlab$Stall;)V"⟩
abbrev cX6_isTold : ByteArray := prog_8_method_4_code
def yX6_isTold : MethodName := ⟨RX6, "isTold", "()Z"⟩
abbrev cX6_hasSort : ByteArray := prog_8_method_5_code
def yX6_hasSort : MethodName := ⟨RX6, "hasSort", "(I)Z"⟩
abbrev cX6_hasPlace : ByteArray := prog_8_method_6_code
def yX6_hasPlace : MethodName := ⟨RX6, "hasPlace", "(II)Z"⟩
abbrev cX6_freshAt : ByteArray := prog_8_method_7_code
def yX6_freshAt : MethodName := ⟨RX6, "freshAt", "(II)I"⟩
abbrev cX6_allFish : ByteArray := prog_8_method_8_code
def yX6_allFish : MethodName := ⟨RX6, "allFish", "()I"⟩
abbrev cX6_costOfAll : ByteArray := prog_8_method_9_code
def yX6_costOfAll : MethodName := ⟨RX6, "costOfAll", "()I"⟩
abbrev cX6_isCheaperNext : ByteArray := prog_8_method_10_code
def yX6_isCheaperNext : MethodName := ⟨RX6, "isCheaperNext", "(II)Z"⟩
abbrev cX6_takeOffFrom : ByteArray := prog_8_method_11_code
def yX6_takeOffFrom : MethodName := ⟨RX6, "takeOffFrom", "(LIceSlab$Stall;II)V"⟩
def RX7 : String := "IceSlab$Text"
def TX7 : u_T := fun k => match k with
  | _ => ("", "", "", false)
def tyX7 : Nat → FieldType := fun k => match k with
  | _ => .int
theorem nmX7 : ∀ a, a < 0 → ∀ b, b < 0 → a ≠ b → (TX7 a).2.1 ≠ (TX7 b).2.1 := by decide +kernel
theorem tyX7_ok : ∀ k, k < 0 → parseFieldDescriptor (TX7 k).2.2.1 = some (tyX7 k) := by decide +kernel
abbrev cX7_firstFault : ByteArray := prog_9_method_2_code
def yX7_firstFault : MethodName := ⟨RX7, "firstFault", "([III)I"⟩
abbrev cX7_goesOn : ByteArray := prog_9_method_3_code
def yX7_goesOn : MethodName := ⟨RX7, "goesOn", "(II)Z"⟩
def RX8 : String := "IceSlab"
def TX8 : u_T := fun k => match k with
  | 0 => ("IceSlab", "today", "LIceSlab$Day;", true)
  | 1 => ("IceSlab", "search", "LIceSlab$Search;", true)
  | 2 => ("IceSlab", "sheets", "LIceSlab$Sheets;", true)
  | 3 => ("IceSlab", "odds", "LIceSlab$Odds;", true)
  | 4 => ("IceSlab", "game", "LIceSlab$Game;", true)
  | 5 => ("IceSlab", "trace", "I", false)
  | _ => ("IceSlab", "fault", "I", false)
def tyX8 : Nat → FieldType := fun k => match k with
  | 0 => .object "IceSlab$Day"
  | 1 => .object "IceSlab$Search"
  | 2 => .object "IceSlab$Sheets"
  | 3 => .object "IceSlab$Odds"
  | 4 => .object "IceSlab$Game"
  | 5 => .int
  | _ => .int
theorem nmX8 : ∀ a, a < 7 → ∀ b, b < 7 → a ≠ b → (TX8 a).2.1 ≠ (TX8 b).2.1 := by decide +kernel
theorem tyX8_ok : ∀ k, k < 7 → parseFieldDescriptor (TX8 k).2.2.1 = some (tyX8 k) := by decide +kernel
abbrev cX8_init : ByteArray := prog_1_method_1_code
def yX8_init : MethodName := ⟨RX8, "<init>", "()V"⟩
abbrev cX8_stall : ByteArray := prog_1_method_2_code
def yX8_stall : MethodName := ⟨RX8, "stall", "(IIII)I"⟩
abbrev cX8_ofSort : ByteArray := prog_1_method_3_code
def yX8_ofSort : MethodName := ⟨RX8, "ofSort", "(II)I"⟩
abbrev cX8_fresh : ByteArray := prog_1_method_4_code
def yX8_fresh : MethodName := ⟨RX8, "fresh", "(II)I"⟩
abbrev cX8_fish : ByteArray := prog_1_method_5_code
def yX8_fish : MethodName := ⟨RX8, "fish", "(II)I"⟩
abbrev cX8_slate : ByteArray := prog_1_method_6_code
def yX8_slate : MethodName := ⟨RX8, "slate", "(II)I"⟩
abbrev cX8_write : ByteArray := prog_1_method_7_code
def yX8_write : MethodName := ⟨RX8, "write", "(III)I"⟩
abbrev cX8_copyOut : ByteArray := prog_1_method_8_code
def yX8_copyOut : MethodName := ⟨RX8, "copyOut", "(IIIII)I"⟩
abbrev cX8_soup : ByteArray := prog_1_method_9_code
def yX8_soup : MethodName := ⟨RX8, "soup", "(I)I"⟩
abbrev cX8_beside : ByteArray := prog_1_method_10_code
def yX8_beside : MethodName := ⟨RX8, "beside", "(Z)I"⟩
abbrev cX8_buyer : ByteArray := prog_1_method_11_code
def yX8_buyer : MethodName := ⟨RX8, "buyer", "(IIII)I"⟩
abbrev cX8_ofBuyer : ByteArray := prog_1_method_12_code
def yX8_ofBuyer : MethodName := ⟨RX8, "ofBuyer", "(II)I"⟩
abbrev cX8_worth : ByteArray := prog_1_method_13_code
def yX8_worth : MethodName := ⟨RX8, "worth", "(III)I"⟩
abbrev cX8_day : ByteArray := prog_1_method_14_code
def yX8_day : MethodName := ⟨RX8, "day", "(I)I"⟩
abbrev cX8_bought : ByteArray := prog_1_method_15_code
def yX8_bought : MethodName := ⟨RX8, "bought", "(II)I"⟩
abbrev cX8_sold : ByteArray := prog_1_method_16_code
def yX8_sold : MethodName := ⟨RX8, "sold", "(II)I"⟩
abbrev cX8_best : ByteArray := prog_1_method_17_code
def yX8_best : MethodName := ⟨RX8, "best", "(III)I"⟩
abbrev cX8_takeOff : ByteArray := prog_1_method_18_code
def yX8_takeOff : MethodName := ⟨RX8, "takeOff", "(I)I"⟩
abbrev cX8_fetch : ByteArray := prog_1_method_19_code
def yX8_fetch : MethodName := ⟨RX8, "fetch", "(I)I"⟩
abbrev cX8_carried : ByteArray := prog_1_method_20_code
def yX8_carried : MethodName := ⟨RX8, "carried", "(I)I"⟩
abbrev cX8_cook : ByteArray := prog_1_method_21_code
def yX8_cook : MethodName := ⟨RX8, "cook", "(III)I"⟩
abbrev cX8_mean : ByteArray := prog_1_method_22_code
def yX8_mean : MethodName := ⟨RX8, "mean", "(IIIIIIIII)J"⟩
abbrev cX8_howMany : ByteArray := prog_1_method_23_code
def yX8_howMany : MethodName := ⟨RX8, "howMany", "(IIIIIII)I"⟩
abbrev cX8_right : ByteArray := prog_1_method_24_code
def yX8_right : MethodName := ⟨RX8, "right", "(III)J"⟩
abbrev cX8_rests : ByteArray := prog_1_method_25_code
def yX8_rests : MethodName := ⟨RX8, "rests", "(III)I"⟩
abbrev cX8_mixed : ByteArray := prog_1_method_26_code
def yX8_mixed : MethodName := ⟨RX8, "mixed", "(IIIII)J"⟩
abbrev cX8_sheet : ByteArray := prog_1_method_27_code
def yX8_sheet : MethodName := ⟨RX8, "sheet", "(III)I"⟩
abbrev cX8_lose : ByteArray := prog_1_method_28_code
def yX8_lose : MethodName := ⟨RX8, "lose", "(I)I"⟩
abbrev cX8_put : ByteArray := prog_1_method_29_code
def yX8_put : MethodName := ⟨RX8, "put", "(III)I"⟩
abbrev cX8_cell : ByteArray := prog_1_method_30_code
def yX8_cell : MethodName := ⟨RX8, "cell", "(III)J"⟩
abbrev cX8_copy : ByteArray := prog_1_method_31_code
def yX8_copy : MethodName := ⟨RX8, "copy", "(IIIII)I"⟩
abbrev cX8_tell : ByteArray := prog_1_method_32_code
def yX8_tell : MethodName := ⟨RX8, "tell", "(I)I"⟩
abbrev cX8_greet : ByteArray := prog_1_method_33_code
def yX8_greet : MethodName := ⟨RX8, "greet", "(I)I"⟩
abbrev cX8_as : ByteArray := prog_1_method_34_code
def yX8_as : MethodName := ⟨RX8, "as", "(II)I"⟩
abbrev cX8_trace : ByteArray := prog_1_method_35_code
def yX8_trace : MethodName := ⟨RX8, "trace", "()I"⟩
abbrev cX8_fault : ByteArray := prog_1_method_36_code
def yX8_fault : MethodName := ⟨RX8, "fault", "()I"⟩
abbrev cX8_many : ByteArray := prog_1_method_37_code
def yX8_many : MethodName := ⟨RX8, "many", "(I)I"⟩
abbrev cX8_tellAsBuyer : ByteArray := prog_1_method_38_code
def yX8_tellAsBuyer : MethodName := ⟨RX8, "tellAsBuyer", "(I)I"⟩
abbrev cX8_tellAsChoosing : ByteArray := prog_1_method_39_code
def yX8_tellAsChoosing : MethodName := ⟨RX8, "tellAsChoosing", "(I)I"⟩
abbrev cX8_tellAsWaiting : ByteArray := prog_1_method_40_code
def yX8_tellAsWaiting : MethodName := ⟨RX8, "tellAsWaiting", "(I)I"⟩
abbrev cX8_leaveTrace : ByteArray := prog_1_method_41_code
def yX8_leaveTrace : MethodName := ⟨RX8, "leaveTrace", "(I)V"⟩
abbrev cX8_faultOf : ByteArray := prog_1_method_42_code
def yX8_faultOf : MethodName := ⟨RX8, "faultOf", "(I)I"⟩
abbrev cX8_lookAtCells : ByteArray := prog_1_method_43_code
def yX8_lookAtCells : MethodName := ⟨RX8, "lookAtCells", "(IIII)I"⟩
abbrev cX8_isWithin : ByteArray := prog_1_method_44_code
def yX8_isWithin : MethodName := ⟨RX8, "isWithin", "(III)Z"⟩
abbrev cX8_areMoney : ByteArray := prog_1_method_45_code
def yX8_areMoney : MethodName := ⟨RX8, "areMoney", "(III)Z"⟩
abbrev cX8_areAllWithin : ByteArray := prog_1_method_46_code
def yX8_areAllWithin : MethodName := ⟨RX8, "areAllWithin", "([IIIII)Z"⟩
abbrev cX8_partOfShare : ByteArray := prog_1_method_47_code
def yX8_partOfShare : MethodName := ⟨RX8, "partOfShare", "(JJI)J"⟩
abbrev cX8_commonDivisor : ByteArray := prog_1_method_48_code
def yX8_commonDivisor : MethodName := ⟨RX8, "commonDivisor", "(JJ)J"⟩
def RX9 : String := "IceSlabModel"
def TX9 : u_T := fun k => match k with
  | 0 => ("IceSlabModel", "fault", "I", false)
  | 1 => ("IceSlabModel", "hours", "I", false)
  | 2 => ("IceSlabModel", "sorts", "I", false)
  | 3 => ("IceSlabModel", "fishOf", "[I", true)
  | 4 => ("IceSlabModel", "costOf", "[I", true)
  | 5 => ("IceSlabModel", "freshOf", "[I", true)
  | 6 => ("IceSlabModel", "fades", "[I", true)
  | 7 => ("IceSlabModel", "slateOf", "[I", true)
  | 8 => ("IceSlabModel", "soupNow", "I", false)
  | 9 => ("IceSlabModel", "besideNow", "Z", false)
  | 10 => ("IceSlabModel", "readAt", "I", false)
  | 11 => ("IceSlabModel", "readValue", "I", false)
  | 12 => ("IceSlabModel", "readHours", "I", false)
  | 13 => ("IceSlabModel", "readSorts", "I", false)
  | 14 => ("IceSlabModel", "readNumber", "[I", true)
  | 15 => ("IceSlabModel", "buyers", "I", false)
  | 16 => ("IceSlabModel", "kindOf", "[I", true)
  | 17 => ("IceSlabModel", "sortOf", "[I", true)
  | 18 => ("IceSlabModel", "paysOf", "[I", true)
  | 19 => ("IceSlabModel", "hourOf", "[I", true)
  | 20 => ("IceSlabModel", "lies", "[I", true)
  | 21 => ("IceSlabModel", "income", "I", false)
  | 22 => ("IceSlabModel", "boughtSort", "[I", true)
  | 23 => ("IceSlabModel", "boughtHour", "[I", true)
  | 24 => ("IceSlabModel", "boughtFor", "[I", true)
  | 25 => ("IceSlabModel", "came", "[I", true)
  | 26 => ("IceSlabModel", "goneAt", "[I", true)
  | 27 => ("IceSlabModel", "paidFor", "[I", true)
  | 28 => ("IceSlabModel", "slateWas", "[I", true)
  | 29 => ("IceSlabModel", "fishWas", "[I", true)
  | 30 => ("IceSlabModel", "sellers", "[I", true)
  | 31 => ("IceSlabModel", "buys", "[I", true)
  | 32 => ("IceSlabModel", "mixUp", "J", false)
  | 33 => ("IceSlabModel", "mixDown", "J", false)
  | 34 => ("IceSlabModel", "sheetSize", "[I", true)
  | 35 => ("IceSlabModel", "sheetLane", "[I", true)
  | 36 => ("IceSlabModel", "sheet", "[I", true)
  | 37 => ("IceSlabModel", "hands", "[I", true)
  | _ => ("IceSlabModel", "traceNow", "I", false)
def tyX9 : Nat → FieldType := fun k => match k with
  | 0 => .int
  | 1 => .int
  | 2 => .int
  | 3 => .array .int
  | 4 => .array .int
  | 5 => .array .int
  | 6 => .array .int
  | 7 => .array .int
  | 8 => .int
  | 9 => .boolean
  | 10 => .int
  | 11 => .int
  | 12 => .int
  | 13 => .int
  | 14 => .array .int
  | 15 => .int
  | 16 => .array .int
  | 17 => .array .int
  | 18 => .array .int
  | 19 => .array .int
  | 20 => .array .int
  | 21 => .int
  | 22 => .array .int
  | 23 => .array .int
  | 24 => .array .int
  | 25 => .array .int
  | 26 => .array .int
  | 27 => .array .int
  | 28 => .array .int
  | 29 => .array .int
  | 30 => .array .int
  | 31 => .array .int
  | 32 => .long
  | 33 => .long
  | 34 => .array .int
  | 35 => .array .int
  | 36 => .array .int
  | 37 => .array .int
  | _ => .int
theorem nmX9 : ∀ a, a < 39 → ∀ b, b < 39 → a ≠ b → (TX9 a).2.1 ≠ (TX9 b).2.1 := by decide +kernel
theorem tyX9_ok : ∀ k, k < 39 → parseFieldDescriptor (TX9 k).2.2.1 = some (tyX9 k) := by decide +kernel
abbrev cX9_init : ByteArray := prog_11_method_1_code
def yX9_init : MethodName := ⟨RX9, "<init>", "()V"⟩
abbrev cX9_in : ByteArray := prog_11_method_2_code
def yX9_in : MethodName := ⟨RX9, "in", "(JJJ)Z"⟩
abbrev cX9_lost : ByteArray := prog_11_method_3_code
def yX9_lost : MethodName := ⟨RX9, "lost", "()J"⟩
abbrev cX9_greater : ByteArray := prog_11_method_4_code
def yX9_greater : MethodName := ⟨RX9, "greater", "(II)I"⟩
abbrev cX9_told : ByteArray := prog_11_method_5_code
def yX9_told : MethodName := ⟨RX9, "told", "(JJI)J"⟩
abbrev cX9_isWhich : ByteArray := prog_11_method_6_code
def yX9_isWhich : MethodName := ⟨RX9, "isWhich", "(I)Z"⟩
abbrev cX9_refused : ByteArray := prog_11_method_7_code
def yX9_refused : MethodName := ⟨RX9, "refused", "(I)I"⟩
abbrev cX9_failed : ByteArray := prog_11_method_8_code
def yX9_failed : MethodName := ⟨RX9, "failed", "(I)I"⟩
abbrev cX9_failedLong : ByteArray := prog_11_method_9_code
def yX9_failedLong : MethodName := ⟨RX9, "failedLong", "(I)J"⟩
abbrev cX9_barred : ByteArray := prog_11_method_10_code
def yX9_barred : MethodName := ⟨RX9, "barred", "(IIIJ)I"⟩
abbrev cX9_noSort : ByteArray := prog_11_method_11_code
def yX9_noSort : MethodName := ⟨RX9, "noSort", "(I)Z"⟩
abbrev cX9_noHour : ByteArray := prog_11_method_12_code
def yX9_noHour : MethodName := ⟨RX9, "noHour", "(I)Z"⟩
abbrev cX9_takes : ByteArray := prog_11_method_13_code
def yX9_takes : MethodName := ⟨RX9, "takes", "(III)Z"⟩
abbrev cX9_readsFigure : ByteArray := prog_11_method_14_code
def yX9_readsFigure : MethodName := ⟨RX9, "readsFigure", "(IIII)Z"⟩
abbrev cX9_readsSort : ByteArray := prog_11_method_15_code
def yX9_readsSort : MethodName := ⟨RX9, "readsSort", "(II)Z"⟩
abbrev cX9_readsStall : ByteArray := prog_11_method_16_code
def yX9_readsStall : MethodName := ⟨RX9, "readsStall", "(II)Z"⟩
abbrev cX9_stall : ByteArray := prog_11_method_17_code
def yX9_stall : MethodName := ⟨RX9, "stall", "(IIII)I"⟩
abbrev cX9_ofSort : ByteArray := prog_11_method_18_code
def yX9_ofSort : MethodName := ⟨RX9, "ofSort", "(II)I"⟩
abbrev cX9_freshAt : ByteArray := prog_11_method_19_code
def yX9_freshAt : MethodName := ⟨RX9, "freshAt", "(II)I"⟩
abbrev cX9_fresh : ByteArray := prog_11_method_20_code
def yX9_fresh : MethodName := ⟨RX9, "fresh", "(II)I"⟩
abbrev cX9_fish : ByteArray := prog_11_method_21_code
def yX9_fish : MethodName := ⟨RX9, "fish", "(II)I"⟩
abbrev cX9_priceOf : ByteArray := prog_11_method_22_code
def yX9_priceOf : MethodName := ⟨RX9, "priceOf", "(II)I"⟩
abbrev cX9_isPrice : ByteArray := prog_11_method_23_code
def yX9_isPrice : MethodName := ⟨RX9, "isPrice", "(I)Z"⟩
abbrev cX9_slate : ByteArray := prog_11_method_24_code
def yX9_slate : MethodName := ⟨RX9, "slate", "(II)I"⟩
abbrev cX9_write : ByteArray := prog_11_method_25_code
def yX9_write : MethodName := ⟨RX9, "write", "(III)I"⟩
abbrev cX9_copyOut : ByteArray := prog_11_method_26_code
def yX9_copyOut : MethodName := ⟨RX9, "copyOut", "(IIIII)I"⟩
abbrev cX9_soup : ByteArray := prog_11_method_27_code
def yX9_soup : MethodName := ⟨RX9, "soup", "(I)I"⟩
abbrev cX9_beside : ByteArray := prog_11_method_28_code
def yX9_beside : MethodName := ⟨RX9, "beside", "(Z)I"⟩
abbrev cX9_noBuyer : ByteArray := prog_11_method_29_code
def yX9_noBuyer : MethodName := ⟨RX9, "noBuyer", "(I)Z"⟩
abbrev cX9_buyer : ByteArray := prog_11_method_30_code
def yX9_buyer : MethodName := ⟨RX9, "buyer", "(IIII)I"⟩
abbrev cX9_ofBuyer : ByteArray := prog_11_method_31_code
def yX9_ofBuyer : MethodName := ⟨RX9, "ofBuyer", "(II)I"⟩
abbrev cX9_layAll : ByteArray := prog_11_method_32_code
def yX9_layAll : MethodName := ⟨RX9, "layAll", "()V"⟩
abbrev cX9_hasDearer : ByteArray := prog_11_method_33_code
def yX9_hasDearer : MethodName := ⟨RX9, "hasDearer", "(II)Z"⟩
abbrev cX9_worthOf : ByteArray := prog_11_method_34_code
def yX9_worthOf : MethodName := ⟨RX9, "worthOf", "(III)I"⟩
abbrev cX9_worth : ByteArray := prog_11_method_35_code
def yX9_worth : MethodName := ⟨RX9, "worth", "(III)I"⟩
abbrev cX9_gainOf : ByteArray := prog_11_method_36_code
def yX9_gainOf : MethodName := ⟨RX9, "gainOf", "(III)I"⟩
abbrev cX9_isCheaperNext : ByteArray := prog_11_method_37_code
def yX9_isCheaperNext : MethodName := ⟨RX9, "isCheaperNext", "(II)Z"⟩
abbrev cX9_wanted : ByteArray := prog_11_method_38_code
def yX9_wanted : MethodName := ⟨RX9, "wanted", "(II)I"⟩
abbrev cX9_sell : ByteArray := prog_11_method_39_code
def yX9_sell : MethodName := ⟨RX9, "sell", "(III)V"⟩
abbrev cX9_comes : ByteArray := prog_11_method_40_code
def yX9_comes : MethodName := ⟨RX9, "comes", "(II)V"⟩
abbrev cX9_goThrough : ByteArray := prog_11_method_41_code
def yX9_goThrough : MethodName := ⟨RX9, "goThrough", "(III)V"⟩
abbrev cX9_left : ByteArray := prog_11_method_42_code
def yX9_left : MethodName := ⟨RX9, "left", "()I"⟩
abbrev cX9_allFish : ByteArray := prog_11_method_43_code
def yX9_allFish : MethodName := ⟨RX9, "allFish", "()I"⟩
abbrev cX9_profitOf : ByteArray := prog_11_method_44_code
def yX9_profitOf : MethodName := ⟨RX9, "profitOf", "()I"⟩
abbrev cX9_profit : ByteArray := prog_11_method_45_code
def yX9_profit : MethodName := ⟨RX9, "profit", "()I"⟩
abbrev cX9_day : ByteArray := prog_11_method_46_code
def yX9_day : MethodName := ⟨RX9, "day", "(I)I"⟩
abbrev cX9_bought : ByteArray := prog_11_method_47_code
def yX9_bought : MethodName := ⟨RX9, "bought", "(II)I"⟩
abbrev cX9_sold : ByteArray := prog_11_method_48_code
def yX9_sold : MethodName := ⟨RX9, "sold", "(II)I"⟩
abbrev cX9_best : ByteArray := prog_11_method_49_code
def yX9_best : MethodName := ⟨RX9, "best", "(III)I"⟩
abbrev cX9_takeOff : ByteArray := prog_11_method_50_code
def yX9_takeOff : MethodName := ⟨RX9, "takeOff", "(I)I"⟩
abbrev cX9_layFish : ByteArray := prog_11_method_51_code
def yX9_layFish : MethodName := ⟨RX9, "layFish", "(I)V"⟩
abbrev cX9_fetch : ByteArray := prog_11_method_52_code
def yX9_fetch : MethodName := ⟨RX9, "fetch", "(I)I"⟩
abbrev cX9_carried : ByteArray := prog_11_method_53_code
def yX9_carried : MethodName := ⟨RX9, "carried", "(I)I"⟩
abbrev cX9_cook : ByteArray := prog_11_method_54_code
def yX9_cook : MethodName := ⟨RX9, "cook", "(III)I"⟩
abbrev cX9_isMoney : ByteArray := prog_11_method_55_code
def yX9_isMoney : MethodName := ⟨RX9, "isMoney", "(III)Z"⟩
abbrev cX9_weightsOf : ByteArray := prog_11_method_56_code
def yX9_weightsOf : MethodName := ⟨RX9, "weightsOf", "(II)I"⟩
abbrev cX9_hadBy : ByteArray := prog_11_method_57_code
def yX9_hadBy : MethodName := ⟨RX9, "hadBy", "(IIIIII)J"⟩
abbrev cX9_mean : ByteArray := prog_11_method_58_code
def yX9_mean : MethodName := ⟨RX9, "mean", "(IIIIIIIII)J"⟩
abbrev cX9_howMany : ByteArray := prog_11_method_59_code
def yX9_howMany : MethodName := ⟨RX9, "howMany", "(IIIIIII)I"⟩
abbrev cX9_right : ByteArray := prog_11_method_60_code
def yX9_right : MethodName := ⟨RX9, "right", "(III)J"⟩
abbrev cX9_takesGame : ByteArray := prog_11_method_61_code
def yX9_takesGame : MethodName := ⟨RX9, "takesGame", "(I)Z"⟩
abbrev cX9_rests : ByteArray := prog_11_method_62_code
def yX9_rests : MethodName := ⟨RX9, "rests", "(III)I"⟩
abbrev cX9_mixes : ByteArray := prog_11_method_63_code
def yX9_mixes : MethodName := ⟨RX9, "mixes", "(II)Z"⟩
abbrev cX9_mixed : ByteArray := prog_11_method_64_code
def yX9_mixed : MethodName := ⟨RX9, "mixed", "(IIIII)J"⟩
abbrev cX9_noSheet : ByteArray := prog_11_method_65_code
def yX9_noSheet : MethodName := ⟨RX9, "noSheet", "(I)Z"⟩
abbrev cX9_sheet : ByteArray := prog_11_method_66_code
def yX9_sheet : MethodName := ⟨RX9, "sheet", "(III)I"⟩
abbrev cX9_lose : ByteArray := prog_11_method_67_code
def yX9_lose : MethodName := ⟨RX9, "lose", "(I)I"⟩
abbrev cX9_noCell : ByteArray := prog_11_method_68_code
def yX9_noCell : MethodName := ⟨RX9, "noCell", "(II)I"⟩
abbrev cX9_put : ByteArray := prog_11_method_69_code
def yX9_put : MethodName := ⟨RX9, "put", "(III)I"⟩
abbrev cX9_cell : ByteArray := prog_11_method_70_code
def yX9_cell : MethodName := ⟨RX9, "cell", "(III)J"⟩
abbrev cX9_isBeyond : ByteArray := prog_11_method_71_code
def yX9_isBeyond : MethodName := ⟨RX9, "isBeyond", "(IJI)Z"⟩
abbrev cX9_copy : ByteArray := prog_11_method_72_code
def yX9_copy : MethodName := ⟨RX9, "copy", "(IIIII)I"⟩
abbrev cX9_traced : ByteArray := prog_11_method_73_code
def yX9_traced : MethodName := ⟨RX9, "traced", "(I)V"⟩
abbrev cX9_tell : ByteArray := prog_11_method_74_code
def yX9_tell : MethodName := ⟨RX9, "tell", "(I)I"⟩
abbrev cX9_greet : ByteArray := prog_11_method_75_code
def yX9_greet : MethodName := ⟨RX9, "greet", "(I)I"⟩
abbrev cX9_as : ByteArray := prog_11_method_76_code
def yX9_as : MethodName := ⟨RX9, "as", "(II)I"⟩
abbrev cX9_trace : ByteArray := prog_11_method_77_code
def yX9_trace : MethodName := ⟨RX9, "trace", "()I"⟩
abbrev cX9_fault : ByteArray := prog_11_method_78_code
def yX9_fault : MethodName := ⟨RX9, "fault", "()I"⟩
abbrev cX9_many : ByteArray := prog_11_method_79_code
def yX9_many : MethodName := ⟨RX9, "many", "(I)I"⟩
def RL : String := "IceSlabLaw"
abbrev cL_law : ByteArray := code
def yL_law : MethodName := ⟨RL, "law", "([I)Z"⟩
abbrev vwCl : List vw_C := [(RX0, TX0, 5), (RX1, TX1, 13), (RX2, TX2, 2), (RX3, TX3, 3), (RX4, TX4, 7), (RX5, TX5, 3), (RX6, TX6, 9), (RX8, TX8, 7), (RX9, TX9, 39)]
